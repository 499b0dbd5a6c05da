/-! Growing worlds, for constructors: what stands already (X), then M cells at a 0 .. a (M - 1), that hold F 0 .. F (M - 1). -/
def gL (M : Nat) (a : Nat → Nat) (F : Nat → va_E) : va_W := (List.range M).map (fun k => (a k, F k))
def gcat {α : Type} (M : Nat) (f g : Nat → α) : Nat → α := fun j => if j < M then f j else g (j - M)
theorem gL_get {M : Nat} {a : Nat → Nat} {F : Nat → va_E} {k : Nat} (hk : k < M) : (gL M a F)[k]? = some (a k, F k) := by
  simp [gL, List.getElem?_map, List.getElem?_range hk]
theorem gL_len {M : Nat} {a : Nat → Nat} {F : Nat → va_E} : (gL M a F).length = M := by simp [gL]
theorem gL_ext {M : Nat} {a : Nat → Nat} {F : Nat → va_E} {w : va_W} (hl : w.length = M) (h : ∀ k, k < M → w[k]? = some (a k, F k)) : w = gL M a F := by
  apply List.ext_getElem?
  intro i
  by_cases hi : i < M
  · rw [h i hi, gL_get hi]
  · rw [List.getElem?_eq_none (by omega), List.getElem?_eq_none (by rw [gL_len]; omega)]
theorem gl_at {X : va_W} {M : Nat} {a : Nat → Nat} {F : Nat → va_E} {k r : Nat} {x : va_E} (hk : k < M) (hr : a k = r) (he : F k = x) : (X ++ gL M a F)[X.length + k]? = some (r, x) := by
  rw [List.getElem?_append_right (by omega), Nat.add_sub_cancel_left, gL_get hk, hr, he]
theorem gl_set {X : va_W} {M : Nat} {a : Nat → Nat} {F : Nat → va_E} {k r : Nat} {x : va_E} (hk : k < M) (hr : a k = r) : (X ++ gL M a F).set (X.length + k) (r, x) = X ++ gL M a (va_up F k x) := by
  have e0 : ∀ (w z : List (Nat × va_E)) (y : Nat × va_E), (w ++ z).set (w.length + k) y = w ++ z.set k y := fun w z y => by
    rw [List.set_append, if_neg (by omega), Nat.add_sub_cancel_left]
  rw [show (X ++ gL M a F).set (X.length + k) (r, x) = X ++ (gL M a F).set k (r, x) from e0 X (gL M a F) (r, x)]
  congr 1
  refine gL_ext (by rw [List.length_set, gL_len]) (fun i hi => ?_)
  by_cases hik : i = k
  · subst hik
    rw [List.getElem?_set_self (by rw [gL_len]; exact hi), hr]
    simp [va_up]
  · rw [List.getElem?_set_ne (Ne.symm hik), gL_get hi]
    simp [va_up, hik]
theorem gl_push {X : va_W} {M : Nat} {a : Nat → Nat} {F : Nat → va_E} {q : Nat} {x : va_E} : (X ++ gL M a F) ++ [(q, x)] = X ++ gL (M + 1) (va_up a M q) (va_up F M x) := by
  rw [List.append_assoc]
  congr 1
  refine gL_ext (by rw [List.length_append, gL_len]; rfl) (fun i hi => ?_)
  by_cases hik : i = M
  · subst hik
    rw [List.getElem?_append_right (by rw [gL_len]; exact Nat.le_refl _), gL_len]
    simp [va_up]
  · rw [List.getElem?_append_left (by rw [gL_len]; omega), gL_get (by omega)]
    simp [va_up, hik]
theorem gl_cat {X : va_W} {M K : Nat} {a b : Nat → Nat} {F G : Nat → va_E} : (X ++ gL M a F) ++ gL K b G = X ++ gL (M + K) (gcat M a b) (gcat M F G) := by
  rw [List.append_assoc]
  congr 1
  refine gL_ext (by rw [List.length_append, gL_len, gL_len]) (fun i hi => ?_)
  by_cases hik : i < M
  · rw [List.getElem?_append_left (by rw [gL_len]; omega), gL_get hik]
    simp [gcat, hik]
  · rw [List.getElem?_append_right (by rw [gL_len]; omega), gL_len, gL_get (by omega)]
    simp [gcat, hik]
theorem gL_congr {M : Nat} {a : Nat → Nat} {F G : Nat → va_E} (h : ∀ j, j < M → F j = G j) : gL M a F = gL M a G :=
  gL_ext gL_len (fun k hk => by rw [gL_get hk, h k hk])
theorem gL_W {M : Nat} {a : Nat → Nat} {F : Nat → va_E} {E : gE} {h : Hp} (hF : ∀ j, j < M → F j = E j (h j)) : gL M a F = gW M E a h := gL_congr hF
theorem gKC_narrow {tb : Nat → Nat} {A B : Nat → Prop} {U : State} (hAB : ∀ q, B q → A q) (h : gKC tb A U) : gKC tb B U :=
  ⟨h.1, ⟨h.2.1.1.narrow hAB, h.2.1.2.narrow hAB⟩, ⟨h.2.2.1.1.narrow hAB, h.2.2.1.2.narrow hAB⟩, ⟨h.2.2.2.1.1.narrow hAB, h.2.2.2.1.2.narrow hAB⟩, ⟨h.2.2.2.2.1.1.narrow hAB, h.2.2.2.2.1.2.narrow hAB⟩, ⟨h.2.2.2.2.2.1.narrow hAB, h.2.2.2.2.2.2.narrow hAB⟩⟩
def glPc (D : va_G) (cl : List vw_C) (tys : List (ClassId × FieldType)) (K : (Nat → Prop) → State → Prop) (X : va_W) (x : va_E) (r sz : Nat) : Array Value → State → Prop :=
  va_Pc [.ref r] (fun U => U.heap.size = sz ∧ va_P D cl (X ++ [(r, x)]) U.heap ∧ va_K D cl tys U ∧ va_D (fun _ => True) (X ++ [(r, x)]) ∧ K (va_A (X ++ [(r, x)]) sz) U)
def glQv (D : va_G) (cl : List vw_C) (X : va_W) (x : va_E) (r sz m : Nat) (Ds : (Nat → Nat) → Nat → va_E) : Array Value → State → Outcome → State → Prop :=
  va_Qv (fun b : Nat → Nat => b 0 = r) (fun b t => va_P D cl (X ++ gL m b (Ds b)) t.heap ∧ va_D (va_A (X ++ [(r, x)]) sz) (X ++ gL m b (Ds b))) (va_A (X ++ [(r, x)]) sz)
theorem gKM2_keep (A : Nat → Prop) : gKeep A ((fun _ => gKM) A) := gKM_keep A
section GL
variable {p : Program} {l : Launch} {e : Env} {R : Room} {s : State} {m : MethodId} {args : Array Value} {below : List Frame} {meth : Method} {c : Code} {H : Heap} {locs : List Loc} {cells slots : Nat} {Q : State → Prop}
variable {cc : ByteArray} {pc : Nat} {ls : Array Slot} {rest : List Value} {D : va_G} {cl : List vw_C} {A : Nat → Prop} {tys : List (ClassId × FieldType)} {H0 : Heap} {X : va_W} {M : Nat} {a : Nat → Nat} {F : Nat → va_E}
theorem gl_get (hexec : p.tables.exec = Jvm.exec) (hb : c.code = cc) (hts : ∀ w ∈ TB, w.before args s = true) {own C : String} {T : u_T} {N ci index : Nat} (hin : ∀ w ∈ u_ws C T N, w ∈ TB) (hown : s.vm.findClass own = some m.cls) (hK : va_K D cl tys s) (hP : va_P D cl (X ++ gL M a F) H) (k0 : Nat) (hk0 : k0 < M) {r : Nat} (hr : a k0 = r) {fs : List Value} (he : F k0 = .inr (ci, fs)) (hc : cl[ci]? = some (C, T, N)) (k : Nat) (hk : k < N) (hlink : Cond.fieldLink own index (T k).1 (T k).2.1 (T k).2.2.1 ∈ TB) {v : Value} (hv : fs[k]? = some v) (hdg : decode cc pc = .ok (.getfield index, 3))
    (kk : W p l e R s m args below meth c H locs cells slots Q (F0 m (pc + 3) ls (v :: rest))) : W p l e R s m args below meth c H locs cells slots Q (F0 m pc ls (.ref r :: rest)) :=
  va_get hexec hb hts hin hown hK hP _ (gl_at hk0 hr he) hc k hk (hts _ hlink) (fun _ z => z) hv hdg kk
theorem gl_put (hexec : p.tables.exec = Jvm.exec) (hb : c.code = cc) (hts : ∀ w ∈ TB, w.before args s = true) {own C : String} {T : u_T} {N ci index : Nat} (hin : ∀ w ∈ u_ws C T N, w ∈ TB) (ty0 : Nat → FieldType) (hty : ∀ k, k < N → parseFieldDescriptor (T k).2.2.1 = some (ty0 k)) (hnm : ∀ a, a < N → ∀ b, b < N → a ≠ b → (T a).2.1 ≠ (T b).2.1) (hown : s.vm.findClass own = some m.cls) (hK : va_K D cl tys s) (hP : va_P D cl (X ++ gL M a F) H) (hD : va_D A (X ++ gL M a F)) (hS : va_S A H0 H locs) (k0 : Nat) (hk0 : k0 < M) {r : Nat} (hr : a k0 = r) {fs : List Value} (he : F k0 = .inr (ci, fs)) (hc : cl[ci]? = some (C, T, N)) (k : Nat) (hk : k < N) (hlink : Cond.fieldLink own index (T k).1 (T k).2.1 (T k).2.2.1 ∈ TB) (hfin : (T k).2.2.2 = false) {v : Value} (hn : narrow (ty0 k) v = v) (hfit : fits (ty0 k) v = true) (hl : k < fs.length) {fs' : List Value} (hfs : fs.set k v = fs') (hdg : decode cc pc = .ok (.putfield index, 3))
    (kk : ∀ (H1 : Heap) (locs1 : List Loc), va_P D cl (X ++ gL M a (va_up F k0 (.inr (ci, fs')))) H1 → va_D A (X ++ gL M a (va_up F k0 (.inr (ci, fs')))) → va_S A H0 H1 locs1 → W p l e R s m args below meth c H1 locs1 cells slots Q (F0 m (pc + 3) ls rest)) : W p l e R s m args below meth c H locs cells slots Q (F0 m pc ls (v :: .ref r :: rest)) :=
  va_put hexec hb hts hin ty0 hty hnm hown hK hP hD hS _ (gl_at hk0 hr he) hc k hk (hts _ hlink) (fun _ z => z) hfin (hty k hk) hn hfit hl hdg (fun H1 locs1 hP1 hD1 hS1 => by
    rw [gl_set hk0 hr, hfs] at hP1 hD1
    exact kk H1 locs1 hP1 hD1 hS1)
theorem gl_putF (hexec : p.tables.exec = Jvm.exec) (hb : c.code = cc) (hts : ∀ w ∈ TB, w.before args s = true) {own C : String} {T : u_T} {N ci index : Nat} (hin : ∀ w ∈ u_ws C T N, w ∈ TB) (ty0 : Nat → FieldType) (hty : ∀ k, k < N → parseFieldDescriptor (T k).2.2.1 = some (ty0 k)) (hnm : ∀ a, a < N → ∀ b, b < N → a ≠ b → (T a).2.1 ≠ (T b).2.1) (hown : s.vm.findClass own = some m.cls) (hK : va_K D cl tys s) (hP : va_P D cl (X ++ gL M a F) H) (hD : va_D A (X ++ gL M a F)) (hS : va_S A H0 H locs) (k0 : Nat) (hk0 : k0 < M) {r : Nat} (hr : a k0 = r) {fs : List Value} (he : F k0 = .inr (ci, fs)) (hc : cl[ci]? = some (C, T, N)) (k : Nat) (hk : k < N) (hlink : Cond.fieldLink own index (T k).1 (T k).2.1 (T k).2.2.1 ∈ TB) (hfin : (T k).2.2.2 = true) (hin2 : meth.name = "<init>") (hdecl : (T k).1 = own) {v : Value} (hn : narrow (ty0 k) v = v) (hfit : fits (ty0 k) v = true) (hl : k < fs.length) {fs' : List Value} (hfs : fs.set k v = fs') (hdg : decode cc pc = .ok (.putfield index, 3))
    (kk : ∀ (H1 : Heap) (locs1 : List Loc), va_P D cl (X ++ gL M a (va_up F k0 (.inr (ci, fs')))) H1 → va_D A (X ++ gL M a (va_up F k0 (.inr (ci, fs')))) → va_S A H0 H1 locs1 → W p l e R s m args below meth c H1 locs1 cells slots Q (F0 m (pc + 3) ls rest)) : W p l e R s m args below meth c H locs cells slots Q (F0 m pc ls (v :: .ref r :: rest)) :=
  va_putF hexec hb hts hin ty0 hty hnm hown hK hP hD hS _ (gl_at hk0 hr he) hc k hk (hts _ hlink) (fun _ z => z) hfin hin2 hdecl (hty k hk) hn hfit hl hdg (fun H1 locs1 hP1 hD1 hS1 => by
    rw [gl_set hk0 hr, hfs] at hP1 hD1
    exact kk H1 locs1 hP1 hD1 hS1)
theorem gl_iast (hexec : p.tables.exec = Jvm.exec) (hb : c.code = cc) (hK : va_K D cl tys s) (hP : va_P D cl (X ++ gL M a F) H) (hD : va_D A (X ++ gL M a F)) (hS : va_S A H0 H locs) (k0 t0 : Nat) (hk0 : k0 < M) {r : Nat} (hr : a k0 = r) {cA : ClassId} {N : Nat} {f : Nat → Int32} (he : F k0 = .inl (cA, N, .inl f)) (ht : tys[t0]? = some (cA, .int)) {i x : Int32} (hin : vp_in i N) (j : Nat) (hj : i.toNatClampNeg = j) (hdg : decode cc pc = .ok (.iastore, 1))
    (kk : ∀ (H1 : Heap) (locs1 : List Loc), va_P D cl (X ++ gL M a (va_up F k0 (.inl (cA, N, .inl (upd f j x))))) H1 → va_D A (X ++ gL M a (va_up F k0 (.inl (cA, N, .inl (upd f j x))))) → va_S A H0 H1 locs1 → W p l e R s m args below meth c H1 locs1 cells slots Q (F0 m (pc + 1) ls rest)) : W p l e R s m args below meth c H locs cells slots Q (F0 m pc ls (.int x :: .int i :: .ref r :: rest)) := by
  subst hj
  exact va_iast hexec hb hK hP hD hS _ t0 (gl_at hk0 hr he) ht hin hdg (fun H1 locs1 hP1 hD1 hS1 => by
    rw [gl_set hk0 hr] at hP1 hD1
    exact kk H1 locs1 hP1 hD1 hS1)
theorem gl_astq (hexec : p.tables.exec = Jvm.exec) (hb : c.code = cc) (hK : va_K D cl tys s) (hP : va_P D cl (X ++ gL M a F) H) (hD : va_D A (X ++ gL M a F)) (hS : va_S A H0 H locs) (k0 t0 k1 : Nat) (hk0 : k0 < M) {r : Nat} (hr : a k0 = r) {cA : ClassId} {N : Nat} {f : Nat → Option Nat} (he : F k0 = .inl (cA, N, .inr (.inr (.inr (.inr f))))) {q : vw_C} (ht : tys[t0]? = some (cA, .object q.1)) (hk1 : k1 < M) {v ci : Nat} {vs : List Value} (hv : a k1 = v) (hev : F k1 = .inr (ci, vs)) (hc : cl[ci]? = some q) {i : Int32} (hin : vp_in i N) (j : Nat) (hj : i.toNatClampNeg = j) (hdg : decode cc pc = .ok (.aastore, 1))
    (kk : ∀ (H1 : Heap) (locs1 : List Loc), va_P D cl (X ++ gL M a (va_up F k0 (.inl (cA, N, .inr (.inr (.inr (.inr (va_up f j (some v))))))))) H1 → va_D A (X ++ gL M a (va_up F k0 (.inl (cA, N, .inr (.inr (.inr (.inr (va_up f j (some v))))))))) → va_S A H0 H1 locs1 → W p l e R s m args below meth c H1 locs1 cells slots Q (F0 m (pc + 1) ls rest)) : W p l e R s m args below meth c H locs cells slots Q (F0 m pc ls (.ref v :: .int i :: .ref r :: rest)) := by
  subst hj
  exact va_astq hexec hb hK hP hD hS _ t0 _ ci (gl_at hk0 hr he) ht (gl_at hk1 hv hev) hc hin hdg (fun H1 locs1 hP1 hD1 hS1 => by
    rw [gl_set hk0 hr] at hP1 hD1
    exact kk H1 locs1 hP1 hD1 hS1)
theorem gl_newa (hexec : p.tables.exec = Jvm.exec) (hb : c.code = cc) (hts : ∀ w ∈ TB, w.before args s = true) {atype : ArrayType} (harr : Cond.arrayClass (newarray.typeOf atype) ∈ TB) (hK : va_K D cl tys s) (hP : va_P D cl (X ++ gL M a F) H) (hD : va_D A (X ++ gL M a F)) (hS : va_S A H0 H locs) (hA : ∀ q, H0.size ≤ q → A q) (t0 : Nat) {cI : ClassId} (ht : tys[t0]? = some (cI, newarray.typeOf atype)) (hz : defaultValue (newarray.typeOf atype) = .int 0)
    {n : Int32} (N : Nat) (hn : ¬ n < 0) (hN : n.toNatClampNeg = N) (hbytes : N * componentBytes (newarray.typeOf atype) ≤ 536870912) (hcells : cells + 1 ≤ R.cells) (hslots : slots + N ≤ R.slots) (hdg : decode cc pc = .ok (.newarray atype, 2))
    (kk : ∀ (q : Nat) (H1 : Heap), va_P D cl (X ++ gL (M + 1) (va_up a M q) (va_up F M (.inl (cI, N, .inl (fun _ => 0))))) H1 → va_D A (X ++ gL (M + 1) (va_up a M q) (va_up F M (.inl (cI, N, .inl (fun _ => 0))))) → va_S A H0 H1 locs →
      W p l e R s m args below meth c H1 locs (cells + 1) (slots + N) Q (F0 m (pc + 2) ls (.ref q :: rest))) : W p l e R s m args below meth c H locs cells slots Q (F0 m pc ls (.int n :: rest)) := by
  refine va_newa hexec hb (hts _ harr) rfl hK hP hD hS hA (a0 := (N, .inl (fun _ => 0))) (fun cA => by rw [hz]; rfl) hn hN hbytes hcells hslots hdg (fun q cA H1 hK1 hP1 hD1 hS1 => ?_)
  have e1 : cA = cI := by
    have z1 := (hK1.2 tys.length (cA, newarray.typeOf atype) (by rw [List.getElem?_append_right (Nat.le_refl _), Nat.sub_self]; rfl)).2
    have z2 := (hK.2 t0 _ ht).2
    cases atype <;> exact Option.some.inj (Eq.trans (Eq.symm z1) z2)
  subst e1
  rw [gl_push] at hP1 hD1
  exact kk q H1 hP1 hD1 hS1
theorem gl_newq (hexec : p.tables.exec = Jvm.exec) (hb : c.code = cc) (hts : ∀ w ∈ TB, w.before args s = true) {own C : String} {index : Nat} (hown : s.vm.findClass own = some m.cls) (hclink : Cond.classLink own index C ∈ TB) (hover : va_AO C s) (hK : va_K D cl tys s) (hP : va_P D cl (X ++ gL M a F) H) (hD : va_D A (X ++ gL M a F)) (hS : va_S A H0 H locs) (hA : ∀ q, H0.size ≤ q → A q) (t0 : Nat) {cI : ClassId} (ht : tys[t0]? = some (cI, .object C))
    {n : Int32} (N : Nat) (hn : ¬ n < 0) (hN : n.toNatClampNeg = N) (hbytes : N * 4 ≤ 536870912) (hcells : cells + 1 ≤ R.cells) (hslots : slots + N ≤ R.slots) (hdg : decode cc pc = .ok (.anewarray index, 3))
    (kk : ∀ (q : Nat) (H1 : Heap), va_P D cl (X ++ gL (M + 1) (va_up a M q) (va_up F M (.inl (cI, N, .inr (.inr (.inr (.inr (fun _ => none)))))))) H1 → va_D A (X ++ gL (M + 1) (va_up a M q) (va_up F M (.inl (cI, N, .inr (.inr (.inr (.inr (fun _ => none)))))))) → va_S A H0 H1 locs →
      W p l e R s m args below meth c H1 locs (cells + 1) (slots + N) Q (F0 m (pc + 3) ls (.ref q :: rest))) : W p l e R s m args below meth c H locs cells slots Q (F0 m pc ls (.int n :: rest)) := by
  refine va_newq hexec hb hown (hts _ hclink) hover hK hP hD hS hA hn hN hbytes hcells hslots hdg (fun q cA H1 hK1 hP1 hD1 hS1 => ?_)
  have e1 : cA = cI := by
    obtain ⟨kA, comp, -, -, -, z1⟩ := (hK1.2 tys.length (cA, .object C) (by rw [List.getElem?_append_right (Nat.le_refl _), Nat.sub_self]; rfl)).2
    obtain ⟨kA2, comp2, -, -, -, z2⟩ := (hK.2 t0 _ ht).2
    exact Option.some.inj (z1.symm.trans z2)
  subst e1
  rw [gl_push] at hP1 hD1
  exact kk q H1 hP1 hD1 hS1
theorem gl_new (hexec : p.tables.exec = Jvm.exec) (hb : c.code = cc) (hts : ∀ w ∈ TB, w.before args s = true) {own C : String} {T : u_T} {N ci index : Nat} (hin : ∀ w ∈ u_ws C T N, w ∈ TB) (ty : Nat → FieldType) (hty : ∀ k, k < N → parseFieldDescriptor (T k).2.2.1 = some (ty k)) (hown : s.vm.findClass own = some m.cls) (hcl : Cond.classLink own index C ∈ TB) (hinst : Cond.instantiable C N ∈ TB) (hini : Cond.initialized C ∈ TB)
    (hK : va_K D cl tys s) (hP : va_P D cl X H) (hD : va_D A X) (hS : va_S A H0 H locs) (hA : ∀ q, H0.size ≤ q → A q) (hc : cl[ci]? = some (C, T, N)) {fs : List Value} (hfs : ∀ j, j < N → defaultValue (ty j) = vp_V fs j) (hcells : cells + 1 ≤ R.cells) (hslots : slots + N ≤ R.slots) (hdg : decode cc pc = .ok (.new index, 3))
    (kk : ∀ (q : Nat) (H1 : Heap), va_P D cl (X ++ [(q, .inr (ci, fs))]) H1 → va_D A (X ++ [(q, .inr (ci, fs))]) → va_S A H0 H1 locs →
      W p l e R s m args below meth c H1 locs (cells + 1) (slots + N) Q (F0 m (pc + 3) ls (.ref q :: rest))) : W p l e R s m args below meth c H locs cells slots Q (F0 m pc ls rest) :=
  va_new hexec hb hts hin ty hty hown (hts _ hcl) (hts _ hinst) (hts _ hini) hK hP hD hS hA hc hfs hcells hslots hdg kk
theorem glPc_blind {K : (Nat → Prop) → State → Prop} {x : va_E} {r sz : Nat} (hk : ∀ A, gKeep A (K A)) : FrameBlind (glPc D cl tys K X x r sz) := by
  intro a U g mk q
  obtain ⟨q0, q1, qP, qK, qD, qk⟩ := q
  exact ⟨q0, q1, qP, va_K.moved (u := U) (U := U.calling g mk a) (Vm.Alike.refl U.vm) qK, qD, (hk _).1 U g mk a qk⟩
theorem va_A_sub {ws : va_W} {A0 : Nat → Prop} {sz : Nat} (hD : va_D A0 ws) (hA : ∀ q, sz ≤ q → A0 q) : ∀ q, va_A ws sz q → A0 q := by
  intro q h
  rcases h with ⟨k, e, h⟩ | h
  · exact hD.2 k (q, e) h
  · exact hA q h
variable {K : (Nat → Prop) → State → Prop} {own : String} {nL index maxL mc ms : Nat} {y : MethodName} {b : ByteArray} {rm : Room} {st0 : List Value} {x : va_E} {r N : Nat} {Ds : (Nat → Nat) → Nat → va_E}
/-- a constructor of our own is called, on what 'new' has just made -/
theorem gl_init (S : CallFix p m c cc nL s args TB own) (hkeep : ∀ A, gKeep A (K A)) (hnar : ∀ (A B : Nat → Prop) (U : State), (∀ q, B q → A q) → K A U → K B U) (hKs : K A s) (hK : va_K D cl tys s) (hP : va_P D cl ((X ++ gL M a F) ++ [(r, x)]) H) (hD : va_D A ((X ++ gL M a F) ++ [(r, x)])) (hS : va_S A s.heap H locs) (hA : ∀ q, s.heap.size ≤ q → A q) (rest : List Value)
    (hM : Met l y (Cond.code y b maxL none :: TB) rm (glPc D cl tys K (X ++ gL M a F) x r H.size) (glQv D cl (X ++ gL M a F) x r H.size N Ds) mc ms (va_A ((X ++ gL M a F) ++ [(r, x)]) H.size)) (cb : CallB R s args own index y b maxL none (Cond.code y b maxL none :: TB) rm mc ms 0) (hin : Cond.instanceMethod y ∈ TB) (hy : y.name = "<init>") (hsize : ls.size = nL) (hst : st0 = .ref r :: rest) (hW : (rest.map fun v => v.category).sum ≤ 8) (hdg : decode cc pc = .ok (.invokespecial index, 3)) (hf : cells + mc ≤ R.cells ∧ slots + ms ≤ R.slots)
    (kk : ∀ (b1 : Nat → Nat), b1 0 = r → ∀ (H1 : Heap) (locs1 : List Loc), va_P D cl (X ++ gL (M + N) (gcat M a b1) (gcat M F (Ds b1))) H1 → va_D A (X ++ gL (M + N) (gcat M a b1) (gcat M F (Ds b1))) → va_S A s.heap H1 locs1 → W p l e R s m args below meth c H1 locs1 (cells + mc) (slots + ms) Q (F0 m (pc + 3) ls rest)) : W p l e R s m args below meth c H locs cells slots Q (F0 m pc ls st0) := by
  have hsub := va_A_sub hD (fun q h => hA q (Nat.le_trans hS.1 h))
  refine va_callv (A0 := A) (H0 := s.heap) (va_runI (b := r) (As := []) (rest := rest) S hM ⟨cb, hy, S.2.2.2.2 _ hin⟩ ⟨glPc_blind hkeep, fun U hU hW => ⟨rfl, by rw [hU], by rw [hU]; exact hP, va_K.moved hW.alike hK, hD.weaken (fun _ _ _ _ => trivial), hnar _ _ _ hsub ((hkeep A).2 s U hKs hW (fun q h1 h2 => by rw [hU]; exact hS.2.1 q h1 h2))⟩⟩ rfl rfl hsize hst (lv_room hW) hdg hf) hS (fun q _ h => hsub q h) hsub (fun u t H1 locs1 ht hvm hw hB hz hk1 hS1 => ?_)
  obtain ⟨hP1, hD1⟩ := hB
  rw [ht, gl_cat] at hP1
  rw [gl_cat] at hD1
  exact kk u hw H1 locs1 hP1 (hD1.weaken (fun _ _ _ h => hsub _ h)) hS1
theorem gl_initN {host : String} (S : CallFix p m c cc nL s args TB own) (hkeep : ∀ A, gKeep A (K A)) (hnar : ∀ (A B : Nat → Prop) (U : State), (∀ q, B q → A q) → K A U → K B U) (hKs : K A s) (hK : va_K D cl tys s) (hP : va_P D cl ((X ++ gL M a F) ++ [(r, x)]) H) (hD : va_D A ((X ++ gL M a F) ++ [(r, x)])) (hS : va_S A s.heap H locs) (hA : ∀ q, s.heap.size ≤ q → A q) (rest : List Value)
    (hM : Met l y (Cond.code y b maxL none :: TB) rm (glPc D cl tys K (X ++ gL M a F) x r H.size) (glQv D cl (X ++ gL M a F) x r H.size N Ds) mc ms (va_A ((X ++ gL M a F) ++ [(r, x)]) H.size)) (cb : va_CN R s args own index y host b maxL none (Cond.code y b maxL none :: TB) rm mc ms 0) (hin : Cond.instanceMethod y ∈ TB) (hy : y.name = "<init>") (hsize : ls.size = nL) (hst : st0 = .ref r :: rest) (hW : (rest.map fun v => v.category).sum ≤ 8) (hdg : decode cc pc = .ok (.invokespecial index, 3)) (hf : cells + mc ≤ R.cells ∧ slots + ms ≤ R.slots)
    (kk : ∀ (b1 : Nat → Nat), b1 0 = r → ∀ (H1 : Heap) (locs1 : List Loc), va_P D cl (X ++ gL (M + N) (gcat M a b1) (gcat M F (Ds b1))) H1 → va_D A (X ++ gL (M + N) (gcat M a b1) (gcat M F (Ds b1))) → va_S A s.heap H1 locs1 → W p l e R s m args below meth c H1 locs1 (cells + mc) (slots + ms) Q (F0 m (pc + 3) ls rest)) : W p l e R s m args below meth c H locs cells slots Q (F0 m pc ls st0) := by
  have hsub := va_A_sub hD (fun q h => hA q (Nat.le_trans hS.1 h))
  refine va_callv (A0 := A) (H0 := s.heap) (va_runIN (b := r) (As := []) (rest := rest) S hM ⟨cb, hy, S.2.2.2.2 _ hin⟩ ⟨glPc_blind hkeep, fun U hU hW => ⟨rfl, by rw [hU], by rw [hU]; exact hP, va_K.moved hW.alike hK, hD.weaken (fun _ _ _ _ => trivial), hnar _ _ _ hsub ((hkeep A).2 s U hKs hW (fun q h1 h2 => by rw [hU]; exact hS.2.1 q h1 h2))⟩⟩ rfl rfl hsize hst (lv_room hW) hdg hf) hS (fun q _ h => hsub q h) hsub (fun u t H1 locs1 ht hvm hw hB hz hk1 hS1 => ?_)
  obtain ⟨hP1, hD1⟩ := hB
  rw [ht, gl_cat] at hP1
  rw [gl_cat] at hD1
  exact kk u hw H1 locs1 hP1 (hD1.weaken (fun _ _ _ h => hsub _ h)) hS1
/-- a constructor's end -/
theorem gl_ret (hexec : p.tables.exec = Jvm.exec) (hb : c.code = cc) (hr : meth.sig.returnType = none) (hlocks : meth.locks = false) {sz : Nat} (hP : va_P D cl (X ++ gL N a F) H) (hD : va_D (va_A (X ++ [(r, x)]) sz) (X ++ gL N a F)) (hS : va_S (va_A (X ++ [(r, x)]) sz) s.heap H locs) (h0 : a 0 = r) (hF : ∀ j, j < N → F j = Ds a j) (hdg : decode cc pc = .ok (.return_, 1)) : W p l e R s m args below meth c H locs cells slots (MQ below (glQv D cl X x r sz N Ds) args s cells slots (va_A (X ++ [(r, x)]) sz)) (F0 m pc ls []) := by
  rw [gL_congr hF] at hP hD
  exact W.vret hexec hb hr (fun t ht hW => ⟨⟨a, rfl, h0, by rw [ht]; exact hP, hD⟩, hS.F ht⟩) hS.2.2 hdg hlocks
/-- FIRST_SETTING and its like are copied into an array of the world -/
theorem gl_copyT (hexec : p.tables.exec = Jvm.exec) (hb : c.code = cc) (hml : c.maxLocals = ls.size) (hts : ∀ w ∈ TB, w.before args s = true) (hown : s.vm.findClass own = some m.cls) (hlink : Cond.methodLink own index arraycopyName ∈ TB) (hnat : Cond.native arraycopyName ∈ TB) (hstat : Cond.static arraycopyName ∈ TB) (hini : Cond.initialized "java/lang/System" ∈ TB)
    (hK : va_K D cl tys s) (hP : va_P D cl (X ++ gL M a F) H) (hD : va_D A (X ++ gL M a F)) (hS : va_S A s.heap H locs) (k0 t0 : Nat) (hk0 : k0 < M) {r : Nat} (hr : a k0 = r) {cA : ClassId} {f g : Nat → Int32} {t : Nat} (he : F k0 = .inl (cA, N, .inl g)) (ht : tys[t0]? = some (cA, .int)) (hT : va_T .int t N (fun j => .int (f j)) A s s.heap) {n : Int32} (hn0 : ¬ n < 0) (hn1 : n.toNatClampNeg = N)
    (hframes : 1 ≤ R.frames) (hlocals : (rest.map fun v => v.category).sum + (nativeFrameWords "java/lang/System" "arraycopy" 5 + 11) ≤ R.locals) (hdg : decode cc pc = .ok (.invokestatic index, 3))
    (kk : ∀ (H1 : Heap) (locs1 : List Loc), va_P D cl (X ++ gL M a (va_up F k0 (.inl (cA, N, .inl (va_cpy f g 0 0 N))))) H1 → va_D A (X ++ gL M a (va_up F k0 (.inl (cA, N, .inl (va_cpy f g 0 0 N))))) → va_S A s.heap H1 locs1 → W p l e R s m args below meth c H1 locs1 cells slots Q (F0 m (pc + 3) ls rest)) : W p l e R s m args below meth c H locs cells slots Q (F0 m pc ls (.int n :: .int 0 :: .ref r :: .int 0 :: .ref t :: rest)) := by
  intro T hT' X0
  obtain ⟨scr, hs1, hs2, hs3, hs4, -, hs5, hs7⟩ := hT
  have z0 : (0 : Int32).toNatClampNeg = 0 := by decide
  have zi : (0 : Int32).toInt = 0 := by decide
  have zn : n.toInt = (N : Int) := by
    have h1 : (0 : Int) ≤ n.toInt := by
      have := Int32.not_lt.mp hn0
      simpa using Int32.le_iff_toInt_le.mp this
    have h2 : n.toInt.toNat = N := hn1
    omega
  have ha1 : (X ++ gL M a F)[X.length + k0]? = some (r, .inl (cA, N, .inl g)) := gl_at hk0 hr he
  have hc0 : H[t]? = some scr := by rw [hS.2.1 t (Array.getElem?_eq_some_iff.mp hs1).1 hs7]; exact hs1
  have hc1 : H[r]? = some (vp_cell cA (N, .inl g)) := hP _ _ ha1
  obtain ⟨hs6, k0', hk0', cm0, hkk0⟩ := hs2
  obtain ⟨-, k1, hk1, cm1, hkk1⟩ := (hK.2 t0 _ ht).1 N (fun j => .int (g j))
  obtain ⟨vm', X', step⟩ := X0.arraycopy hexec hown (hts _ hlink) (hts _ hnat) (hts _ hstat) (hts _ hini) (src := t) (dst := r) (cs := scr) (cd := vp_cell cA (N, .inl g)) (srcPos := 0) (destPos := 0) (n := n) (by rw [hT']; exact hc0) (by rw [hT']; exact hc1)
    hs6 (fun _ h => by cases h) hs3 (fun h => by cases h) hk0' hk1 hkk0 hkk1 (by simp [refKind]) (by decide) (by decide) hn0
    (by rw [zi, zn]; omega)
    (by rw [zi, zn]; show ¬ _ > ((arrV cA N (fun j => .int (g j))).slots.size : Int); rw [arrV_size]; omega)
    (fun vm₁ _ i hi => by
      have e : scr.slots.getD ((0 : Int32).toNatClampNeg + i) .null = .int (f ((0 : Int32).toNatClampNeg + i)) := by
        rw [Array.getD_eq_getD_getElem?, hs5 _ (by rw [z0]; omega)]
        rfl
      refine ⟨?_, ?_⟩
      · rw [e]
        rfl
      · rw [e]
        exact trivial)
    (g := F0 m pc ls (.int n :: .int 0 :: .ref r :: .int 0 :: .ref t :: rest)) rfl (by rw [hml]) (rest := rest) rfl (by rw [hb]; exact hdg) hframes (by show 2 * 0 + _ + _ ≤ _; omega)
  have e1 : copied scr (vp_cell cA (N, .inl g)) 0 0 n = vp_cell cA (N, .inl (va_cpy f g 0 0 N)) := by
    have e2 := va_copiedX (fun z => Value.int z) scr cA (n1 := N) f g hs5 (sp := 0) (dp := 0) (n := N) (by omega)
    rw [← hn1] at e2 ⊢
    exact e2
  rw [e1] at X' step
  have hl : r < H.size := (Array.getElem?_eq_some_iff.mp hc1).1
  have hheap : ((T.setVm vm').setCell r (vp_cell cA (N, .inl (va_cpy f g 0 0 N)))).heap = H.setIfInBounds r (vp_cell cA (N, .inl (va_cpy f g 0 0 N))) := by rw [← hT']; rfl
  have oq : ∀ q : Nat, q ≠ r → (H.setIfInBounds r (vp_cell cA (N, .inl (va_cpy f g 0 0 N))))[q]? = H[q]? := fun q hq => by simp [Array.getElem?_setIfInBounds, Ne.symm hq]
  have hP2 := hP.set hD ha1 (e := .inl (cA, N, .inl (va_cpy f g 0 0 N))) (show (H.setIfInBounds r _)[r]? = some _ by simp [Array.getElem?_setIfInBounds, hl]) oq
  have hD2 := hD.set (e := .inl (cA, N, .inl (va_cpy f g 0 0 N))) ha1
  rw [gl_set hk0 hr] at hP2 hD2
  obtain ⟨t9, a1, b1⟩ := kk _ _ hP2 hD2 ⟨by simp; exact hS.1, fun q g1 g2 => by
      rw [oq q (fun e => g2 (by rw [e]; exact hD.2 _ _ ha1))]
      exact hS.2.1 q g1 g2, fun q hq => by
      rcases List.mem_append.mp hq with h | h
      · exact hS.2.2 q h
      · obtain ⟨z, -, hz⟩ := List.mem_map.mp h
        rw [← hz]
        exact hD.2 _ _ ha1⟩ _ hheap X'
  exact ⟨t9, step t9 a1, b1⟩
end GL
/-- a constructor's start -/
theorem gl_start {l : Launch} {y : MethodName} {rm : Room} {D : va_G} {cl : List vw_C} {tys : List (ClassId × FieldType)} {K : (Nat → Prop) → State → Prop} {X : va_W} {x : va_E} {r sz mc ms N : Nat} {Ds : (Nat → Nat) → Nat → va_E} {cc : ByteArray} {maxL : Nat} (hy : plainName y.cls = true) (hyn : y.name = "<init>") (hl0 : 1 ≤ maxL)
    (body : ∀ (p : Program) (e : Env) (s : State) (m : MethodId) (below : List Frame) (meth : Method) (c : Code) (ls : Array Slot), p.tables.exec = Jvm.exec → c.code = cc → meth.sig.returnType = none → meth.locks = false → c.maxLocals = maxL → s.vm.findClass y.cls = some m.cls → meth.name = "<init>" → (∀ w ∈ TB, w.before #[Value.ref r] s = true) → va_K D cl tys s → K (va_A (X ++ [(r, x)]) sz) s → va_P D cl (X ++ gL 1 (fun _ => r) (fun _ => x)) s.heap → va_D (va_A (X ++ [(r, x)]) sz) (X ++ gL 1 (fun _ => r) (fun _ => x)) → va_S (va_A (X ++ [(r, x)]) sz) s.heap s.heap [] → (∀ q, s.heap.size ≤ q → va_A (X ++ [(r, x)]) sz q) → lv_has ls maxL [(0, .ref r)] →
      W p l e rm s m #[Value.ref r] below meth c s.heap [] 0 0 (MQ below (glQv D cl X x r sz N Ds) #[Value.ref r] s mc ms (va_A (X ++ [(r, x)]) sz)) (F0 m 0 ls [])) : Met l y (Cond.code y cc maxL none :: TB) rm (glPc D cl tys K X x r sz) (glQv D cl X x r sz N Ds) mc ms (va_A (X ++ [(r, x)]) sz) := by
  refine Met.ofW (cc := cc) (maxL := maxL) (ret := none) hy rfl ?_
  intro p e s m args below meth c s₁ B hml hv
  obtain ⟨rfl, hsz, hP, hK, hD, hk⟩ := hv
  have hts := atoms_spec (ws := Cond.code y cc maxL none :: TB) B.pre
  have hown : s.vm.findClass y.cls = some m.cls := findClass_of_methodNamed B.named
  have hl := lv_entry [.ref r] (n := maxL) hl0
  have hin : meth.name = "<init>" := ((name_of_methodNamed B.named B.method).1).trans hyn
  have e1 : gL 1 (fun _ => r) (fun _ => x) = [(r, x)] := rfl
  rw [lg_entry_eq]
  exact body p e s m below meth c _ B.exec B.bytes B.returns B.notSynchronized hml hown hin (fun w hw => hts w (List.mem_cons_of_mem _ hw)) hK hk (by rw [e1]; exact hP) (by rw [e1]; exact hD.self) va_S.rf (fun q h => Or.inr (by rw [← hsz]; exact h)) hl
