/-! Worlds of fixed layout: N cells at the addresses ad 0 .. ad (N - 1); cell k holds what E k says of a row of ints (h k). -/
abbrev Hp : Type := Nat → Nat → Int32
def up1 (h : Hp) (k : Nat) (f : Nat → Int32) : Hp := fun a => if a = k then f else h a
theorem up1_s (h : Hp) (k : Nat) (f : Nat → Int32) : up1 h k f k = f := by simp [up1]
theorem up1_n (h : Hp) {k j : Nat} (f : Nat → Int32) (n : j ≠ k) : up1 h k f j = h j := by simp [up1, n]
abbrev gE : Type := Nat → (Nat → Int32) → va_E
def gW (N : Nat) (E : gE) (ad : Nat → Nat) (h : Hp) : va_W := (List.range N).map (fun k => (ad k, E k (h k)))
theorem gW_at {N : Nat} {E : gE} {ad : Nat → Nat} {h : Hp} {k : Nat} (hk : k < N) {e : va_E} (he : E k (h k) = e) : (gW N E ad h)[k]? = some (ad k, e) := by
  simp [gW, List.getElem?_map, List.getElem?_range hk, he]
theorem gW_set {N : Nat} {E : gE} {ad : Nat → Nat} {h : Hp} {k : Nat} (hk : k < N) (f : Nat → Int32) {e : va_E} (he : E k f = e) : (gW N E ad h).set k (ad k, e) = gW N E ad (up1 h k f) := by
  subst he
  apply List.ext_getElem?
  intro i
  by_cases hi : i = k
  · subst hi
    rw [List.getElem?_set_self (by simp [gW, hk])]
    rw [gW_at hk rfl, up1_s]
  · rw [List.getElem?_set_ne (Ne.symm hi)]
    by_cases hn : i < N
    · rw [gW_at hn rfl, gW_at hn rfl, up1_n h f hi]
    · rw [List.getElem?_eq_none (by simp [gW]; omega), List.getElem?_eq_none (by simp [gW]; omega)]
def gA (N : Nat) (ad : Nat → Nat) : Nat → Prop := fun q => ∃ k, k < N ∧ q = ad k
theorem gW_get {N : Nat} {E : gE} {ad : Nat → Nat} {h : Hp} {k : Nat} {q : Nat × va_E} (hk : (gW N E ad h)[k]? = some q) : k < N ∧ q = (ad k, E k (h k)) := by
  have hl : k < N := by
    have := (List.getElem?_eq_some_iff.mp hk).1
    simpa [gW] using this
  exact ⟨hl, Option.some.inj (hk.symm.trans (gW_at hl rfl))⟩
theorem gD_any {N : Nat} {E E' : gE} {ad : Nat → Nat} {h h' : Hp} {A B : Nat → Prop} (hD : va_D A (gW N E ad h)) (hAB : ∀ k, k < N → A (ad k) → B (ad k)) : va_D B (gW N E' ad h') := by
  refine ⟨fun i j p q hi hj hpq => ?_, fun k q hk => ?_⟩
  · obtain ⟨i1, rfl⟩ := gW_get hi
    obtain ⟨j1, rfl⟩ := gW_get hj
    exact hD.1 i j _ _ (gW_at i1 rfl) (gW_at j1 rfl) hpq
  · obtain ⟨k1, rfl⟩ := gW_get hk
    exact hAB k k1 (hD.2 k _ (gW_at k1 rfl))
theorem gD_A {N : Nat} {E : gE} {ad : Nat → Nat} {h : Hp} {A : Nat → Prop} (hD : va_D A (gW N E ad h)) : va_D (gA N ad) (gW N E ad h) := gD_any hD (fun k hk _ => ⟨k, hk, rfl⟩)
/-- what a class's world takes as given beside its cells, and keeps: under a call, and while others' cells stay -/
def gKeep (A : Nat → Prop) (K : State → Prop) : Prop := (∀ (U : State) (g : JFrame) (mk : MethodId) (a : Array Value), K U → K (U.calling g mk a)) ∧ ∀ s U : State, K s → s.WarmedH U.vm → (∀ q : Nat, q < s.heap.size → ¬ A q → U.heap[q]? = s.heap[q]?) → K U
def gPc (D : va_G) (cl : List vw_C) (tys : List (ClassId × FieldType)) (N : Nat) (E : gE) (ad : Nat → Nat) (K : State → Prop) (h : Hp) (av : List Value) : Array Value → State → Prop :=
  va_Pc av (fun U => va_P D cl (gW N E ad h) U.heap ∧ va_K D cl tys U ∧ va_D (gA N ad) (gW N E ad h) ∧ K U)
def gB (D : va_G) (cl : List vw_C) (tys : List (ClassId × FieldType)) (N : Nat) (E : gE) (ad : Nat → Nat) (u : Hp) (t : State) : Prop := va_P D cl (gW N E ad u) t.heap ∧ va_K D cl tys t ∧ va_D (gA N ad) (gW N E ad u)
def gQi (D : va_G) (cl : List vw_C) (tys : List (ClassId × FieldType)) (N : Nat) (E : gE) (ad : Nat → Nat) (Q : Int32 → Hp → Prop) : Array Value → State → Outcome → State → Prop := va_Qi Q (gB D cl tys N E ad) (gA N ad)
def gQv (D : va_G) (cl : List vw_C) (tys : List (ClassId × FieldType)) (N : Nat) (E : gE) (ad : Nat → Nat) (Q : Hp → Prop) : Array Value → State → Outcome → State → Prop := va_Qv Q (gB D cl tys N E ad) (gA N ad)
def gQl (D : va_G) (cl : List vw_C) (tys : List (ClassId × FieldType)) (N : Nat) (E : gE) (ad : Nat → Nat) (Q : Int64 → Hp → Prop) : Array Value → State → Outcome → State → Prop := va_Ql Q (gB D cl tys N E ad) (gA N ad)
theorem gPc_blind {D : va_G} {cl : List vw_C} {tys : List (ClassId × FieldType)} {N : Nat} {E : gE} {ad : Nat → Nat} {K : State → Prop} {h : Hp} {av : List Value} {A : Nat → Prop} (hk : gKeep A K) : FrameBlind (gPc D cl tys N E ad K h av) := by
  intro a U g mk q
  obtain ⟨q0, qP, qK, qD, qk⟩ := q
  exact ⟨q0, qP, va_K.moved (u := U) (U := U.calling g mk a) (Vm.Alike.refl U.vm) qK, qD, hk.1 U g mk a qk⟩
theorem gPc_of {D : va_G} {cl : List vw_C} {tys : List (ClassId × FieldType)} {N : Nat} {E : gE} {ad : Nat → Nat} {K : State → Prop} {h : Hp} {av : List Value} {s : State} {H : Heap} {locs : List Loc} (hk : gKeep (gA N ad) K) (hKs : K s) (hK : va_K D cl tys s) (hP : va_P D cl (gW N E ad h) H) (hD : va_D (gA N ad) (gW N E ad h)) (hS : va_S (gA N ad) s.heap H locs) (U : State) (hU : U.heap = H) (hW : s.WarmedH U.vm) : gPc D cl tys N E ad K h av av.toArray U :=
  ⟨rfl, by rw [hU]; exact hP, va_K.moved hW.alike hK, hD, hk.2 s U hKs hW (fun q h1 h2 => by rw [hU]; exact hS.2.1 q h1 h2)⟩
section GX
variable {p : Program} {l : Launch} {e : Env} {R : Room} {s : State} {m : MethodId} {args : Array Value} {below : List Frame} {meth : Method} {c : Code} {H : Heap} {locs : List Loc} {cells slots : Nat} {Q : State → Prop}
variable {cc : ByteArray} {pc : Nat} {ls : Array Slot} {rest : List Value} {D : va_G} {cl : List vw_C} {A : Nat → Prop} {tys : List (ClassId × FieldType)} {H0 : Heap} {n : Nat} {E : gE} {ad : Nat → Nat} {h : Hp}
theorem gx_get (hexec : p.tables.exec = Jvm.exec) (hb : c.code = cc) (hts : ∀ w ∈ TB, w.before args s = true) {own C : String} {T : u_T} {N ci index : Nat} (hin : ∀ w ∈ u_ws C T N, w ∈ TB) (hown : s.vm.findClass own = some m.cls) (hK : va_K D cl tys s) (hP : va_P D cl (gW n E ad h) H) (q0 : Nat) (hq : q0 < n) {fs : List Value} (he : E q0 (h q0) = .inr (ci, fs)) (hc : cl[ci]? = some (C, T, N)) (k : Nat) (hk : k < N) (hlink : Cond.fieldLink own index (T k).1 (T k).2.1 (T k).2.2.1 ∈ TB) {v : Value} (hv : fs[k]? = some v) (hdg : decode cc pc = .ok (.getfield index, 3))
    (kk : W p l e R s m args below meth c H locs cells slots Q (F0 m (pc + 3) ls (v :: rest))) : W p l e R s m args below meth c H locs cells slots Q (F0 m pc ls (.ref (ad q0) :: rest)) :=
  va_get hexec hb hts hin hown hK hP q0 (gW_at hq he) hc k hk (hts _ hlink) (fun _ z => z) hv hdg kk
theorem gx_put (hexec : p.tables.exec = Jvm.exec) (hb : c.code = cc) (hts : ∀ w ∈ TB, w.before args s = true) {own C : String} {T : u_T} {N ci index : Nat} (hin : ∀ w ∈ u_ws C T N, w ∈ TB) (ty0 : Nat → FieldType) (hty : ∀ k, k < N → parseFieldDescriptor (T k).2.2.1 = some (ty0 k)) (hnm : ∀ a, a < N → ∀ b, b < N → a ≠ b → (T a).2.1 ≠ (T b).2.1) (hown : s.vm.findClass own = some m.cls) (hK : va_K D cl tys s) (hP : va_P D cl (gW n E ad h) H) (hD : va_D A (gW n E ad h)) (hS : va_S A H0 H locs) (q0 : Nat) (hq : q0 < n) {F : (Nat → Int32) → List Value} (he : ∀ row, E q0 row = .inr (ci, F row)) (hc : cl[ci]? = some (C, T, N)) (k : Nat) (hk : k < N) (hlink : Cond.fieldLink own index (T k).1 (T k).2.1 (T k).2.2.1 ∈ TB) (hfin : (T k).2.2.2 = false) (hd : parseFieldDescriptor (T k).2.2.1 = some .int) (hl : k < (F (h q0)).length) {x : Int32} (hF : (F (h q0)).set k (.int x) = F (upd (h q0) k x))
    (hdg : decode cc pc = .ok (.putfield index, 3)) (kk : ∀ h1 : Hp, h1 = up1 h q0 (upd (h q0) k x) → ∀ (H1 : Heap) (locs1 : List Loc), va_P D cl (gW n E ad h1) H1 → va_D A (gW n E ad h1) → va_S A H0 H1 locs1 → W p l e R s m args below meth c H1 locs1 cells slots Q (F0 m (pc + 3) ls rest)) : W p l e R s m args below meth c H locs cells slots Q (F0 m pc ls (.int x :: .ref (ad q0) :: rest)) :=
  va_put hexec hb hts hin ty0 hty hnm hown hK hP hD hS q0 (gW_at hq (he _)) hc k hk (hts _ hlink) (fun _ z => z) hfin hd rfl rfl hl hdg
    (fun H1 locs1 hP1 hD1 hS1 => by
      have e1 := gW_set (E := E) (ad := ad) (h := h) hq (upd (h q0) k x) (he (upd (h q0) k x))
      rw [hF, e1] at hP1 hD1
      exact kk _ rfl H1 locs1 hP1 hD1 hS1)
theorem gx_iald (hexec : p.tables.exec = Jvm.exec) (hb : c.code = cc) (hK : va_K D cl tys s) (hP : va_P D cl (gW n E ad h) H) (q0 t0 : Nat) (hq : q0 < n) {cA : ClassId} {N : Nat} (he : ∀ row, E q0 row = .inl (cA, N, .inl row)) (ht : tys[t0]? = some (cA, .int)) {i : Int32} (hin : vp_in i N) (hdg : decode cc pc = .ok (.iaload, 1))
    (kk : W p l e R s m args below meth c H locs cells slots Q (F0 m (pc + 1) ls (.int (h q0 i.toNatClampNeg) :: rest))) : W p l e R s m args below meth c H locs cells slots Q (F0 m pc ls (.int i :: .ref (ad q0) :: rest)) :=
  va_iald hexec hb hK hP q0 t0 (gW_at hq (he _)) ht hin hdg kk
theorem gx_cald (hexec : p.tables.exec = Jvm.exec) (hb : c.code = cc) (hK : va_K D cl tys s) (hP : va_P D cl (gW n E ad h) H) (q0 t0 : Nat) (hq : q0 < n) {cA : ClassId} {N : Nat} (he : ∀ row, E q0 row = .inl (cA, N, .inl row)) (ht : tys[t0]? = some (cA, .char)) {i : Int32} (hin : vp_in i N) (hdg : decode cc pc = .ok (.caload, 1))
    (kk : W p l e R s m args below meth c H locs cells slots Q (F0 m (pc + 1) ls (.int (h q0 i.toNatClampNeg) :: rest))) : W p l e R s m args below meth c H locs cells slots Q (F0 m pc ls (.int i :: .ref (ad q0) :: rest)) :=
  va_cald hexec hb hK hP q0 t0 (gW_at hq (he _)) ht hin hdg kk
theorem gx_zald (hexec : p.tables.exec = Jvm.exec) (hb : c.code = cc) (hK : va_K D cl tys s) (hP : va_P D cl (gW n E ad h) H) (q0 t0 : Nat) (hq : q0 < n) {cA : ClassId} {N : Nat} (he : ∀ row, E q0 row = .inl (cA, N, .inl row)) (ht : tys[t0]? = some (cA, .boolean)) {i : Int32} (hin : vp_in i N) (hdg : decode cc pc = .ok (.baload, 1))
    (kk : W p l e R s m args below meth c H locs cells slots Q (F0 m (pc + 1) ls (.int (h q0 i.toNatClampNeg) :: rest))) : W p l e R s m args below meth c H locs cells slots Q (F0 m pc ls (.int i :: .ref (ad q0) :: rest)) :=
  va_zald hexec hb hK hP q0 t0 (gW_at hq (he _)) ht hin hdg kk
theorem gx_iast (hexec : p.tables.exec = Jvm.exec) (hb : c.code = cc) (hK : va_K D cl tys s) (hP : va_P D cl (gW n E ad h) H) (hD : va_D A (gW n E ad h)) (hS : va_S A H0 H locs) (q0 t0 : Nat) (hq : q0 < n) {cA : ClassId} {N : Nat} (he : ∀ row, E q0 row = .inl (cA, N, .inl row)) (ht : tys[t0]? = some (cA, .int)) {i x : Int32} (hin : vp_in i N) (hdg : decode cc pc = .ok (.iastore, 1))
    (kk : ∀ h1 : Hp, h1 = up1 h q0 (upd (h q0) i.toNatClampNeg x) → ∀ (H1 : Heap) (locs1 : List Loc), va_P D cl (gW n E ad h1) H1 → va_D A (gW n E ad h1) → va_S A H0 H1 locs1 → W p l e R s m args below meth c H1 locs1 cells slots Q (F0 m (pc + 1) ls rest)) : W p l e R s m args below meth c H locs cells slots Q (F0 m pc ls (.int x :: .int i :: .ref (ad q0) :: rest)) :=
  va_iast hexec hb hK hP hD hS q0 t0 (gW_at hq (he _)) ht hin hdg (fun H1 locs1 hP1 hD1 hS1 => by
    rw [gW_set (E := E) (ad := ad) (h := h) hq _ (he _)] at hP1 hD1
    exact kk _ rfl H1 locs1 hP1 hD1 hS1)
theorem gx_cast (hexec : p.tables.exec = Jvm.exec) (hb : c.code = cc) (hK : va_K D cl tys s) (hP : va_P D cl (gW n E ad h) H) (hD : va_D A (gW n E ad h)) (hS : va_S A H0 H locs) (q0 t0 : Nat) (hq : q0 < n) {cA : ClassId} {N : Nat} (he : ∀ row, E q0 row = .inl (cA, N, .inl row)) (ht : tys[t0]? = some (cA, .char)) {i x : Int32} (hin : vp_in i N) (hdg : decode cc pc = .ok (.castore, 1))
    (kk : ∀ h1 : Hp, h1 = up1 h q0 (upd (h q0) i.toNatClampNeg (vp_nar .char x)) → ∀ (H1 : Heap) (locs1 : List Loc), va_P D cl (gW n E ad h1) H1 → va_D A (gW n E ad h1) → va_S A H0 H1 locs1 → W p l e R s m args below meth c H1 locs1 cells slots Q (F0 m (pc + 1) ls rest)) : W p l e R s m args below meth c H locs cells slots Q (F0 m pc ls (.int x :: .int i :: .ref (ad q0) :: rest)) :=
  va_cast hexec hb hK hP hD hS q0 t0 (gW_at hq (he _)) ht hin hdg (fun H1 locs1 hP1 hD1 hS1 => by
    rw [gW_set (E := E) (ad := ad) (h := h) hq _ (he _)] at hP1 hD1
    exact kk _ rfl H1 locs1 hP1 hD1 hS1)
theorem gx_zast (hexec : p.tables.exec = Jvm.exec) (hb : c.code = cc) (hK : va_K D cl tys s) (hP : va_P D cl (gW n E ad h) H) (hD : va_D A (gW n E ad h)) (hS : va_S A H0 H locs) (q0 t0 : Nat) (hq : q0 < n) {cA : ClassId} {N : Nat} (he : ∀ row, E q0 row = .inl (cA, N, .inl row)) (ht : tys[t0]? = some (cA, .boolean)) {i x : Int32} (hin : vp_in i N) (hdg : decode cc pc = .ok (.bastore, 1))
    (kk : ∀ h1 : Hp, h1 = up1 h q0 (upd (h q0) i.toNatClampNeg (vp_nar .boolean x)) → ∀ (H1 : Heap) (locs1 : List Loc), va_P D cl (gW n E ad h1) H1 → va_D A (gW n E ad h1) → va_S A H0 H1 locs1 → W p l e R s m args below meth c H1 locs1 cells slots Q (F0 m (pc + 1) ls rest)) : W p l e R s m args below meth c H locs cells slots Q (F0 m pc ls (.int x :: .int i :: .ref (ad q0) :: rest)) :=
  va_zast hexec hb hK hP hD hS q0 t0 (gW_at hq (he _)) ht hin hdg (fun H1 locs1 hP1 hD1 hS1 => by
    rw [gW_set (E := E) (ad := ad) (h := h) hq _ (he _)] at hP1 hD1
    exact kk _ rfl H1 locs1 hP1 hD1 hS1)
theorem gx_aald (hexec : p.tables.exec = Jvm.exec) (hb : c.code = cc) (hK : va_K D cl tys s) (hP : va_P D cl (gW n E ad h) H) (q0 t0 : Nat) (hq : q0 < n) {cA : ClassId} {C : String} {N : Nat} {f : Nat → Nat} (he : ∀ row, E q0 row = .inl (cA, N, .inr (.inr (.inr (.inr (fun j => some (ad (f j)))))))) (ht : tys[t0]? = some (cA, .object C)) {i : Int32} (hin : vp_in i N) (hdg : decode cc pc = .ok (.aaload, 1))
    (kk : W p l e R s m args below meth c H locs cells slots Q (F0 m (pc + 1) ls (.ref (ad (f i.toNatClampNeg)) :: rest))) : W p l e R s m args below meth c H locs cells slots Q (F0 m pc ls (.int i :: .ref (ad q0) :: rest)) :=
  va_aldq hexec hb hK hP q0 t0 (gW_at hq (he _)) ht hin hdg kk
theorem gx_copy (hexec : p.tables.exec = Jvm.exec) (hb : c.code = cc) (hml : c.maxLocals = ls.size) (hts : ∀ w ∈ TB, w.before args s = true) {own : String} {index : Nat} (hown : s.vm.findClass own = some m.cls) (hlink : Cond.methodLink own index arraycopyName ∈ TB) (hnat : Cond.native arraycopyName ∈ TB) (hstat : Cond.static arraycopyName ∈ TB) (hini : Cond.initialized "java/lang/System" ∈ TB)
    (hK : va_K D cl tys s) (hP : va_P D cl (gW n E ad h) H) (hD : va_D A (gW n E ad h)) (hS : va_S A H0 H locs) (q0 q1 t0 N : Nat) (hq0 : q0 < n) (hq1 : q1 < n) {cA : ClassId} (he0 : ∀ row, E q0 row = .inl (cA, N, .inl row)) (he1 : ∀ row, E q1 row = .inl (cA, N, .inl row)) (ht : tys[t0]? = some (cA, .int)) {x : Int32} (hx0 : ¬ x < 0) (hx1 : x.toNatClampNeg = N)
    (hframes : 1 ≤ R.frames) (hlocals : (rest.map fun v => v.category).sum + (nativeFrameWords "java/lang/System" "arraycopy" 5 + 11) ≤ R.locals) (hdg : decode cc pc = .ok (.invokestatic index, 3))
    (kk : ∀ h1 : Hp, h1 = up1 h q1 (va_cpy (h q0) (h q1) 0 0 N) → ∀ (H1 : Heap) (locs1 : List Loc), va_P D cl (gW n E ad h1) H1 → va_D A (gW n E ad h1) → va_S A H0 H1 locs1 → W p l e R s m args below meth c H1 locs1 cells slots Q (F0 m (pc + 3) ls rest)) : W p l e R s m args below meth c H locs cells slots Q (F0 m pc ls (.int x :: .int 0 :: .ref (ad q1) :: .int 0 :: .ref (ad q0) :: rest)) := by
  have z0 : (0 : Int32).toNatClampNeg = 0 := by decide
  refine va_copyi hexec hb hml hown (hts _ hlink) (hts _ hnat) (hts _ hstat) (hts _ hini) hK hP hD hS q0 q1 t0 t0 (gW_at hq0 (he0 _)) (gW_at hq1 (he1 _)) ht ht rfl (by decide) (by decide) hx0 (by rw [z0, hx1]; omega) (by rw [z0, hx1]; omega) (fun i _ => rfl) hframes hlocals hdg (fun H1 locs1 hP1 hD1 hS1 => ?_)
  rw [z0, hx1, gW_set (E := E) (ad := ad) (h := h) hq1 _ (he1 _)] at hP1 hD1
  exact kk _ rfl H1 locs1 hP1 hD1 hS1
/-- what a callee's own words say of it -/
def gMeth (y : MethodName) (b : ByteArray) (maxL : Nat) (ret : Option FieldType) (k : Nat) : Prop := (y.cls ≠ "java/lang/invoke/MethodHandle" ∧ y.cls ≠ "java/lang/invoke/VarHandle" ∧ (parseMethodDescriptor y.desc).map (fun d => d.parameters.length) = some k) ∧ Cond.initialized y.cls ∈ TB ∧ Cond.code y b maxL ret ∈ TB
theorem gGood {y : MethodName} {b : ByteArray} {maxL : Nat} {ret : Option FieldType} (h5 : Cond.code y b maxL ret ∈ TB) : GoodIn TB (Cond.code y b maxL ret :: TB) := by
  intro w hw
  rcases List.mem_cons.mp hw with rfl | hw
  · exact ⟨h5, tb_good h5⟩
  · exact ⟨hw, tb_good hw⟩
theorem gCallB {own : String} {index k maxL : Nat} {y : MethodName} {b : ByteArray} {ret : Option FieldType} {rm : Room} (hts : ∀ w ∈ TB, w.before args s = true) (hm : gMeth y b maxL ret k) (hlink : Cond.methodLink own index y ∈ TB) (hrc : rm.cells = 0) (hrs : rm.slots = 0) (hR : rm.frames + 1 ≤ R.frames ∧ 8 + (maxL + 11) + rm.locals ≤ R.locals) : CallB R s args own index y b maxL ret (Cond.code y b maxL ret :: TB) rm 0 0 k :=
  callB_of k hts (gGood hm.2.2) rfl hrc hrs (hts _ hm.2.1) (hts _ hlink) hm.1 hR
theorem gCallN {own host : String} {index k maxL : Nat} {y : MethodName} {b : ByteArray} {ret : Option FieldType} {rm : Room} (hts : ∀ w ∈ TB, w.before args s = true) (hm : gMeth y b maxL ret k) (hlink : va_Nw (.methodLinkNest own index y host) s) (hrc : rm.cells = 0) (hrs : rm.slots = 0) (hR : rm.frames + 1 ≤ R.frames ∧ 8 + (maxL + 11) + rm.locals ≤ R.locals) : va_CN R s args own index y host b maxL ret (Cond.code y b maxL ret :: TB) rm 0 0 k :=
  va_cnB k hts (gGood hm.2.2) rfl hrc hrs hlink (hts _ hm.2.1) hm.1 hR
variable {K : State → Prop} {own : String} {nL index k maxL : Nat} {y : MethodName} {b : ByteArray} {ret : Option FieldType} {rm : Room} {As st0 : List Value} {Qp : Int32 → Hp → Prop} {Qu : Hp → Prop}
theorem gx_vi (S : CallFix p m c cc nL s args TB own) (hKp : gKeep (gA n ad) K) (hKs : K s) (hK : va_K D cl tys s) (hP : va_P D cl (gW n E ad h) H) (hD : va_D (gA n ad) (gW n E ad h)) (hS : va_S (gA n ad) s.heap H locs) (q0 : Nat) (As rest : List Value) (hM : Met l y (Cond.code y b maxL ret :: TB) rm (gPc D cl tys n E ad K h (.ref (ad q0) :: As)) (gQi D cl tys n E ad Qp) 0 0 (gA n ad)) (hm : gMeth y b maxL ret k) (hin : Cond.instanceMethod y ∈ TB) (hse : Cond.selects y.cls y y ∈ TB) (hlink : Cond.methodLink own index y ∈ TB)
    (hq : q0 < n) {ci NN : Nat} {fs : List Value} {T : u_T} (he : E q0 (h q0) = .inr (ci, fs)) (hc : cl[ci]? = some (y.cls, T, NN)) (hrc : rm.cells = 0) (hrs : rm.slots = 0) (hR : rm.frames + 1 ≤ R.frames ∧ 8 + (maxL + 11) + rm.locals ≤ R.locals) (hn : As.length = k) (hsize : ls.size = nL) (hst : st0 = As.reverse ++ .ref (ad q0) :: rest) (hW : (rest.map fun v => v.category).sum ≤ 8) (hdg : decode cc pc = .ok (.invokevirtual index, 3)) (hf : cells + 0 ≤ R.cells ∧ slots + 0 ≤ R.slots)
    (kk : ∀ (r : Int32) (h1 : Hp), Qp r h1 → ∀ (H1 : Heap) (locs1 : List Loc), va_P D cl (gW n E ad h1) H1 → va_D (gA n ad) (gW n E ad h1) → va_S (gA n ad) s.heap H1 locs1 → W p l e R s m args below meth c H1 locs1 cells slots Q (F0 m (pc + 3) ls (.int r :: rest))) : W p l e R s m args below meth c H locs cells slots Q (F0 m pc ls st0) := by
  have hts := S.2.2.2.2
  refine va_calli (A0 := gA n ad) (H0 := s.heap) (va_runV (b := ad q0) (C := y.cls) (As := As) (rest := rest) S hM ⟨gCallB hts hm hlink hrc hrs hR, hts _ hin, hts _ hse⟩ ⟨gPc_blind hKp, va_recv hK hP hc (gW_at hq he), fun U hU hW => gPc_of hKp hKs hK hP hD hS U hU hW⟩ rfl hn hsize hst (lv_room hW) hdg hf) hS (fun _ _ z => z) (fun _ z => z) (fun r u t H1 locs1 ht hvm hw hB hz hk1 hS1 => ?_)
  obtain ⟨hP1, -, hD1⟩ := hB
  rw [ht] at hP1
  exact kk r u hw H1 locs1 hP1 hD1 hS1
theorem gx_vv (S : CallFix p m c cc nL s args TB own) (hKp : gKeep (gA n ad) K) (hKs : K s) (hK : va_K D cl tys s) (hP : va_P D cl (gW n E ad h) H) (hD : va_D (gA n ad) (gW n E ad h)) (hS : va_S (gA n ad) s.heap H locs) (q0 : Nat) (As rest : List Value) (hM : Met l y (Cond.code y b maxL ret :: TB) rm (gPc D cl tys n E ad K h (.ref (ad q0) :: As)) (gQv D cl tys n E ad Qu) 0 0 (gA n ad)) (hm : gMeth y b maxL ret k) (hin : Cond.instanceMethod y ∈ TB) (hse : Cond.selects y.cls y y ∈ TB) (hlink : Cond.methodLink own index y ∈ TB)
    (hq : q0 < n) {ci NN : Nat} {fs : List Value} {T : u_T} (he : E q0 (h q0) = .inr (ci, fs)) (hc : cl[ci]? = some (y.cls, T, NN)) (hrc : rm.cells = 0) (hrs : rm.slots = 0) (hR : rm.frames + 1 ≤ R.frames ∧ 8 + (maxL + 11) + rm.locals ≤ R.locals) (hn : As.length = k) (hsize : ls.size = nL) (hst : st0 = As.reverse ++ .ref (ad q0) :: rest) (hW : (rest.map fun v => v.category).sum ≤ 8) (hdg : decode cc pc = .ok (.invokevirtual index, 3)) (hf : cells + 0 ≤ R.cells ∧ slots + 0 ≤ R.slots)
    (kk : ∀ (h1 : Hp), Qu h1 → ∀ (H1 : Heap) (locs1 : List Loc), va_P D cl (gW n E ad h1) H1 → va_D (gA n ad) (gW n E ad h1) → va_S (gA n ad) s.heap H1 locs1 → W p l e R s m args below meth c H1 locs1 cells slots Q (F0 m (pc + 3) ls rest)) : W p l e R s m args below meth c H locs cells slots Q (F0 m pc ls st0) := by
  have hts := S.2.2.2.2
  refine va_callv (A0 := gA n ad) (H0 := s.heap) (va_runV (b := ad q0) (C := y.cls) (As := As) (rest := rest) S hM ⟨gCallB hts hm hlink hrc hrs hR, hts _ hin, hts _ hse⟩ ⟨gPc_blind hKp, va_recv hK hP hc (gW_at hq he), fun U hU hW => gPc_of hKp hKs hK hP hD hS U hU hW⟩ rfl hn hsize hst (lv_room hW) hdg hf) hS (fun _ _ z => z) (fun _ z => z) (fun u t H1 locs1 ht hvm hw hB hz hk1 hS1 => ?_)
  obtain ⟨hP1, -, hD1⟩ := hB
  rw [ht] at hP1
  exact kk u hw H1 locs1 hP1 hD1 hS1
theorem gx_si (S : CallFix p m c cc nL s args TB own) (hKp : gKeep (gA n ad) K) (hKs : K s) (hK : va_K D cl tys s) (hP : va_P D cl (gW n E ad h) H) (hD : va_D (gA n ad) (gW n E ad h)) (hS : va_S (gA n ad) s.heap H locs) (As rest : List Value) (hM : Met l y (Cond.code y b maxL ret :: TB) rm (gPc D cl tys n E ad K h As) (gQi D cl tys n E ad Qp) 0 0 (gA n ad)) (hm : gMeth y b maxL ret k) (hstt : Cond.static y ∈ TB) (hlink : Cond.methodLink own index y ∈ TB)
    (hrc : rm.cells = 0) (hrs : rm.slots = 0) (hR : rm.frames + 1 ≤ R.frames ∧ 8 + (maxL + 11) + rm.locals ≤ R.locals) (hn : As.length = k) (hsize : ls.size = nL) (hst : st0 = As.reverse ++ rest) (hW : (rest.map fun v => v.category).sum ≤ 8) (hdg : decode cc pc = .ok (.invokestatic index, 3)) (hf : cells + 0 ≤ R.cells ∧ slots + 0 ≤ R.slots)
    (kk : ∀ (r : Int32) (h1 : Hp), Qp r h1 → ∀ (H1 : Heap) (locs1 : List Loc), va_P D cl (gW n E ad h1) H1 → va_D (gA n ad) (gW n E ad h1) → va_S (gA n ad) s.heap H1 locs1 → W p l e R s m args below meth c H1 locs1 cells slots Q (F0 m (pc + 3) ls (.int r :: rest))) : W p l e R s m args below meth c H locs cells slots Q (F0 m pc ls st0) := by
  have hts := S.2.2.2.2
  refine va_calli (A0 := gA n ad) (H0 := s.heap) (va_runS (As := As) (rest := rest) S hM ⟨gCallB hts hm hlink hrc hrs hR, hts _ hstt⟩ ⟨gPc_blind hKp, fun U hU hW => gPc_of hKp hKs hK hP hD hS U hU hW⟩ rfl hn hsize hst (lv_room hW) hdg hf) hS (fun _ _ z => z) (fun _ z => z) (fun r u t H1 locs1 ht hvm hw hB hz hk1 hS1 => ?_)
  obtain ⟨hP1, -, hD1⟩ := hB
  rw [ht] at hP1
  exact kk r u hw H1 locs1 hP1 hD1 hS1
theorem gx_sn {host : String} (S : CallFix p m c cc nL s args TB own) (hKp : gKeep (gA n ad) K) (hKs : K s) (hK : va_K D cl tys s) (hP : va_P D cl (gW n E ad h) H) (hD : va_D (gA n ad) (gW n E ad h)) (hS : va_S (gA n ad) s.heap H locs) (As rest : List Value) (hM : Met l y (Cond.code y b maxL ret :: TB) rm (gPc D cl tys n E ad K h As) (gQi D cl tys n E ad Qp) 0 0 (gA n ad)) (hm : gMeth y b maxL ret k) (hstt : Cond.static y ∈ TB) (hlink : va_Nw (.methodLinkNest own index y host) s)
    (hrc : rm.cells = 0) (hrs : rm.slots = 0) (hR : rm.frames + 1 ≤ R.frames ∧ 8 + (maxL + 11) + rm.locals ≤ R.locals) (hn : As.length = k) (hsize : ls.size = nL) (hst : st0 = As.reverse ++ rest) (hW : (rest.map fun v => v.category).sum ≤ 8) (hdg : decode cc pc = .ok (.invokestatic index, 3)) (hf : cells + 0 ≤ R.cells ∧ slots + 0 ≤ R.slots)
    (kk : ∀ (r : Int32) (h1 : Hp), Qp r h1 → ∀ (H1 : Heap) (locs1 : List Loc), va_P D cl (gW n E ad h1) H1 → va_D (gA n ad) (gW n E ad h1) → va_S (gA n ad) s.heap H1 locs1 → W p l e R s m args below meth c H1 locs1 cells slots Q (F0 m (pc + 3) ls (.int r :: rest))) : W p l e R s m args below meth c H locs cells slots Q (F0 m pc ls st0) := by
  have hts := S.2.2.2.2
  refine va_calli (A0 := gA n ad) (H0 := s.heap) (va_runSN (As := As) (rest := rest) S hM ⟨gCallN hts hm hlink hrc hrs hR, hts _ hstt, trivial⟩ ⟨gPc_blind hKp, fun U hU hW => gPc_of hKp hKs hK hP hD hS U hU hW⟩ rfl hn hsize hst (lv_room hW) hdg hf) hS (fun _ _ z => z) (fun _ z => z) (fun r u t H1 locs1 ht hvm hw hB hz hk1 hS1 => ?_)
  obtain ⟨hP1, -, hD1⟩ := hB
  rw [ht] at hP1
  exact kk r u hw H1 locs1 hP1 hD1 hS1
/-- a method's end -/
theorem gx_iret {v : Int32} (hexec : p.tables.exec = Jvm.exec) (hb : c.code = cc) (hr : meth.sig.returnType = some .int) (hlocks : meth.locks = false) (hK : va_K D cl tys s) (hP : va_P D cl (gW n E ad h) H) (hD : va_D (gA n ad) (gW n E ad h)) (hS : va_S (gA n ad) s.heap H locs) (hq : Qp v h) (hdg : decode cc pc = .ok (.ireturn, 1)) : W p l e R s m args below meth c H locs cells slots (MQ below (gQi D cl tys n E ad Qp) args s cells slots (gA n ad)) (F0 m pc ls [.int v]) :=
  W.iret hexec hb hr (fun t ht hW => ⟨⟨v, h, rfl, hq, by rw [ht]; exact hP, va_K.moved hW.alike hK, hD⟩, hS.F ht⟩) hS.2.2 hdg hlocks
theorem gx_zret {v : Int32} {ty : FieldType} (hexec : p.tables.exec = Jvm.exec) (hb : c.code = cc) (hr : meth.sig.returnType = some ty) (hn : narrow ty (.int v) = .int v) (hlocks : meth.locks = false) (hK : va_K D cl tys s) (hP : va_P D cl (gW n E ad h) H) (hD : va_D (gA n ad) (gW n E ad h)) (hS : va_S (gA n ad) s.heap H locs) (hq : Qp v h) (hdg : decode cc pc = .ok (.ireturn, 1)) : W p l e R s m args below meth c H locs cells slots (MQ below (gQi D cl tys n E ad Qp) args s cells slots (gA n ad)) (F0 m pc ls [.int v]) :=
  W.zret hexec hb hr hn (fun t ht hW => ⟨⟨v, h, rfl, hq, by rw [ht]; exact hP, va_K.moved hW.alike hK, hD⟩, hS.F ht⟩) hS.2.2 hdg hlocks
theorem gx_lret {Ql : Int64 → Hp → Prop} {v : Int64} (hexec : p.tables.exec = Jvm.exec) (hb : c.code = cc) (hr : meth.sig.returnType = some .long) (hlocks : meth.locks = false) (hK : va_K D cl tys s) (hP : va_P D cl (gW n E ad h) H) (hD : va_D (gA n ad) (gW n E ad h)) (hS : va_S (gA n ad) s.heap H locs) (hq : Ql v h) (hdg : decode cc pc = .ok (.lreturn, 1)) : W p l e R s m args below meth c H locs cells slots (MQ below (gQl D cl tys n E ad Ql) args s cells slots (gA n ad)) (F0 m pc ls [.long v]) :=
  W.lret hexec hb hr (fun t ht hW => ⟨⟨v, h, rfl, hq, by rw [ht]; exact hP, va_K.moved hW.alike hK, hD⟩, hS.F ht⟩) hS.2.2 hdg hlocks
theorem gx_vret (hexec : p.tables.exec = Jvm.exec) (hb : c.code = cc) (hr : meth.sig.returnType = none) (hlocks : meth.locks = false) (hK : va_K D cl tys s) (hP : va_P D cl (gW n E ad h) H) (hD : va_D (gA n ad) (gW n E ad h)) (hS : va_S (gA n ad) s.heap H locs) (hq : Qu h) (hdg : decode cc pc = .ok (.return_, 1)) : W p l e R s m args below meth c H locs cells slots (MQ below (gQv D cl tys n E ad Qu) args s cells slots (gA n ad)) (F0 m pc ls []) :=
  W.vret hexec hb hr (fun t ht hW => ⟨⟨h, rfl, hq, by rw [ht]; exact hP, va_K.moved hW.alike hK, hD⟩, hS.F ht⟩) hS.2.2 hdg hlocks
end GX
/-- a method's start -/
theorem gx_start {l : Launch} {y : MethodName} {rm : Room} {D : va_G} {cl : List vw_C} {tys : List (ClassId × FieldType)} {n : Nat} {E : gE} {ad : Nat → Nat} {K : State → Prop} {h : Hp} {av : List Value} {Qc : Array Value → State → Outcome → State → Prop} {cc : ByteArray} {maxL : Nat} {ret : Option FieldType} (hy : plainName y.cls = true) (hl0 : (lg_sl av).length ≤ maxL)
    (body : ∀ (p : Program) (e : Env) (s : State) (m : MethodId) (below : List Frame) (meth : Method) (c : Code) (ls : Array Slot), p.tables.exec = Jvm.exec → c.code = cc → meth.sig.returnType = ret → meth.locks = false → c.maxLocals = maxL → s.vm.findClass y.cls = some m.cls → (∀ w ∈ TB, w.before av.toArray s = true) → va_K D cl tys s → K s → va_P D cl (gW n E ad h) s.heap → va_D (gA n ad) (gW n E ad h) → va_S (gA n ad) s.heap s.heap [] → lv_has ls maxL (lv_args 0 av) →
      W p l e rm s m av.toArray below meth c s.heap [] 0 0 (MQ below Qc av.toArray s 0 0 (gA n ad)) (F0 m 0 ls [])) : Met l y (Cond.code y cc maxL ret :: TB) rm (gPc D cl tys n E ad K h av) Qc 0 0 (gA n ad) := by
  refine Met.ofW (cc := cc) (maxL := maxL) (ret := ret) hy rfl ?_
  intro p e s m args below meth c s₁ B hml hv
  obtain ⟨rfl, hP, hK, hD, hk⟩ := hv
  have hts := atoms_spec (ws := Cond.code y cc maxL ret :: TB) B.pre
  have hown : s.vm.findClass y.cls = some m.cls := findClass_of_methodNamed B.named
  have hl := lv_entry av (n := maxL) hl0
  rw [lg_entry_eq]
  exact body p e s m below meth c _ B.exec B.bytes B.returns B.notSynchronized hml hown (fun w hw => hts w (List.mem_cons_of_mem _ hw)) hK hk hP hD va_S.rf hl
