/-! Calls from a place whose own cells are more than the callee's world (a constructor of the reference, the law). -/
theorem gW_kept {D : va_G} {cl : List vw_C} {n : Nat} {E : gE} {ad : Nat → Nat} {h : Hp} {H H1 : Heap} {B : Nat → Prop} (hP : va_P D cl (gW n E ad h) H) (hk : ∀ q : Nat, q < H.size → ¬ B q → H1[q]? = H[q]?) (hB : ∀ k, k < n → ¬ B (ad k)) : va_P D cl (gW n E ad h) H1 :=
  hP.kept (fun k q hq => by
    obtain ⟨h1, rfl⟩ := gW_get hq
    exact hk _ (hP k _ hq).lt (hB k h1))
theorem gA_sub {n : Nat} {E : gE} {ad : Nat → Nat} {h : Hp} {A : Nat → Prop} (hD : va_D A (gW n E ad h)) : ∀ q, gA n ad q → A q := by
  rintro q ⟨k, hk, rfl⟩
  exact hD.2 k _ (gW_at hk rfl)
section GA
variable {p : Program} {l : Launch} {e : Env} {R : Room} {s : State} {m : MethodId} {args : Array Value} {below : List Frame} {meth : Method} {c : Code} {H : Heap} {locs : List Loc} {cells slots : Nat} {Q : State → Prop}
variable {cc : ByteArray} {pc : Nat} {ls : Array Slot} {rest : List Value} {D : va_G} {cl : List vw_C} {A : Nat → Prop} {tys : List (ClassId × FieldType)} {n : Nat} {E : gE} {ad : Nat → Nat} {h : Hp}
variable {K : State → Prop} {own : String} {nL index k maxL : Nat} {y : MethodName} {b : ByteArray} {ret : Option FieldType} {rm : Room} {As st0 : List Value} {Qp : Int32 → Hp → Prop} {Qu : Hp → Prop}
theorem ga_vi (S : CallFix p m c cc nL s args TB own) (hKp : gKeep (gA n ad) K) (hKU : ∀ U : State, U.heap = H → s.WarmedH U.vm → K U) (hK : va_K D cl tys s) (hP : va_P D cl (gW n E ad h) H) (hD : va_D A (gW n E ad h)) (hS : va_S A s.heap H locs) (q0 : Nat) (As rest : List Value) (hM : Met l y (Cond.code y b maxL ret :: TB) rm (gPc D cl tys n E ad K h (.ref (ad q0) :: As)) (gQi D cl tys n E ad Qp) 0 0 (gA n ad)) (hm : gMeth y b maxL ret k) (hin : Cond.instanceMethod y ∈ TB) (hse : Cond.selects y.cls y y ∈ TB) (hlink : Cond.methodLink own index y ∈ TB)
    (hq : q0 < n) {ci NN : Nat} {fs : List Value} {T : u_T} (he : E q0 (h q0) = .inr (ci, fs)) (hc : cl[ci]? = some (y.cls, T, NN)) (hrc : rm.cells = 0) (hrs : rm.slots = 0) (hR : rm.frames + 1 ≤ R.frames ∧ 8 + (maxL + 11) + rm.locals ≤ R.locals) (hn : As.length = k) (hsize : ls.size = nL) (hst : st0 = As.reverse ++ .ref (ad q0) :: rest) (hW : (rest.map fun v => v.category).sum ≤ 8) (hdg : decode cc pc = .ok (.invokevirtual index, 3)) (hf : cells + 0 ≤ R.cells ∧ slots + 0 ≤ R.slots)
    (kk : ∀ (r : Int32) (h1 : Hp), Qp r h1 → ∀ (H1 : Heap) (locs1 : List Loc), va_P D cl (gW n E ad h1) H1 → va_D A (gW n E ad h1) → va_S A s.heap H1 locs1 → (∀ q : Nat, q < H.size → ¬ gA n ad q → H1[q]? = H[q]?) → W p l e R s m args below meth c H1 locs1 cells slots Q (F0 m (pc + 3) ls (.int r :: rest))) : W p l e R s m args below meth c H locs cells slots Q (F0 m pc ls st0) := by
  have hts := S.2.2.2.2
  refine va_calli (A0 := A) (H0 := s.heap) (va_runV (b := ad q0) (C := y.cls) (As := As) (rest := rest) S hM ⟨gCallB hts hm hlink hrc hrs hR, hts _ hin, hts _ hse⟩ ⟨gPc_blind hKp, va_recv hK hP hc (gW_at hq he), fun U hU hW => ⟨rfl, by rw [hU]; exact hP, va_K.moved hW.alike hK, gD_A hD, hKU U hU hW⟩⟩ rfl hn hsize hst (lv_room hW) hdg hf) hS (fun q _ z => gA_sub hD q z) (gA_sub hD) (fun r u t H1 locs1 ht hvm hw hB hz hk1 hS1 => ?_)
  obtain ⟨hP1, -, -⟩ := hB
  rw [ht] at hP1
  exact kk r u hw H1 locs1 hP1 (gD_any hD (fun _ _ z => z)) hS1 hk1
theorem ga_vv (S : CallFix p m c cc nL s args TB own) (hKp : gKeep (gA n ad) K) (hKU : ∀ U : State, U.heap = H → s.WarmedH U.vm → K U) (hK : va_K D cl tys s) (hP : va_P D cl (gW n E ad h) H) (hD : va_D A (gW n E ad h)) (hS : va_S A s.heap H locs) (q0 : Nat) (As rest : List Value) (hM : Met l y (Cond.code y b maxL ret :: TB) rm (gPc D cl tys n E ad K h (.ref (ad q0) :: As)) (gQv D cl tys n E ad Qu) 0 0 (gA n ad)) (hm : gMeth y b maxL ret k) (hin : Cond.instanceMethod y ∈ TB) (hse : Cond.selects y.cls y y ∈ TB) (hlink : Cond.methodLink own index y ∈ TB)
    (hq : q0 < n) {ci NN : Nat} {fs : List Value} {T : u_T} (he : E q0 (h q0) = .inr (ci, fs)) (hc : cl[ci]? = some (y.cls, T, NN)) (hrc : rm.cells = 0) (hrs : rm.slots = 0) (hR : rm.frames + 1 ≤ R.frames ∧ 8 + (maxL + 11) + rm.locals ≤ R.locals) (hn : As.length = k) (hsize : ls.size = nL) (hst : st0 = As.reverse ++ .ref (ad q0) :: rest) (hW : (rest.map fun v => v.category).sum ≤ 8) (hdg : decode cc pc = .ok (.invokevirtual index, 3)) (hf : cells + 0 ≤ R.cells ∧ slots + 0 ≤ R.slots)
    (kk : ∀ (h1 : Hp), Qu h1 → ∀ (H1 : Heap) (locs1 : List Loc), va_P D cl (gW n E ad h1) H1 → va_D A (gW n E ad h1) → va_S A s.heap H1 locs1 → W p l e R s m args below meth c H1 locs1 cells slots Q (F0 m (pc + 3) ls rest)) : W p l e R s m args below meth c H locs cells slots Q (F0 m pc ls st0) := by
  have hts := S.2.2.2.2
  refine va_callv (A0 := A) (H0 := s.heap) (va_runV (b := ad q0) (C := y.cls) (As := As) (rest := rest) S hM ⟨gCallB hts hm hlink hrc hrs hR, hts _ hin, hts _ hse⟩ ⟨gPc_blind hKp, va_recv hK hP hc (gW_at hq he), fun U hU hW => ⟨rfl, by rw [hU]; exact hP, va_K.moved hW.alike hK, gD_A hD, hKU U hU hW⟩⟩ rfl hn hsize hst (lv_room hW) hdg hf) hS (fun q _ z => gA_sub hD q z) (gA_sub hD) (fun u t H1 locs1 ht hvm hw hB hz hk1 hS1 => ?_)
  obtain ⟨hP1, -, -⟩ := hB
  rw [ht] at hP1
  exact kk u hw H1 locs1 hP1 (gD_any hD (fun _ _ z => z)) hS1
end GA
theorem gl_toW {D : va_G} {cl : List vw_C} {A : Nat → Prop} {M : Nat} {a : Nat → Nat} {F : Nat → va_E} {E : (Nat → Nat) → gE} {h : Hp} {H : Heap} {r : Nat} (h0 : a 0 = r) (hP : va_P D cl ([] ++ gL M a F) H) (hD : va_D A ([] ++ gL M a F)) (hF : ∀ j, j < M → F j = E a j (h j)) : ∃ ad : Nat → Nat, ad 0 = r ∧ va_P D cl (gW M (E ad) ad h) H ∧ va_D A (gW M (E ad) ad h) :=
  ⟨a, h0, by rw [← gL_W hF]; exact hP, by rw [← gL_W hF]; exact hD⟩
