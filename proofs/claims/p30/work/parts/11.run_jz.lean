section GXS
variable {p : Program} {l : Launch} {e : Env} {R : Room} {s : State} {m : MethodId} {args : Array Value} {below : List Frame} {meth : Method} {c : Code} {H : Heap} {locs : List Loc} {cells slots : Nat} {Q : State → Prop}
variable {cc : ByteArray} {pc : Nat} {ls : Array Slot} {rest : List Value} {D : va_G} {cl : List vw_C} {A : Nat → Prop} {tys : List (ClassId × FieldType)} {H0 : Heap} {n : Nat} {E : gE} {ad : Nat → Nat} {h : Hp}
variable {K : State → Prop} {own : String} {nL index k maxL : Nat} {y : MethodName} {b : ByteArray} {ret : Option FieldType} {rm : Room} {As st0 : List Value} {Qp : Int32 → Hp → Prop} {Qu : Hp → Prop}
theorem gx_sv (S : CallFix p m c cc nL s args TB own) (hKp : gKeep (gA n ad) K) (hKs : K s) (hK : va_K D cl tys s) (hP : va_P D cl (gW n E ad h) H) (hD : va_D (gA n ad) (gW n E ad h)) (hS : va_S (gA n ad) s.heap H locs) (As rest : List Value) (hM : Met l y (Cond.code y b maxL ret :: TB) rm (gPc D cl tys n E ad K h As) (gQv D cl tys n E ad Qu) 0 0 (gA n ad)) (hm : gMeth y b maxL ret k) (hstt : Cond.static y ∈ TB) (hlink : Cond.methodLink own index y ∈ TB)
    (hrc : rm.cells = 0) (hrs : rm.slots = 0) (hR : rm.frames + 1 ≤ R.frames ∧ 8 + (maxL + 11) + rm.locals ≤ R.locals) (hn : As.length = k) (hsize : ls.size = nL) (hst : st0 = As.reverse ++ rest) (hW : (rest.map fun v => v.category).sum ≤ 8) (hdg : decode cc pc = .ok (.invokestatic index, 3)) (hf : cells + 0 ≤ R.cells ∧ slots + 0 ≤ R.slots)
    (kk : ∀ (h1 : Hp), Qu h1 → ∀ (H1 : Heap) (locs1 : List Loc), va_P D cl (gW n E ad h1) H1 → va_D (gA n ad) (gW n E ad h1) → va_S (gA n ad) s.heap H1 locs1 → W p l e R s m args below meth c H1 locs1 cells slots Q (F0 m (pc + 3) ls rest)) : W p l e R s m args below meth c H locs cells slots Q (F0 m pc ls st0) := by
  have hts := S.2.2.2.2
  refine va_callv (A0 := gA n ad) (H0 := s.heap) (va_runS (As := As) (rest := rest) S hM ⟨gCallB hts hm hlink hrc hrs hR, hts _ hstt⟩ ⟨gPc_blind hKp, fun U hU hW => gPc_of hKp hKs hK hP hD hS U hU hW⟩ rfl hn hsize hst (lv_room hW) hdg hf) hS (fun _ _ z => z) (fun _ z => z) (fun u t H1 locs1 ht hvm hw hB hz hk1 hS1 => ?_)
  obtain ⟨hP1, -, hD1⟩ := hB
  rw [ht] at hP1
  exact kk u hw H1 locs1 hP1 hD1 hS1
end GXS
