/-! THE CLAIM OUT OF ONE WALK OF THE LAW'S BODY. Your part is whole_start (and what it stands on); all else here is the same for every law, but numbers. -/
def R_law : String := "LampLatitudesLaw"
def lw_P (b : Addr) (xs : List Int32) (args : Array Value) (s : State) : Prop := args = #[.ref b] ∧ s.IntsAt b xs ∧ xs.length ≤ 260 ∧ (Jvm.Cond.and given_1 narrow_1).before args s = true
def lw_Q (_ : Array Value) (s : State) (o : Outcome) (t : State) : Prop := o = .returned (some (.int 1)) ∧ Framed s o t [] 600000 7302250
def lw_Z (below : List Frame) (a : Array Value) (s : State) : State → Prop := fun t => ∃ o, t.status = .running ∧ Ended t below o ∧ lw_Q a s o t
/-- the law's own end, with 1 on the stack, nothing written that was there before, its room as the claim has it -/
theorem lw_ret {p : Program} {l : Launch} {e : Env} {s : State} {m : MethodId} {below : List Frame} {meth : Method} {c : Code} {b : Nat} (hx : p.tables.exec = Jvm.exec) (hb : c.code = code) (hr : meth.sig.returnType = ret) (hlocks : meth.locks = false) {pc : Nat} {H : Heap} {ls : Array Slot} (hdg : decode code pc = .ok (.ireturn, 1)) : W p l e room_1 s m #[Value.ref b] below meth c H [] 600000 7302250 (lw_Z below #[Value.ref b] s) (F0 m pc ls [.int 1]) := by
  intro T hT X
  obtain ⟨fs, hret, hrun, hended, hW, hframe⟩ := X.leave (v := some (.int 1)) (hlocks := hlocks) (fun h => by rw [hr] at h; cases h)
  have hmeth' : T.vm.method? m = some meth := X.method'
  refine ⟨T.setFrames fs, ?_, .returned (some (.int 1)), hrun, hended, rfl, ⟨_, rfl⟩, hW, hframe⟩
  jvm_step X.here [X.here.top, hx, hb, hdg, hmeth', hr, ret, narrow_b1]
  (try refine ⟨rfl, ?_⟩); (try refine ⟨rfl, ?_⟩)
  first | (intro acts; rw [hret _ acts rfl rfl rfl]) | rw [hret _ _ rfl rfl rfl]
  exact Steps.refl _
/-- what holds at the law's entry: the machine, the code, the tables' words (any of lw_tbl by 'hts w (by decide +kernel)'), the script of L ints xs at the cell b, what the Statement gives of the start (any of its parts by flat_of_before) -/
def lw_At (p : Program) (s : State) (m : MethodId) (meth : Method) (c : Code) (b L : Nat) (xs : Nat → Int32) : Prop :=
  p.tables.exec = Jvm.exec ∧ c.code = code ∧ meth.sig.returnType = ret ∧ c.maxLocals = 17 ∧ s.vm.findClass R_law = some m.cls ∧ (∀ w ∈ lw_tbl, w.before #[Value.ref b] s = true) ∧ va_X b L xs s s.heap ∧ b < s.heap.size ∧ meth.locks = false ∧ (Jvm.Cond.and given_1 narrow_1).before #[Value.ref b] s = true
/-- what the law reads of its script -/
def cellv (L : Nat) (xs : Nat → Int32) (k : Int32) : Int32 := if Int32.ofNat L ≤ k then (40763 : Int32) * (k + 7) + 2850333 else xs k.toNatClampNeg
def kX (b L : Nat) (xs : Nat → Int32) (U : State) : Prop := va_X b L xs U U.heap ∧ b < U.heap.size
theorem kX_keep (ad : Nat → Nat) (b L : Nat) (xs : Nat → Int32) : gKeep (gA 0 ad) (kX b L xs) :=
  ⟨fun U g mk a h => ⟨va_X.moved (u := U) (U := U.calling g mk a) (Vm.Alike.refl U.vm) h.1, h.2⟩, fun s U h hW hq => by
    have h0 : U.heap[b]? = s.heap[b]? := hq b h.2 (fun z => by obtain ⟨k, hk, _⟩ := z; omega)
    refine ⟨(va_X.moved hW.alike h.1).kept h0, ?_⟩
    have h1 : s.heap[b]? = some (s.heap[b]'h.2) := Array.getElem?_eq_getElem h.2
    rw [h1] at h0
    exact (Array.getElem?_eq_some_iff.mp h0).1⟩
abbrev rm_L_cell : Room := { frames := 0, cells := 0, slots := 0, locals := 0 }
theorem gm_L_cell : gMeth yL_cell cL_cell 2 (some .int) 2 := ⟨⟨by decide, by decide, by decide +kernel⟩, ini_RL, co_yL_cell⟩
set_option maxHeartbeats 4000000 in
theorem c_L_cell (l : Launch) (dC : Nat → ClassId) (dI : Nat → Nat → Nat) (P : gP) (ad : Nat → Nat) {b L : Nat} (xs : Nat → Int32) (hL : L ≤ 260) (k : Int32) (hk0 : ¬ k < 0) (h0 : Hp) : Met l yL_cell (Cond.code yL_cell cL_cell 2 (some .int) :: TB) rm_L_cell (gPc (dC, dI) vwCl (tyC P) 0 (cE P ad) ad (kX b L xs) h0 [.ref b, .int k]) (gQi (dC, dI) vwCl (tyC P) 0 (cE P ad) ad (fun r _ => r = cellv L xs k)) 0 0 (gA 0 ad) := by
  refine gx_start (by decide) (Nat.le_of_ble_eq_true rfl) (fun p e s m below meth c ls hx hb0 hr hlocks hml hown hts hK hk hP hD hS hl => ?_)
  have hl : lv_has ls 2 [(0, .ref b), (1, .int k)] := hl
  have hown : s.vm.findClass RL = some m.cls := hown
  obtain ⟨hX, hbl⟩ := hk
  have hbA : ¬ gA 0 ad b := fun z => by obtain ⟨k, hk, _⟩ := z; omega
  refine lv_iload_n hx hb0 dL_cell_0 rfl (lv_at hl 1 rfl) ?_
  refine lv_aload_n hx hb0 dL_cell_1 rfl (lv_at hl 0 rfl) ?_
  refine va_slen hx hb0 hX hbl hbA hS dL_cell_2 ?_
  refine lv_icmp_ge (tgt := 12) hx hb0 dL_cell_3 (by decide) (fun c_1 => ?_) (fun c_1 => ?_)
  · refine lv_ldc (v := (40763 : Int32)) hx hb0 hown (hts _ kc_RL_7) dL_cell_12 ?_
    refine lv_iload_n hx hb0 dL_cell_14 rfl (lv_at hl 1 rfl) ?_
    refine lv_bipush (v := (7 : Int32)) hx hb0 dL_cell_15 (by decide) ?_
    refine lv_iadd hx hb0 dL_cell_17 ?_
    refine lv_imul hx hb0 dL_cell_18 ?_
    refine lv_ldc (v := (2850333 : Int32)) hx hb0 hown (hts _ kc_RL_8) dL_cell_19 ?_
    refine lv_iadd hx hb0 dL_cell_21 ?_
    exact gx_iret hx hb0 hr hlocks hK hP hD hS (by unfold cellv; rw [if_pos c_1]) dL_cell_22
  · have hin : vp_in k L := by
      have e2 : (Int32.ofNat L).toInt = (L : Int) := nI_toInt (n := L) (by omega)
      have e0 : (0 : Int32).toInt = 0 := by decide
      rw [fa_le, e2] at c_1
      rw [fa_lt, e0] at hk0
      obtain ⟨j, hj, rfl⟩ := nI_of (x := k) (by rw [fa_lt, e0]; exact hk0)
      rw [nI_toInt hj] at c_1
      exact vp_in_nI (by omega) (by omega)
    refine lv_aload_n hx hb0 dL_cell_6 rfl (lv_at hl 0 rfl) ?_
    refine lv_iload_n hx hb0 dL_cell_7 rfl (lv_at hl 1 rfl) ?_
    refine va_sld hx hb0 hX hbl hbA hS hin dL_cell_8 ?_
    refine lv_goto (tgt := 22) hx hb0 dL_cell_9 (by decide) ?_
    exact gx_iret hx hb0 hr hlocks hK hP hD hS (by unfold cellv; rw [if_neg c_1]) dL_cell_22
section GA2
variable {p : Program} {l : Launch} {e : Env} {R : Room} {s : State} {m : MethodId} {args : Array Value} {below : List Frame} {meth : Method} {c : Code} {H : Heap} {locs : List Loc} {cells slots : Nat} {Q : State → Prop}
variable {cc : ByteArray} {pc : Nat} {ls : Array Slot} {rest : List Value} {D : va_G} {cl : List vw_C} {A : Nat → Prop} {tys : List (ClassId × FieldType)} {n : Nat} {E : gE} {ad : Nat → Nat} {h : Hp}
variable {K : State → Prop} {own : String} {nL index k maxL : Nat} {y : MethodName} {b : ByteArray} {ret : Option FieldType} {rm : Room} {As st0 : List Value} {Qp : Int32 → Hp → Prop} {Ql : Int64 → Hp → Prop}
theorem ga_si (S : CallFix p m c cc nL s args TB own) (hKp : gKeep (gA n ad) K) (hKU : ∀ U : State, U.heap = H → s.WarmedH U.vm → K U) (hK : va_K D cl tys s) (hP : va_P D cl (gW n E ad h) H) (hD : va_D A (gW n E ad h)) (hS : va_S A s.heap H locs) (As rest : List Value) (hM : Met l y (Cond.code y b maxL ret :: TB) rm (gPc D cl tys n E ad K h As) (gQi D cl tys n E ad Qp) 0 0 (gA n ad)) (hm : gMeth y b maxL ret k) (hstt : Cond.static y ∈ TB) (hlink : Cond.methodLink own index y ∈ TB)
    (hrc : rm.cells = 0) (hrs : rm.slots = 0) (hR : rm.frames + 1 ≤ R.frames ∧ 8 + (maxL + 11) + rm.locals ≤ R.locals) (hn : As.length = k) (hsize : ls.size = nL) (hst : st0 = As.reverse ++ rest) (hW : (rest.map fun v => v.category).sum ≤ 8) (hdg : decode cc pc = .ok (.invokestatic index, 3)) (hf : cells + 0 ≤ R.cells ∧ slots + 0 ≤ R.slots)
    (kk : ∀ (r : Int32) (h1 : Hp), Qp r h1 → ∀ (H1 : Heap) (locs1 : List Loc), va_P D cl (gW n E ad h1) H1 → va_D A (gW n E ad h1) → va_S A s.heap H1 locs1 → W p l e R s m args below meth c H1 locs1 cells slots Q (F0 m (pc + 3) ls (.int r :: rest))) : W p l e R s m args below meth c H locs cells slots Q (F0 m pc ls st0) := by
  have hts := S.2.2.2.2
  refine va_calli (A0 := A) (H0 := s.heap) (va_runS (As := As) (rest := rest) S hM ⟨gCallB hts hm hlink hrc hrs hR, hts _ hstt⟩ ⟨gPc_blind hKp, fun U hU hW => ⟨rfl, by rw [hU]; exact hP, va_K.moved hW.alike hK, gD_A hD, hKU U hU hW⟩⟩ rfl hn hsize hst (lv_room hW) hdg hf) hS (fun q _ z => gA_sub hD q z) (gA_sub hD) (fun r u t H1 locs1 ht hvm hw hB hz hk1 hS1 => ?_)
  obtain ⟨hP1, -, -⟩ := hB
  rw [ht] at hP1
  exact kk r u hw H1 locs1 hP1 (gD_any hD (fun _ _ z => z)) hS1
theorem ga_sl (S : CallFix p m c cc nL s args TB own) (hKp : gKeep (gA n ad) K) (hKU : ∀ U : State, U.heap = H → s.WarmedH U.vm → K U) (hK : va_K D cl tys s) (hP : va_P D cl (gW n E ad h) H) (hD : va_D A (gW n E ad h)) (hS : va_S A s.heap H locs) (As rest : List Value) (hM : Met l y (Cond.code y b maxL ret :: TB) rm (gPc D cl tys n E ad K h As) (gQl D cl tys n E ad Ql) 0 0 (gA n ad)) (hm : gMeth y b maxL ret k) (hstt : Cond.static y ∈ TB) (hlink : Cond.methodLink own index y ∈ TB)
    (hrc : rm.cells = 0) (hrs : rm.slots = 0) (hR : rm.frames + 1 ≤ R.frames ∧ 8 + (maxL + 11) + rm.locals ≤ R.locals) (hn : As.length = k) (hsize : ls.size = nL) (hst : st0 = As.reverse ++ rest) (hW : (rest.map fun v => v.category).sum ≤ 8) (hdg : decode cc pc = .ok (.invokestatic index, 3)) (hf : cells + 0 ≤ R.cells ∧ slots + 0 ≤ R.slots)
    (kk : ∀ (r : Int64) (h1 : Hp), Ql r h1 → ∀ (H1 : Heap) (locs1 : List Loc), va_P D cl (gW n E ad h1) H1 → va_D A (gW n E ad h1) → va_S A s.heap H1 locs1 → W p l e R s m args below meth c H1 locs1 cells slots Q (F0 m (pc + 3) ls (.long r :: rest))) : W p l e R s m args below meth c H locs cells slots Q (F0 m pc ls st0) := by
  have hts := S.2.2.2.2
  refine va_calll (A0 := A) (H0 := s.heap) (va_runS (As := As) (rest := rest) S hM ⟨gCallB hts hm hlink hrc hrs hR, hts _ hstt⟩ ⟨gPc_blind hKp, fun U hU hW => ⟨rfl, by rw [hU]; exact hP, va_K.moved hW.alike hK, gD_A hD, hKU U hU hW⟩⟩ rfl hn hsize hst (lv_room hW) hdg hf) hS (fun q _ z => gA_sub hD q z) (gA_sub hD) (fun r u t H1 locs1 ht hvm hw hB hz hk1 hS1 => ?_)
  obtain ⟨hP1, -, -⟩ := hB
  rw [ht] at hP1
  exact kk r u hw H1 locs1 hP1 (gD_any hD (fun _ _ z => z)) hS1
end GA2
/-- the law asks for a cell of its script -/
theorem ga_cell {p : Program} (l : Launch) {e : Env} {s : State} {m : MethodId} {below : List Frame} {meth : Method} {c : Code} {H : Heap} {locs : List Loc} {cells slots : Nat} {Q : State → Prop} {pc : Nat} {ls : Array Slot} {dC : Nat → ClassId} {dI : Nat → Nat → Nat} (P : gP) (tb ad : Nat → Nat) {h : Hp} {b L : Nat} {xs : Nat → Int32} (hL : L ≤ 260) (hX : va_X b L xs s s.heap) (hbl : b < s.heap.size) (hbA : ¬ (fun q : Nat => s.heap.size ≤ q) b) (hx : p.tables.exec = Jvm.exec) (hb0 : c.code = code) (hml : c.maxLocals = 17) (hown : s.vm.findClass RL = some m.cls) (hts : ∀ w ∈ TB, w.before #[Value.ref b] s = true) (hK : va_K (dC, dI) vwCl (tyC P) s) (hP : va_P (dC, dI) vwCl (gW 162 (cE P ad) ad h) H) (hD : va_D (fun q : Nat => s.heap.size ≤ q) (gW 162 (cE P ad) ad h)) (hS : va_S (fun q : Nat => s.heap.size ≤ q) s.heap H locs) (x : Int32) (rest : List Value) (hx0 : ¬ x < 0) {index : Nat} (hlink : Cond.methodLink RL index yL_cell ∈ TB) (hsize : ls.size = 17) {st0 : List Value} (hst : st0 = .int x :: .ref b :: rest) (hW : (rest.map fun v => v.category).sum ≤ 8) (hR : rm_L_cell.frames + 1 ≤ room_1.frames ∧ 8 + (2 + 11) + rm_L_cell.locals ≤ room_1.locals) (hf : cells + 0 ≤ room_1.cells ∧ slots + 0 ≤ room_1.slots) (hdg : decode code pc = .ok (.invokestatic index, 3))
    (kk : ∀ (H1 : Heap) (locs1 : List Loc), va_P (dC, dI) vwCl (gW 162 (cE P ad) ad h) H1 → va_D (fun q : Nat => s.heap.size ≤ q) (gW 162 (cE P ad) ad h) → va_S (fun q : Nat => s.heap.size ≤ q) s.heap H1 locs1 → W p l e room_1 s m #[Value.ref b] below meth c H1 locs1 cells slots Q (F0 m (pc + 3) ls (.int (cellv L xs x) :: rest))) : W p l e room_1 s m #[Value.ref b] below meth c H locs cells slots Q (F0 m pc ls st0) := by
  have S : CallFix p m c code 17 s #[Value.ref b] TB RL := ⟨hx, hb0, hml, hown, hts⟩
  have hP0 : va_P (dC, dI) vwCl (gW 0 (cE P ad) ad h) H := fun k q hk => by simp [gW] at hk
  have hD0 : va_D (gA 0 ad) (gW 0 (cE P ad) ad h) := ⟨fun i j p q hi => by simp [gW] at hi, fun k q hk => by simp [gW] at hk⟩
  refine va_calli (A0 := fun q : Nat => s.heap.size ≤ q) (H0 := s.heap) (va_runS (As := [.ref b, .int x]) (rest := rest) S (c_L_cell l dC dI P ad (b := b) xs hL x hx0 h) ⟨gCallB hts gm_L_cell hlink rfl rfl hR, hts _ st_yL_cell⟩ ⟨gPc_blind (kX_keep ad b L xs), fun U hU hW => ⟨rfl, by rw [hU]; exact hP0, va_K.moved hW.alike hK, hD0, ⟨by rw [hU]; exact (va_X.moved hW.alike hX).kept (hS.2.1 b hbl hbA), by rw [hU]; exact Nat.lt_of_lt_of_le hbl hS.1⟩⟩⟩ rfl rfl hsize hst (lv_room hW) hdg hf) hS (fun q _ z => by obtain ⟨k, hk, _⟩ := z; omega) (fun q z => by obtain ⟨k, hk, _⟩ := z; omega) (fun r u t H1 locs1 ht hvm hw hB hz hk1 hS1 => ?_)
  subst hw
  exact kk H1 locs1 (gW_kept hP hk1 (fun k hk z => by obtain ⟨i, hi, _⟩ := z; omega)) hD hS1
theorem law_K {tb ad : Nat → Nat} {s : State} {H : Heap} {locs : List Loc} (hKs : gKC tb (fun q : Nat => s.heap.size ≤ q) s) (hlw : ∀ k, k < 162 → s.heap.size ≤ ad k) (hS : va_S (fun q : Nat => s.heap.size ≤ q) s.heap H locs) : ∀ U : State, U.heap = H → s.WarmedH U.vm → gKC tb (gA 162 ad) U := fun U hU hW => (gKC_keep tb _).2 s U (gKC_narrow (fun q h => by obtain ⟨k, hk, rfl⟩ := h; exact hlw k hk) hKs) hW (fun q h1 h2 => by rw [hU]; exact hS.2.1 q h1 (Nat.not_le.mpr h1))
