abbrev rm_X3_copyFrom : Room := { frames := 1, cells := 0, slots := 0, locals := 18 }
set_option maxHeartbeats 4000000 in
set_option maxRecDepth 100000 in
theorem c_X3_copyFrom (l : Launch) (dC : Nat → ClassId) (dI : Nat → Nat → Nat) (P : gP) (ad : Nat → Nat) (tb : Nat → Nat) (b1 : Nat) (hb1 : vb b1) (b2 : Nat) (hb2 : vb b2) (h0 : Hp) (Q : Hp → Prop) (he : F_X3_copyFrom b1 b2 h0 Q) : Met l yX3_copyFrom (Cond.code yX3_copyFrom cX3_copyFrom 2 none :: TB) rm_X3_copyFrom (gPc (dC, dI) vwCl (tyC P) 162 (cE P ad) ad (gKC tb (gA 162 ad)) h0 [.ref (ad (b1 + 13)), .ref (ad (b2 + 13))]) (gQv (dC, dI) vwCl (tyC P) 162 (cE P ad) ad Q) 0 0 (gA 162 ad) := by
  refine gx_start (by decide) (Nat.le_of_ble_eq_true rfl) (fun p e s m below meth c ls hx hb0 hr hlocks hml hown hts hK hk hP hD hS hl => ?_)
  have hl : lv_has ls 2 [(0, .ref (ad (b1 + 13))), (1, .ref (ad (b2 + 13)))] := hl
  have hown : s.vm.findClass RX3 = some m.cls := hown
  unfold F_X3_copyFrom at he
  refine lv_aload_n hx hb0 dX3_copyFrom_0 rfl (lv_at hl 1 rfl) ?_
  refine gx_get hx hb0 hts in_RX3 hown hK hP (b2 + 13) (vb_lt hb2 (by decide)) ((cE_13 hb2) _) rfl 0 (by decide) fl_RX3_9 rfl dX3_copyFrom_1 ?_
  refine lv_iconst (v := (0 : Int32)) hx hb0 dX3_copyFrom_4 (by decide) ?_
  refine lv_aload_n hx hb0 dX3_copyFrom_5 rfl (lv_at hl 0 rfl) ?_
  refine gx_get hx hb0 hts in_RX3 hown hK hP (b1 + 13) (vb_lt hb1 (by decide)) ((cE_13 hb1) _) rfl 0 (by decide) fl_RX3_9 rfl dX3_copyFrom_6 ?_
  refine lv_iconst (v := (0 : Int32)) hx hb0 dX3_copyFrom_9 (by decide) ?_
  refine lv_bipush (v := (32 : Int32)) hx hb0 dX3_copyFrom_10 (by decide) ?_
  refine gx_copy hx hb0 (hml.trans hl.1.symm) hts hown ml_RX3_13 nat_arraycopy st_arraycopyName ini_RJ10 hK hP hD hS (b2 + 14) (b1 + 14) 0 32 (vb_lt hb2 (by decide)) (vb_lt hb1 (by decide)) (cE_14 hb2) (cE_14 hb1) rfl (by decide) (by decide) (Nat.le_of_ble_eq_true rfl) (Nat.le_of_ble_eq_true rfl) dX3_copyFrom_12 (fun h_1 eh_1 H locs hP hD hS => ?_)
  have he := he h_1 eh_1
  exact gx_vret hx hb0 hr hlocks hK hP hD hS he dX3_copyFrom_15
theorem gm_X3_copyFrom : gMeth yX3_copyFrom cX3_copyFrom 2 none 1 := ⟨⟨by decide, by decide, by decide +kernel⟩, ini_RX3, co_yX3_copyFrom⟩
abbrev rm_X3_write : Room := { frames := 0, cells := 0, slots := 0, locals := 0 }
set_option maxHeartbeats 4000000 in
set_option maxRecDepth 100000 in
theorem c_X3_write (l : Launch) (dC : Nat → ClassId) (dI : Nat → Nat → Nat) (P : gP) (ad : Nat → Nat) (tb : Nat → Nat) (b1 : Nat) (hb1 : vb b1) (x1 : Int32) (x2 : Int32) (x3 : Int32) (x4 : Int32) (h0 : Hp) (Q : Hp → Prop) (he : F_X3_write b1 x1 x2 x3 x4 h0 Q) : Met l yX3_write (Cond.code yX3_write cX3_write 6 none :: TB) rm_X3_write (gPc (dC, dI) vwCl (tyC P) 162 (cE P ad) ad (gKC tb (gA 162 ad)) h0 [.ref (ad (b1 + 13)), .int x1, .int x2, .int x3, .int x4]) (gQv (dC, dI) vwCl (tyC P) 162 (cE P ad) ad Q) 0 0 (gA 162 ad) := by
  refine gx_start (by decide) (Nat.le_of_ble_eq_true rfl) (fun p e s m below meth c ls hx hb0 hr hlocks hml hown hts hK hk hP hD hS hl => ?_)
  have hl : lv_has ls 6 [(0, .ref (ad (b1 + 13))), (1, .int x1), (2, .int x2), (3, .int x3), (4, .int x4)] := hl
  have hown : s.vm.findClass RX3 = some m.cls := hown
  unfold F_X3_write at he
  refine lv_iload_n hx hb0 dX3_write_0 rfl (lv_at hl 1 rfl) ?_
  refine lv_bipush (v := (8 : Int32)) hx hb0 dX3_write_1 (by decide) ?_
  refine lv_irem hx hb0 dX3_write_3 (by decide) ?_
  refine lv_iconst (v := (4 : Int32)) hx hb0 dX3_write_4 (by decide) ?_
  refine lv_imul hx hb0 dX3_write_5 ?_
  refine lv_topi (fun x_1 ex_1 => ?_)
  have he := he x_1 ex_1
  refine lv_istore (lv' := [(5, .int x_1), (0, .ref (ad (b1 + 13))), (1, .int x1), (2, .int x2), (3, .int x3), (4, .int x4)]) hx hb0 dX3_write_6 hl (by decide) rfl (fun ls hl => ?_)
  refine lv_aload_n hx hb0 dX3_write_8 rfl (lv_at hl 1 rfl) ?_
  refine gx_get hx hb0 hts in_RX3 hown hK hP (b1 + 13) (vb_lt hb1 (by decide)) ((cE_13 hb1) _) rfl 0 (by decide) fl_RX3_9 rfl dX3_write_9 ?_
  refine lv_iload hx hb0 dX3_write_12 (lv_at hl 0 rfl) ?_
  refine lv_iload_n hx hb0 dX3_write_14 rfl (lv_at hl 2 rfl) ?_
  obtain ⟨v_3, he⟩ := he
  refine gx_iast hx hb0 hK hP hD hS (b1 + 14) 0 (vb_lt hb1 (by decide)) (cE_14 hb1) rfl v_3 dX3_write_15 (fun h_2 eh_2 H locs hP hD hS => ?_)
  have he := he h_2 eh_2
  refine lv_aload_n hx hb0 dX3_write_16 rfl (lv_at hl 1 rfl) ?_
  refine gx_get hx hb0 hts in_RX3 hown hK hP (b1 + 13) (vb_lt hb1 (by decide)) ((cE_13 hb1) _) rfl 0 (by decide) fl_RX3_9 rfl dX3_write_17 ?_
  refine lv_iload hx hb0 dX3_write_20 (lv_at hl 0 rfl) ?_
  refine lv_iconst (v := (1 : Int32)) hx hb0 dX3_write_22 (by decide) ?_
  refine lv_iadd hx hb0 dX3_write_23 ?_
  refine lv_iload_n hx hb0 dX3_write_24 rfl (lv_at hl 3 rfl) ?_
  obtain ⟨v_5, he⟩ := he
  refine gx_iast hx hb0 hK hP hD hS (b1 + 14) 0 (vb_lt hb1 (by decide)) (cE_14 hb1) rfl v_5 dX3_write_25 (fun h_4 eh_4 H locs hP hD hS => ?_)
  have he := he h_4 eh_4
  refine lv_aload_n hx hb0 dX3_write_26 rfl (lv_at hl 1 rfl) ?_
  refine gx_get hx hb0 hts in_RX3 hown hK hP (b1 + 13) (vb_lt hb1 (by decide)) ((cE_13 hb1) _) rfl 0 (by decide) fl_RX3_9 rfl dX3_write_27 ?_
  refine lv_iload hx hb0 dX3_write_30 (lv_at hl 0 rfl) ?_
  refine lv_iconst (v := (2 : Int32)) hx hb0 dX3_write_32 (by decide) ?_
  refine lv_iadd hx hb0 dX3_write_33 ?_
  refine lv_iload_n hx hb0 dX3_write_34 rfl (lv_at hl 4 rfl) ?_
  obtain ⟨v_7, he⟩ := he
  refine gx_iast hx hb0 hK hP hD hS (b1 + 14) 0 (vb_lt hb1 (by decide)) (cE_14 hb1) rfl v_7 dX3_write_35 (fun h_6 eh_6 H locs hP hD hS => ?_)
  have he := he h_6 eh_6
  refine lv_aload_n hx hb0 dX3_write_36 rfl (lv_at hl 1 rfl) ?_
  refine gx_get hx hb0 hts in_RX3 hown hK hP (b1 + 13) (vb_lt hb1 (by decide)) ((cE_13 hb1) _) rfl 0 (by decide) fl_RX3_9 rfl dX3_write_37 ?_
  refine lv_iload hx hb0 dX3_write_40 (lv_at hl 0 rfl) ?_
  refine lv_iconst (v := (3 : Int32)) hx hb0 dX3_write_42 (by decide) ?_
  refine lv_iadd hx hb0 dX3_write_43 ?_
  refine lv_iload hx hb0 dX3_write_44 (lv_at hl 5 rfl) ?_
  obtain ⟨v_9, he⟩ := he
  refine gx_iast hx hb0 hK hP hD hS (b1 + 14) 0 (vb_lt hb1 (by decide)) (cE_14 hb1) rfl v_9 dX3_write_46 (fun h_8 eh_8 H locs hP hD hS => ?_)
  have he := he h_8 eh_8
  exact gx_vret hx hb0 hr hlocks hK hP hD hS he dX3_write_47
theorem gm_X3_write : gMeth yX3_write cX3_write 6 none 4 := ⟨⟨by decide, by decide, by decide +kernel⟩, ini_RX3, co_yX3_write⟩
abbrev rm_X3_read : Room := { frames := 0, cells := 0, slots := 0, locals := 0 }
set_option maxHeartbeats 4000000 in
set_option maxRecDepth 100000 in
theorem c_X3_read (l : Launch) (dC : Nat → ClassId) (dI : Nat → Nat → Nat) (P : gP) (ad : Nat → Nat) (tb : Nat → Nat) (b1 : Nat) (hb1 : vb b1) (x1 : Int32) (x2 : Int32) (h0 : Hp) (Q : Int32 → Hp → Prop) (he : F_X3_read b1 x1 x2 h0 Q) : Met l yX3_read (Cond.code yX3_read cX3_read 3 (some .int) :: TB) rm_X3_read (gPc (dC, dI) vwCl (tyC P) 162 (cE P ad) ad (gKC tb (gA 162 ad)) h0 [.ref (ad (b1 + 13)), .int x1, .int x2]) (gQi (dC, dI) vwCl (tyC P) 162 (cE P ad) ad Q) 0 0 (gA 162 ad) := by
  refine gx_start (by decide) (Nat.le_of_ble_eq_true rfl) (fun p e s m below meth c ls hx hb0 hr hlocks hml hown hts hK hk hP hD hS hl => ?_)
  have hl : lv_has ls 3 [(0, .ref (ad (b1 + 13))), (1, .int x1), (2, .int x2)] := hl
  have hown : s.vm.findClass RX3 = some m.cls := hown
  unfold F_X3_read at he
  refine lv_aload_n hx hb0 dX3_read_0 rfl (lv_at hl 0 rfl) ?_
  refine gx_get hx hb0 hts in_RX3 hown hK hP (b1 + 13) (vb_lt hb1 (by decide)) ((cE_13 hb1) _) rfl 0 (by decide) fl_RX3_9 rfl dX3_read_1 ?_
  refine lv_iload_n hx hb0 dX3_read_4 rfl (lv_at hl 1 rfl) ?_
  refine lv_bipush (v := (8 : Int32)) hx hb0 dX3_read_5 (by decide) ?_
  refine lv_irem hx hb0 dX3_read_7 (by decide) ?_
  refine lv_iconst (v := (4 : Int32)) hx hb0 dX3_read_8 (by decide) ?_
  refine lv_imul hx hb0 dX3_read_9 ?_
  refine lv_iload_n hx hb0 dX3_read_10 rfl (lv_at hl 2 rfl) ?_
  refine lv_iadd hx hb0 dX3_read_11 ?_
  obtain ⟨v_1, he⟩ := he
  refine gx_iald hx hb0 hK hP (b1 + 14) 0 (vb_lt hb1 (by decide)) (cE_14 hb1) rfl v_1 dX3_read_12 ?_
  exact gx_iret hx hb0 hr hlocks hK hP hD hS he dX3_read_13
theorem gm_X3_read : gMeth yX3_read cX3_read 3 (some .int) 2 := ⟨⟨by decide, by decide, by decide +kernel⟩, ini_RX3, co_yX3_read⟩
