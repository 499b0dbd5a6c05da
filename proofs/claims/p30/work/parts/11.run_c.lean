abbrev rm_X1_copyFrom : Room := { frames := 1, cells := 0, slots := 0, locals := 18 }
set_option maxHeartbeats 4000000 in
set_option maxRecDepth 100000 in
theorem c_X1_copyFrom (l : Launch) (dC : Nat → ClassId) (dI : Nat → Nat → Nat) (P : gP) (ad : Nat → Nat) (tb : Nat → Nat) (b1 : Nat) (hb1 : vb b1) (b2 : Nat) (hb2 : vb b2) (h0 : Hp) (Q : Hp → Prop) (he : F_X1_copyFrom b1 b2 h0 Q) : Met l yX1_copyFrom (Cond.code yX1_copyFrom cX1_copyFrom 2 none :: TB) rm_X1_copyFrom (gPc (dC, dI) vwCl (tyC P) 162 (cE P ad) ad (gKC tb (gA 162 ad)) h0 [.ref (ad (b1 + 4)), .ref (ad (b2 + 4))]) (gQv (dC, dI) vwCl (tyC P) 162 (cE P ad) ad Q) 0 0 (gA 162 ad) := by
  refine gx_start (by decide) (Nat.le_of_ble_eq_true rfl) (fun p e s m below meth c ls hx hb0 hr hlocks hml hown hts hK hk hP hD hS hl => ?_)
  have hl : lv_has ls 2 [(0, .ref (ad (b1 + 4))), (1, .ref (ad (b2 + 4)))] := hl
  have hown : s.vm.findClass RX1 = some m.cls := hown
  unfold F_X1_copyFrom at he
  refine lv_aload_n hx hb0 dX1_copyFrom_0 rfl (lv_at hl 1 rfl) ?_
  refine gx_get hx hb0 hts in_RX1 hown hK hP (b2 + 4) (vb_lt hb2 (by decide)) ((cE_4 hb2) _) rfl 0 (by decide) fl_RX1_9 rfl dX1_copyFrom_1 ?_
  refine lv_iconst (v := (0 : Int32)) hx hb0 dX1_copyFrom_4 (by decide) ?_
  refine lv_aload_n hx hb0 dX1_copyFrom_5 rfl (lv_at hl 0 rfl) ?_
  refine gx_get hx hb0 hts in_RX1 hown hK hP (b1 + 4) (vb_lt hb1 (by decide)) ((cE_4 hb1) _) rfl 0 (by decide) fl_RX1_9 rfl dX1_copyFrom_6 ?_
  refine lv_iconst (v := (0 : Int32)) hx hb0 dX1_copyFrom_9 (by decide) ?_
  refine lv_bipush (v := (7 : Int32)) hx hb0 dX1_copyFrom_10 (by decide) ?_
  refine gx_copy hx hb0 (hml.trans hl.1.symm) hts hown ml_RX1_33 nat_arraycopy st_arraycopyName ini_RJ10 hK hP hD hS (b2 + 5) (b1 + 5) 0 7 (vb_lt hb2 (by decide)) (vb_lt hb1 (by decide)) (cE_5 hb2) (cE_5 hb1) rfl (by decide) (by decide) (Nat.le_of_ble_eq_true rfl) (Nat.le_of_ble_eq_true rfl) dX1_copyFrom_12 (fun h_1 eh_1 H locs hP hD hS => ?_)
  have he := he h_1 eh_1
  refine lv_aload_n hx hb0 dX1_copyFrom_15 rfl (lv_at hl 1 rfl) ?_
  refine gx_get hx hb0 hts in_RX1 hown hK hP (b2 + 4) (vb_lt hb2 (by decide)) ((cE_4 hb2) _) rfl 1 (by decide) fl_RX1_15 rfl dX1_copyFrom_16 ?_
  refine lv_iconst (v := (0 : Int32)) hx hb0 dX1_copyFrom_19 (by decide) ?_
  refine lv_aload_n hx hb0 dX1_copyFrom_20 rfl (lv_at hl 0 rfl) ?_
  refine gx_get hx hb0 hts in_RX1 hown hK hP (b1 + 4) (vb_lt hb1 (by decide)) ((cE_4 hb1) _) rfl 1 (by decide) fl_RX1_15 rfl dX1_copyFrom_21 ?_
  refine lv_iconst (v := (0 : Int32)) hx hb0 dX1_copyFrom_24 (by decide) ?_
  refine lv_bipush (v := (7 : Int32)) hx hb0 dX1_copyFrom_25 (by decide) ?_
  refine gx_copy hx hb0 (hml.trans hl.1.symm) hts hown ml_RX1_33 nat_arraycopy st_arraycopyName ini_RJ10 hK hP hD hS (b2 + 6) (b1 + 6) 0 7 (vb_lt hb2 (by decide)) (vb_lt hb1 (by decide)) (cE_6 hb2) (cE_6 hb1) rfl (by decide) (by decide) (Nat.le_of_ble_eq_true rfl) (Nat.le_of_ble_eq_true rfl) dX1_copyFrom_27 (fun h_2 eh_2 H locs hP hD hS => ?_)
  have he := he h_2 eh_2
  refine lv_aload_n hx hb0 dX1_copyFrom_30 rfl (lv_at hl 1 rfl) ?_
  refine gx_get hx hb0 hts in_RX1 hown hK hP (b2 + 4) (vb_lt hb2 (by decide)) ((cE_4 hb2) _) rfl 2 (by decide) fl_RX1_18 rfl dX1_copyFrom_31 ?_
  refine lv_iconst (v := (0 : Int32)) hx hb0 dX1_copyFrom_34 (by decide) ?_
  refine lv_aload_n hx hb0 dX1_copyFrom_35 rfl (lv_at hl 0 rfl) ?_
  refine gx_get hx hb0 hts in_RX1 hown hK hP (b1 + 4) (vb_lt hb1 (by decide)) ((cE_4 hb1) _) rfl 2 (by decide) fl_RX1_18 rfl dX1_copyFrom_36 ?_
  refine lv_iconst (v := (0 : Int32)) hx hb0 dX1_copyFrom_39 (by decide) ?_
  refine lv_bipush (v := (7 : Int32)) hx hb0 dX1_copyFrom_40 (by decide) ?_
  refine gx_copy hx hb0 (hml.trans hl.1.symm) hts hown ml_RX1_33 nat_arraycopy st_arraycopyName ini_RJ10 hK hP hD hS (b2 + 7) (b1 + 7) 0 7 (vb_lt hb2 (by decide)) (vb_lt hb1 (by decide)) (cE_7 hb2) (cE_7 hb1) rfl (by decide) (by decide) (Nat.le_of_ble_eq_true rfl) (Nat.le_of_ble_eq_true rfl) dX1_copyFrom_42 (fun h_3 eh_3 H locs hP hD hS => ?_)
  have he := he h_3 eh_3
  refine lv_aload_n hx hb0 dX1_copyFrom_45 rfl (lv_at hl 1 rfl) ?_
  refine gx_get hx hb0 hts in_RX1 hown hK hP (b2 + 4) (vb_lt hb2 (by decide)) ((cE_4 hb2) _) rfl 3 (by decide) fl_RX1_21 rfl dX1_copyFrom_46 ?_
  refine lv_iconst (v := (0 : Int32)) hx hb0 dX1_copyFrom_49 (by decide) ?_
  refine lv_aload_n hx hb0 dX1_copyFrom_50 rfl (lv_at hl 0 rfl) ?_
  refine gx_get hx hb0 hts in_RX1 hown hK hP (b1 + 4) (vb_lt hb1 (by decide)) ((cE_4 hb1) _) rfl 3 (by decide) fl_RX1_21 rfl dX1_copyFrom_51 ?_
  refine lv_iconst (v := (0 : Int32)) hx hb0 dX1_copyFrom_54 (by decide) ?_
  refine lv_bipush (v := (7 : Int32)) hx hb0 dX1_copyFrom_55 (by decide) ?_
  refine gx_copy hx hb0 (hml.trans hl.1.symm) hts hown ml_RX1_33 nat_arraycopy st_arraycopyName ini_RJ10 hK hP hD hS (b2 + 8) (b1 + 8) 0 7 (vb_lt hb2 (by decide)) (vb_lt hb1 (by decide)) (cE_8 hb2) (cE_8 hb1) rfl (by decide) (by decide) (Nat.le_of_ble_eq_true rfl) (Nat.le_of_ble_eq_true rfl) dX1_copyFrom_57 (fun h_4 eh_4 H locs hP hD hS => ?_)
  have he := he h_4 eh_4
  refine lv_aload_n hx hb0 dX1_copyFrom_60 rfl (lv_at hl 1 rfl) ?_
  refine gx_get hx hb0 hts in_RX1 hown hK hP (b2 + 4) (vb_lt hb2 (by decide)) ((cE_4 hb2) _) rfl 4 (by decide) fl_RX1_24 rfl dX1_copyFrom_61 ?_
  refine lv_iconst (v := (0 : Int32)) hx hb0 dX1_copyFrom_64 (by decide) ?_
  refine lv_aload_n hx hb0 dX1_copyFrom_65 rfl (lv_at hl 0 rfl) ?_
  refine gx_get hx hb0 hts in_RX1 hown hK hP (b1 + 4) (vb_lt hb1 (by decide)) ((cE_4 hb1) _) rfl 4 (by decide) fl_RX1_24 rfl dX1_copyFrom_66 ?_
  refine lv_iconst (v := (0 : Int32)) hx hb0 dX1_copyFrom_69 (by decide) ?_
  refine lv_bipush (v := (7 : Int32)) hx hb0 dX1_copyFrom_70 (by decide) ?_
  refine gx_copy hx hb0 (hml.trans hl.1.symm) hts hown ml_RX1_33 nat_arraycopy st_arraycopyName ini_RJ10 hK hP hD hS (b2 + 9) (b1 + 9) 0 7 (vb_lt hb2 (by decide)) (vb_lt hb1 (by decide)) (cE_9 hb2) (cE_9 hb1) rfl (by decide) (by decide) (Nat.le_of_ble_eq_true rfl) (Nat.le_of_ble_eq_true rfl) dX1_copyFrom_72 (fun h_5 eh_5 H locs hP hD hS => ?_)
  have he := he h_5 eh_5
  refine lv_aload_n hx hb0 dX1_copyFrom_75 rfl (lv_at hl 1 rfl) ?_
  refine gx_get hx hb0 hts in_RX1 hown hK hP (b2 + 4) (vb_lt hb2 (by decide)) ((cE_4 hb2) _) rfl 5 (by decide) fl_RX1_27 rfl dX1_copyFrom_76 ?_
  refine lv_iconst (v := (0 : Int32)) hx hb0 dX1_copyFrom_79 (by decide) ?_
  refine lv_aload_n hx hb0 dX1_copyFrom_80 rfl (lv_at hl 0 rfl) ?_
  refine gx_get hx hb0 hts in_RX1 hown hK hP (b1 + 4) (vb_lt hb1 (by decide)) ((cE_4 hb1) _) rfl 5 (by decide) fl_RX1_27 rfl dX1_copyFrom_81 ?_
  refine lv_iconst (v := (0 : Int32)) hx hb0 dX1_copyFrom_84 (by decide) ?_
  refine lv_bipush (v := (7 : Int32)) hx hb0 dX1_copyFrom_85 (by decide) ?_
  refine gx_copy hx hb0 (hml.trans hl.1.symm) hts hown ml_RX1_33 nat_arraycopy st_arraycopyName ini_RJ10 hK hP hD hS (b2 + 10) (b1 + 10) 0 7 (vb_lt hb2 (by decide)) (vb_lt hb1 (by decide)) (cE_10 hb2) (cE_10 hb1) rfl (by decide) (by decide) (Nat.le_of_ble_eq_true rfl) (Nat.le_of_ble_eq_true rfl) dX1_copyFrom_87 (fun h_6 eh_6 H locs hP hD hS => ?_)
  have he := he h_6 eh_6
  refine lv_aload_n hx hb0 dX1_copyFrom_90 rfl (lv_at hl 1 rfl) ?_
  refine gx_get hx hb0 hts in_RX1 hown hK hP (b2 + 4) (vb_lt hb2 (by decide)) ((cE_4 hb2) _) rfl 6 (by decide) fl_RX1_30 rfl dX1_copyFrom_91 ?_
  refine lv_iconst (v := (0 : Int32)) hx hb0 dX1_copyFrom_94 (by decide) ?_
  refine lv_aload_n hx hb0 dX1_copyFrom_95 rfl (lv_at hl 0 rfl) ?_
  refine gx_get hx hb0 hts in_RX1 hown hK hP (b1 + 4) (vb_lt hb1 (by decide)) ((cE_4 hb1) _) rfl 6 (by decide) fl_RX1_30 rfl dX1_copyFrom_96 ?_
  refine lv_iconst (v := (0 : Int32)) hx hb0 dX1_copyFrom_99 (by decide) ?_
  refine lv_bipush (v := (7 : Int32)) hx hb0 dX1_copyFrom_100 (by decide) ?_
  refine gx_copy hx hb0 (hml.trans hl.1.symm) hts hown ml_RX1_33 nat_arraycopy st_arraycopyName ini_RJ10 hK hP hD hS (b2 + 11) (b1 + 11) 0 7 (vb_lt hb2 (by decide)) (vb_lt hb1 (by decide)) (cE_11 hb2) (cE_11 hb1) rfl (by decide) (by decide) (Nat.le_of_ble_eq_true rfl) (Nat.le_of_ble_eq_true rfl) dX1_copyFrom_102 (fun h_7 eh_7 H locs hP hD hS => ?_)
  have he := he h_7 eh_7
  exact gx_vret hx hb0 hr hlocks hK hP hD hS he dX1_copyFrom_105
theorem gm_X1_copyFrom : gMeth yX1_copyFrom cX1_copyFrom 2 none 1 := ⟨⟨by decide, by decide, by decide +kernel⟩, ini_RX1, co_yX1_copyFrom⟩
abbrev rm_X1_errorOfNextSight : Room := { frames := 0, cells := 0, slots := 0, locals := 0 }
set_option maxHeartbeats 4000000 in
set_option maxRecDepth 100000 in
theorem c_X1_errorOfNextSight (l : Launch) (dC : Nat → ClassId) (dI : Nat → Nat → Nat) (P : gP) (ad : Nat → Nat) (tb : Nat → Nat) (b1 : Nat) (hb1 : vb b1) (x1 : Int32) (h0 : Hp) (Q : Int32 → Hp → Prop) (he : F_X1_errorOfNextSight b1 x1 h0 Q) : Met l yX1_errorOfNextSight (Cond.code yX1_errorOfNextSight cX1_errorOfNextSight 3 (some .int) :: TB) rm_X1_errorOfNextSight (gPc (dC, dI) vwCl (tyC P) 162 (cE P ad) ad (gKC tb (gA 162 ad)) h0 [.ref (ad (b1 + 4)), .int x1]) (gQi (dC, dI) vwCl (tyC P) 162 (cE P ad) ad Q) 0 0 (gA 162 ad) := by
  refine gx_start (by decide) (Nat.le_of_ble_eq_true rfl) (fun p e s m below meth c ls hx hb0 hr hlocks hml hown hts hK hk hP hD hS hl => ?_)
  have hl : lv_has ls 3 [(0, .ref (ad (b1 + 4))), (1, .int x1)] := hl
  have hown : s.vm.findClass RX1 = some m.cls := hown
  unfold F_X1_errorOfNextSight at he
  refine lv_iconst (v := (3 : Int32)) hx hb0 dX1_errorOfNextSight_0 (by decide) ?_
  refine lv_iload_n hx hb0 dX1_errorOfNextSight_1 rfl (lv_at hl 1 rfl) ?_
  refine lv_imul hx hb0 dX1_errorOfNextSight_2 ?_
  refine lv_bipush (v := (7 : Int32)) hx hb0 dX1_errorOfNextSight_3 (by decide) ?_
  refine lv_aload_n hx hb0 dX1_errorOfNextSight_5 rfl (lv_at hl 0 rfl) ?_
  refine gx_get hx hb0 hts in_RX1 hown hK hP (b1 + 4) (vb_lt hb1 (by decide)) ((cE_4 hb1) _) rfl 4 (by decide) fl_RX1_24 rfl dX1_errorOfNextSight_6 ?_
  refine lv_iload_n hx hb0 dX1_errorOfNextSight_9 rfl (lv_at hl 1 rfl) ?_
  obtain ⟨v_1, he⟩ := he
  refine gx_iald hx hb0 hK hP (b1 + 9) 0 (vb_lt hb1 (by decide)) (cE_9 hb1) rfl v_1 dX1_errorOfNextSight_10 ?_
  refine lv_imul hx hb0 dX1_errorOfNextSight_11 ?_
  refine lv_iadd hx hb0 dX1_errorOfNextSight_12 ?_
  refine lv_bipush (v := (11 : Int32)) hx hb0 dX1_errorOfNextSight_13 (by decide) ?_
  refine lv_irem hx hb0 dX1_errorOfNextSight_15 (by decide) ?_
  refine lv_iconst (v := (5 : Int32)) hx hb0 dX1_errorOfNextSight_16 (by decide) ?_
  refine lv_isub hx hb0 dX1_errorOfNextSight_17 ?_
  refine lv_topi (fun x_2 ex_2 => ?_)
  have he := he x_2 ex_2
  refine lv_istore_n (lv' := [(2, .int x_2), (0, .ref (ad (b1 + 4))), (1, .int x1)]) hx hb0 dX1_errorOfNextSight_18 rfl hl (by decide) rfl (fun ls hl => ?_)
  refine lv_aload_n hx hb0 dX1_errorOfNextSight_19 rfl (lv_at hl 1 rfl) ?_
  refine gx_get hx hb0 hts in_RX1 hown hK hP (b1 + 4) (vb_lt hb1 (by decide)) ((cE_4 hb1) _) rfl 1 (by decide) fl_RX1_15 rfl dX1_errorOfNextSight_20 ?_
  refine lv_iload_n hx hb0 dX1_errorOfNextSight_23 rfl (lv_at hl 2 rfl) ?_
  obtain ⟨v_3, he⟩ := he
  refine gx_iald hx hb0 hK hP (b1 + 6) 0 (vb_lt hb1 (by decide)) (cE_6 hb1) rfl v_3 dX1_errorOfNextSight_24 ?_
  refine lv_bipush (v := (9 : Int32)) hx hb0 dX1_errorOfNextSight_25 (by decide) ?_
  refine lv_aload_n hx hb0 dX1_errorOfNextSight_27 rfl (lv_at hl 1 rfl) ?_
  refine gx_get hx hb0 hts in_RX1 hown hK hP (b1 + 4) (vb_lt hb1 (by decide)) ((cE_4 hb1) _) rfl 0 (by decide) fl_RX1_9 rfl dX1_errorOfNextSight_28 ?_
  refine lv_iload_n hx hb0 dX1_errorOfNextSight_31 rfl (lv_at hl 2 rfl) ?_
  obtain ⟨v_4, he⟩ := he
  refine gx_iald hx hb0 hK hP (b1 + 5) 0 (vb_lt hb1 (by decide)) (cE_5 hb1) rfl v_4 dX1_errorOfNextSight_32 ?_
  refine lv_isub hx hb0 dX1_errorOfNextSight_33 ?_
  refine lv_iload_n hx hb0 dX1_errorOfNextSight_34 rfl (lv_at hl 0 rfl) ?_
  refine lv_imul hx hb0 dX1_errorOfNextSight_35 ?_
  refine lv_iadd hx hb0 dX1_errorOfNextSight_36 ?_
  exact gx_iret hx hb0 hr hlocks hK hP hD hS he dX1_errorOfNextSight_37
theorem gm_X1_errorOfNextSight : gMeth yX1_errorOfNextSight cX1_errorOfNextSight 3 (some .int) 1 := ⟨⟨by decide, by decide, by decide +kernel⟩, ini_RX1, co_yX1_errorOfNextSight⟩
abbrev rm_X1_factOf : Room := { frames := 1, cells := 0, slots := 0, locals := 22 }
set_option maxHeartbeats 4000000 in
set_option maxRecDepth 100000 in
theorem c_X1_factOf (l : Launch) (dC : Nat → ClassId) (dI : Nat → Nat → Nat) (P : gP) (ad : Nat → Nat) (tb : Nat → Nat) (b1 : Nat) (hb1 : vb b1) (x1 : Int32) (x2 : Int32) (h0 : Hp) (Q : Int32 → Hp → Prop) (he : F_X1_factOf b1 x1 x2 h0 Q) : Met l yX1_factOf (Cond.code yX1_factOf cX1_factOf 3 (some .int) :: TB) rm_X1_factOf (gPc (dC, dI) vwCl (tyC P) 162 (cE P ad) ad (gKC tb (gA 162 ad)) h0 [.ref (ad (b1 + 4)), .int x1, .int x2]) (gQi (dC, dI) vwCl (tyC P) 162 (cE P ad) ad Q) 0 0 (gA 162 ad) := by
  refine gx_start (by decide) (Nat.le_of_ble_eq_true rfl) (fun p e s m below meth c ls hx hb0 hr hlocks hml hown hts hK hk hP hD hS hl => ?_)
  have hl : lv_has ls 3 [(0, .ref (ad (b1 + 4))), (1, .int x1), (2, .int x2)] := hl
  have hown : s.vm.findClass RX1 = some m.cls := hown
  unfold F_X1_factOf at he
  refine lv_iload_n hx hb0 dX1_factOf_0 rfl (lv_at hl 2 rfl) ?_
  by_cases c_1 : x2 = 0
  · have he := he.1 c_1
    refine lv_tableIn (off := 47) (tgt := 48) hx hb0 dX1_factOf_1 (by rw [c_1]; decide) (by rw [c_1]; decide) (by rw [c_1]; rfl) (by decide) ?_
    refine lv_aload_n hx hb0 dX1_factOf_48 rfl (lv_at hl 0 rfl) ?_
    refine gx_get hx hb0 hts in_RX1 hown hK hP (b1 + 4) (vb_lt hb1 (by decide)) ((cE_4 hb1) _) rfl 0 (by decide) fl_RX1_9 rfl dX1_factOf_49 ?_
    refine lv_iload_n hx hb0 dX1_factOf_52 rfl (lv_at hl 1 rfl) ?_
    obtain ⟨v_2, he⟩ := he
    refine gx_iald hx hb0 hK hP (b1 + 5) 0 (vb_lt hb1 (by decide)) (cE_5 hb1) rfl v_2 dX1_factOf_53 ?_
    exact gx_iret hx hb0 hr hlocks hK hP hD hS he dX1_factOf_54
  have he := he.2 c_1
  by_cases c_3 : x2 = 1
  · have he := he.1 c_3
    refine lv_tableIn (off := 54) (tgt := 55) hx hb0 dX1_factOf_1 (by rw [c_3]; decide) (by rw [c_3]; decide) (by rw [c_3]; rfl) (by decide) ?_
    refine lv_aload_n hx hb0 dX1_factOf_55 rfl (lv_at hl 0 rfl) ?_
    refine gx_get hx hb0 hts in_RX1 hown hK hP (b1 + 4) (vb_lt hb1 (by decide)) ((cE_4 hb1) _) rfl 1 (by decide) fl_RX1_15 rfl dX1_factOf_56 ?_
    refine lv_iload_n hx hb0 dX1_factOf_59 rfl (lv_at hl 1 rfl) ?_
    obtain ⟨v_4, he⟩ := he
    refine gx_iald hx hb0 hK hP (b1 + 6) 0 (vb_lt hb1 (by decide)) (cE_6 hb1) rfl v_4 dX1_factOf_60 ?_
    refine lv_bipush (v := (60 : Int32)) hx hb0 dX1_factOf_61 (by decide) ?_
    refine lv_iadd hx hb0 dX1_factOf_63 ?_
    exact gx_iret hx hb0 hr hlocks hK hP hD hS he dX1_factOf_64
  have he := he.2 c_3
  by_cases c_5 : x2 = 2
  · have he := he.1 c_5
    refine lv_tableIn (off := 64) (tgt := 65) hx hb0 dX1_factOf_1 (by rw [c_5]; decide) (by rw [c_5]; decide) (by rw [c_5]; rfl) (by decide) ?_
    refine lv_aload_n hx hb0 dX1_factOf_65 rfl (lv_at hl 0 rfl) ?_
    refine gx_get hx hb0 hts in_RX1 hown hK hP (b1 + 4) (vb_lt hb1 (by decide)) ((cE_4 hb1) _) rfl 2 (by decide) fl_RX1_18 rfl dX1_factOf_66 ?_
    refine lv_iload_n hx hb0 dX1_factOf_69 rfl (lv_at hl 1 rfl) ?_
    obtain ⟨v_6, he⟩ := he
    refine gx_iald hx hb0 hK hP (b1 + 7) 0 (vb_lt hb1 (by decide)) (cE_7 hb1) rfl v_6 dX1_factOf_70 ?_
    exact gx_iret hx hb0 hr hlocks hK hP hD hS he dX1_factOf_71
  have he := he.2 c_5
  by_cases c_7 : x2 = 3
  · have he := he.1 c_7
    refine lv_tableIn (off := 71) (tgt := 72) hx hb0 dX1_factOf_1 (by rw [c_7]; decide) (by rw [c_7]; decide) (by rw [c_7]; rfl) (by decide) ?_
    refine lv_aload_n hx hb0 dX1_factOf_72 rfl (lv_at hl 0 rfl) ?_
    refine gx_get hx hb0 hts in_RX1 hown hK hP (b1 + 4) (vb_lt hb1 (by decide)) ((cE_4 hb1) _) rfl 3 (by decide) fl_RX1_21 rfl dX1_factOf_73 ?_
    refine lv_iload_n hx hb0 dX1_factOf_76 rfl (lv_at hl 1 rfl) ?_
    obtain ⟨v_8, he⟩ := he
    refine gx_iald hx hb0 hK hP (b1 + 8) 0 (vb_lt hb1 (by decide)) (cE_8 hb1) rfl v_8 dX1_factOf_77 ?_
    exact gx_iret hx hb0 hr hlocks hK hP hD hS he dX1_factOf_78
  have he := he.2 c_7
  by_cases c_9 : x2 = 4
  · have he := he.1 c_9
    refine lv_tableIn (off := 78) (tgt := 79) hx hb0 dX1_factOf_1 (by rw [c_9]; decide) (by rw [c_9]; decide) (by rw [c_9]; rfl) (by decide) ?_
    refine lv_aload_n hx hb0 dX1_factOf_79 rfl (lv_at hl 0 rfl) ?_
    refine gx_get hx hb0 hts in_RX1 hown hK hP (b1 + 4) (vb_lt hb1 (by decide)) ((cE_4 hb1) _) rfl 4 (by decide) fl_RX1_24 rfl dX1_factOf_80 ?_
    refine lv_iload_n hx hb0 dX1_factOf_83 rfl (lv_at hl 1 rfl) ?_
    obtain ⟨v_10, he⟩ := he
    refine gx_iald hx hb0 hK hP (b1 + 9) 0 (vb_lt hb1 (by decide)) (cE_9 hb1) rfl v_10 dX1_factOf_84 ?_
    exact gx_iret hx hb0 hr hlocks hK hP hD hS he dX1_factOf_85
  have he := he.2 c_9
  by_cases c_11 : x2 = 5
  · have he := he.1 c_11
    refine lv_tableIn (off := 85) (tgt := 86) hx hb0 dX1_factOf_1 (by rw [c_11]; decide) (by rw [c_11]; decide) (by rw [c_11]; rfl) (by decide) ?_
    refine lv_aload_n hx hb0 dX1_factOf_86 rfl (lv_at hl 0 rfl) ?_
    refine gx_get hx hb0 hts in_RX1 hown hK hP (b1 + 4) (vb_lt hb1 (by decide)) ((cE_4 hb1) _) rfl 5 (by decide) fl_RX1_27 rfl dX1_factOf_87 ?_
    refine lv_iload_n hx hb0 dX1_factOf_90 rfl (lv_at hl 1 rfl) ?_
    obtain ⟨v_12, he⟩ := he
    refine gx_iald hx hb0 hK hP (b1 + 10) 0 (vb_lt hb1 (by decide)) (cE_10 hb1) rfl v_12 dX1_factOf_91 ?_
    refine gx_sn ⟨hx, hb0, hml, hown, hts⟩ (gKC_keep _ _) hk hK hP hD hS [.int (h0 (b1 + 10) x1.toNatClampNeg)] [] (c_X7_toldLatitude l dC dI P ad tb (h0 (b1 + 10) x1.toNatClampNeg) h0 _ he) gm_X7_toldLatitude st_yX7_toldLatitude (hk.1 _ nl_RX1_39) rfl rfl ⟨Nat.le_of_ble_eq_true rfl, Nat.le_of_ble_eq_true rfl⟩ rfl hl.1 rfl (Nat.le_of_ble_eq_true rfl) dX1_factOf_92 ⟨Nat.zero_le _, Nat.zero_le _⟩ (fun r_13 h_14 he H locs hP hD hS => ?_)
    exact gx_iret hx hb0 hr hlocks hK hP hD hS he dX1_factOf_95
  have he := he.2 c_11
  by_cases c_15 : x2 = 6
  · have he := he.1 c_15
    refine lv_tableIn (off := 95) (tgt := 96) hx hb0 dX1_factOf_1 (by rw [c_15]; decide) (by rw [c_15]; decide) (by rw [c_15]; rfl) (by decide) ?_
    refine lv_aload_n hx hb0 dX1_factOf_96 rfl (lv_at hl 0 rfl) ?_
    refine gx_get hx hb0 hts in_RX1 hown hK hP (b1 + 4) (vb_lt hb1 (by decide)) ((cE_4 hb1) _) rfl 6 (by decide) fl_RX1_30 rfl dX1_factOf_97 ?_
    refine lv_iload_n hx hb0 dX1_factOf_100 rfl (lv_at hl 1 rfl) ?_
    obtain ⟨v_16, he⟩ := he
    refine gx_iald hx hb0 hK hP (b1 + 11) 0 (vb_lt hb1 (by decide)) (cE_11 hb1) rfl v_16 dX1_factOf_101 ?_
    exact gx_iret hx hb0 hr hlocks hK hP hD hS he dX1_factOf_102
  have he := he.2 c_15
  by_cases c_17 : x2 = 7
  · have he := he.1 c_17
    refine lv_tableIn (off := 102) (tgt := 103) hx hb0 dX1_factOf_1 (by rw [c_17]; decide) (by rw [c_17]; decide) (by rw [c_17]; rfl) (by decide) ?_
    refine lv_aload_n hx hb0 dX1_factOf_103 rfl (lv_at hl 0 rfl) ?_
    refine lv_iload_n hx hb0 dX1_factOf_104 rfl (lv_at hl 1 rfl) ?_
    refine gx_vi ⟨hx, hb0, hml, hown, hts⟩ (gKC_keep _ _) hk hK hP hD hS (b1 + 4) [.int x1] [] (c_X1_errorOfNextSight l dC dI P ad tb b1 hb1 x1 h0 _ he) gm_X1_errorOfNextSight im_yX1_errorOfNextSight se_yX1_errorOfNextSight ml_RX1_43 (vb_lt hb1 (by decide)) ((cE_4 hb1) _) rfl rfl rfl ⟨Nat.le_of_ble_eq_true rfl, Nat.le_of_ble_eq_true rfl⟩ rfl hl.1 rfl (Nat.le_of_ble_eq_true rfl) dX1_factOf_105 ⟨Nat.zero_le _, Nat.zero_le _⟩ (fun r_18 h_19 he H locs hP hD hS => ?_)
    refine lv_sipush (v := (999 : Int32)) hx hb0 dX1_factOf_108 (by decide) ?_
    refine lv_iadd hx hb0 dX1_factOf_111 ?_
    exact gx_iret hx hb0 hr hlocks hK hP hD hS he dX1_factOf_112
  have he := he.2 c_17
  refine lv_tableOut (tgt := 113) hx hb0 dX1_factOf_1 (by have z0 := lv_neT c_1 (a := 0) rfl; have z1 := lv_neT c_3 (a := 1) rfl; have z2 := lv_neT c_5 (a := 2) rfl; have z3 := lv_neT c_7 (a := 3) rfl; have z4 := lv_neT c_9 (a := 4) rfl; have z5 := lv_neT c_11 (a := 5) rfl; have z6 := lv_neT c_15 (a := 6) rfl; have z7 := lv_neT c_17 (a := 7) rfl; omega) (by decide) ?_
  refine lv_bipush (v := (-2 : Int32)) hx hb0 dX1_factOf_113 (by decide) ?_
  exact gx_iret hx hb0 hr hlocks hK hP hD hS he dX1_factOf_115
theorem gm_X1_factOf : gMeth yX1_factOf cX1_factOf 3 (some .int) 2 := ⟨⟨by decide, by decide, by decide +kernel⟩, ini_RX1, co_yX1_factOf⟩
abbrev rm_X1_takesPart : Room := { frames := 0, cells := 0, slots := 0, locals := 0 }
set_option maxHeartbeats 4000000 in
set_option maxRecDepth 100000 in
theorem c_X1_takesPart (l : Launch) (dC : Nat → ClassId) (dI : Nat → Nat → Nat) (P : gP) (ad : Nat → Nat) (tb : Nat → Nat) (b1 : Nat) (hb1 : vb b1) (x1 : Int32) (h0 : Hp) (Q : Int32 → Hp → Prop) (he : F_X1_takesPart b1 x1 h0 Q) : Met l yX1_takesPart (Cond.code yX1_takesPart cX1_takesPart 2 (some .boolean) :: TB) rm_X1_takesPart (gPc (dC, dI) vwCl (tyC P) 162 (cE P ad) ad (gKC tb (gA 162 ad)) h0 [.ref (ad (b1 + 4)), .int x1]) (gQi (dC, dI) vwCl (tyC P) 162 (cE P ad) ad Q) 0 0 (gA 162 ad) := by
  refine gx_start (by decide) (Nat.le_of_ble_eq_true rfl) (fun p e s m below meth c ls hx hb0 hr hlocks hml hown hts hK hk hP hD hS hl => ?_)
  have hl : lv_has ls 2 [(0, .ref (ad (b1 + 4))), (1, .int x1)] := hl
  have hown : s.vm.findClass RX1 = some m.cls := hown
  unfold F_X1_takesPart at he
  refine lv_aload_n hx hb0 dX1_takesPart_0 rfl (lv_at hl 0 rfl) ?_
  refine gx_get hx hb0 hts in_RX1 hown hK hP (b1 + 4) (vb_lt hb1 (by decide)) ((cE_4 hb1) _) rfl 6 (by decide) fl_RX1_30 rfl dX1_takesPart_1 ?_
  refine lv_iload_n hx hb0 dX1_takesPart_4 rfl (lv_at hl 1 rfl) ?_
  obtain ⟨v_1, he⟩ := he
  refine gx_iald hx hb0 hK hP (b1 + 11) 0 (vb_lt hb1 (by decide)) (cE_11 hb1) rfl v_1 dX1_takesPart_5 ?_
  refine lv_if_ne (tgt := 25) hx hb0 dX1_takesPart_6 (by decide) (fun c_2 => ?_) (fun c_2 => ?_)
  · have he := he.2 c_2
    refine lv_iconst (v := (0 : Int32)) hx hb0 dX1_takesPart_25 (by decide) ?_
    exact gx_zret hx hb0 hr (by decide) hlocks hK hP hD hS he dX1_takesPart_26
  · have he := he.1 c_2
    refine lv_aload_n hx hb0 dX1_takesPart_9 rfl (lv_at hl 0 rfl) ?_
    refine gx_get hx hb0 hts in_RX1 hown hK hP (b1 + 4) (vb_lt hb1 (by decide)) ((cE_4 hb1) _) rfl 5 (by decide) fl_RX1_27 rfl dX1_takesPart_10 ?_
    refine lv_iload_n hx hb0 dX1_takesPart_13 rfl (lv_at hl 1 rfl) ?_
    obtain ⟨v_3, he⟩ := he
    refine gx_iald hx hb0 hK hP (b1 + 10) 0 (vb_lt hb1 (by decide)) (cE_10 hb1) rfl v_3 dX1_takesPart_14 ?_
    refine lv_sipush (v := (9999 : Int32)) hx hb0 dX1_takesPart_15 (by decide) ?_
    refine lv_icmp_eq (tgt := 25) hx hb0 dX1_takesPart_18 (by decide) (fun c_4 => ?_) (fun c_4 => ?_)
    · have he := he.1 c_4
      refine lv_iconst (v := (0 : Int32)) hx hb0 dX1_takesPart_25 (by decide) ?_
      exact gx_zret hx hb0 hr (by decide) hlocks hK hP hD hS he dX1_takesPart_26
    · have he := he.2 c_4
      refine lv_iconst (v := (1 : Int32)) hx hb0 dX1_takesPart_21 (by decide) ?_
      refine lv_goto (tgt := 26) hx hb0 dX1_takesPart_22 (by decide) ?_
      exact gx_zret hx hb0 hr (by decide) hlocks hK hP hD hS he dX1_takesPart_26
theorem gm_X1_takesPart : gMeth yX1_takesPart cX1_takesPart 2 (some .boolean) 1 := ⟨⟨by decide, by decide, by decide +kernel⟩, ini_RX1, co_yX1_takesPart⟩
abbrev rm_X1_standsBefore : Room := { frames := 0, cells := 0, slots := 0, locals := 0 }
set_option maxHeartbeats 4000000 in
set_option maxRecDepth 100000 in
theorem c_X1_standsBefore (l : Launch) (dC : Nat → ClassId) (dI : Nat → Nat → Nat) (P : gP) (ad : Nat → Nat) (tb : Nat → Nat) (b1 : Nat) (hb1 : vb b1) (x1 : Int32) (x2 : Int32) (h0 : Hp) (Q : Int32 → Hp → Prop) (he : F_X1_standsBefore b1 x1 x2 h0 Q) : Met l yX1_standsBefore (Cond.code yX1_standsBefore cX1_standsBefore 3 (some .boolean) :: TB) rm_X1_standsBefore (gPc (dC, dI) vwCl (tyC P) 162 (cE P ad) ad (gKC tb (gA 162 ad)) h0 [.ref (ad (b1 + 4)), .int x1, .int x2]) (gQi (dC, dI) vwCl (tyC P) 162 (cE P ad) ad Q) 0 0 (gA 162 ad) := by
  refine gx_start (by decide) (Nat.le_of_ble_eq_true rfl) (fun p e s m below meth c ls hx hb0 hr hlocks hml hown hts hK hk hP hD hS hl => ?_)
  have hl : lv_has ls 3 [(0, .ref (ad (b1 + 4))), (1, .int x1), (2, .int x2)] := hl
  have hown : s.vm.findClass RX1 = some m.cls := hown
  unfold F_X1_standsBefore at he
  refine lv_aload_n hx hb0 dX1_standsBefore_0 rfl (lv_at hl 0 rfl) ?_
  refine gx_get hx hb0 hts in_RX1 hown hK hP (b1 + 4) (vb_lt hb1 (by decide)) ((cE_4 hb1) _) rfl 5 (by decide) fl_RX1_27 rfl dX1_standsBefore_1 ?_
  refine lv_iload_n hx hb0 dX1_standsBefore_4 rfl (lv_at hl 1 rfl) ?_
  obtain ⟨v_1, he⟩ := he
  refine gx_iald hx hb0 hK hP (b1 + 10) 0 (vb_lt hb1 (by decide)) (cE_10 hb1) rfl v_1 dX1_standsBefore_5 ?_
  refine lv_aload_n hx hb0 dX1_standsBefore_6 rfl (lv_at hl 0 rfl) ?_
  refine gx_get hx hb0 hts in_RX1 hown hK hP (b1 + 4) (vb_lt hb1 (by decide)) ((cE_4 hb1) _) rfl 5 (by decide) fl_RX1_27 rfl dX1_standsBefore_7 ?_
  refine lv_iload_n hx hb0 dX1_standsBefore_10 rfl (lv_at hl 2 rfl) ?_
  obtain ⟨v_2, he⟩ := he
  refine gx_iald hx hb0 hK hP (b1 + 10) 0 (vb_lt hb1 (by decide)) (cE_10 hb1) rfl v_2 dX1_standsBefore_11 ?_
  refine lv_icmp_lt (tgt := 35) hx hb0 dX1_standsBefore_12 (by decide) (fun c_3 => ?_) (fun c_3 => ?_)
  · have he := he.1 c_3
    refine lv_iconst (v := (1 : Int32)) hx hb0 dX1_standsBefore_35 (by decide) ?_
    refine lv_goto (tgt := 40) hx hb0 dX1_standsBefore_36 (by decide) ?_
    exact gx_zret hx hb0 hr (by decide) hlocks hK hP hD hS he dX1_standsBefore_40
  · have he := he.2 c_3
    refine lv_aload_n hx hb0 dX1_standsBefore_15 rfl (lv_at hl 0 rfl) ?_
    refine gx_get hx hb0 hts in_RX1 hown hK hP (b1 + 4) (vb_lt hb1 (by decide)) ((cE_4 hb1) _) rfl 5 (by decide) fl_RX1_27 rfl dX1_standsBefore_16 ?_
    refine lv_iload_n hx hb0 dX1_standsBefore_19 rfl (lv_at hl 1 rfl) ?_
    obtain ⟨v_4, he⟩ := he
    refine gx_iald hx hb0 hK hP (b1 + 10) 0 (vb_lt hb1 (by decide)) (cE_10 hb1) rfl v_4 dX1_standsBefore_20 ?_
    refine lv_aload_n hx hb0 dX1_standsBefore_21 rfl (lv_at hl 0 rfl) ?_
    refine gx_get hx hb0 hts in_RX1 hown hK hP (b1 + 4) (vb_lt hb1 (by decide)) ((cE_4 hb1) _) rfl 5 (by decide) fl_RX1_27 rfl dX1_standsBefore_22 ?_
    refine lv_iload_n hx hb0 dX1_standsBefore_25 rfl (lv_at hl 2 rfl) ?_
    obtain ⟨v_5, he⟩ := he
    refine gx_iald hx hb0 hK hP (b1 + 10) 0 (vb_lt hb1 (by decide)) (cE_10 hb1) rfl v_5 dX1_standsBefore_26 ?_
    refine lv_icmp_ne (tgt := 39) hx hb0 dX1_standsBefore_27 (by decide) (fun c_6 => ?_) (fun c_6 => ?_)
    · have he := he.2 c_6
      refine lv_iconst (v := (0 : Int32)) hx hb0 dX1_standsBefore_39 (by decide) ?_
      exact gx_zret hx hb0 hr (by decide) hlocks hK hP hD hS he dX1_standsBefore_40
    · have he := he.1 c_6
      refine lv_iload_n hx hb0 dX1_standsBefore_30 rfl (lv_at hl 1 rfl) ?_
      refine lv_iload_n hx hb0 dX1_standsBefore_31 rfl (lv_at hl 2 rfl) ?_
      refine lv_icmp_ge (tgt := 39) hx hb0 dX1_standsBefore_32 (by decide) (fun c_7 => ?_) (fun c_7 => ?_)
      · have he := he.1 c_7
        refine lv_iconst (v := (0 : Int32)) hx hb0 dX1_standsBefore_39 (by decide) ?_
        exact gx_zret hx hb0 hr (by decide) hlocks hK hP hD hS he dX1_standsBefore_40
      · have he := he.2 c_7
        refine lv_iconst (v := (1 : Int32)) hx hb0 dX1_standsBefore_35 (by decide) ?_
        refine lv_goto (tgt := 40) hx hb0 dX1_standsBefore_36 (by decide) ?_
        exact gx_zret hx hb0 hr (by decide) hlocks hK hP hD hS he dX1_standsBefore_40
theorem gm_X1_standsBefore : gMeth yX1_standsBefore cX1_standsBefore 3 (some .boolean) 2 := ⟨⟨by decide, by decide, by decide +kernel⟩, ini_RX1, co_yX1_standsBefore⟩
abbrev rm_X1_rankWithout : Room := { frames := 1, cells := 0, slots := 0, locals := 22 }
set_option maxHeartbeats 4000000 in
set_option maxRecDepth 100000 in
theorem l_X1_rankWithout_5 (l : Launch) (dC : Nat → ClassId) (dI : Nat → Nat → Nat) (P : gP) (ad : Nat → Nat) (tb : Nat → Nat) (b1 : Nat) (hb1 : vb b1) {p : Program} {e : Env} {s : State} {m : MethodId} {args : Array Value} {below : List Frame} {meth : Method} {c : Code} (hx : p.tables.exec = Jvm.exec) (hb0 : c.code = cX1_rankWithout) (hr : meth.sig.returnType = (some .int)) (hlocks : meth.locks = false) (hml : c.maxLocals = 5) (hown : s.vm.findClass RX1 = some m.cls) (hts : ∀ w ∈ TB, w.before args s = true) (hK : va_K (dC, dI) vwCl (tyC P) s) (hk : (gKC tb (gA 162 ad)) s) (Q : Int32 → Hp → Prop) : ∀ (n : Nat) (y1 : Int32) (y2 : Int32) (y3 : Int32) (y4 : Int32) (h0 : Hp), F_X1_rankWithout_L5 b1 n y1 y2 y3 y4 h0 Q → ∀ (H : Heap) (locs : List Loc) (ls : Array Slot), va_P (dC, dI) vwCl (gW 162 (cE P ad) ad h0) H → va_D (gA 162 ad) (gW 162 (cE P ad) ad h0) → va_S (gA 162 ad) s.heap H locs → lv_has ls 5 [(0, .ref (ad (b1 + 4))), (1, .int y1), (2, .int y2), (3, .int y3), (4, .int y4)] → W p l e rm_X1_rankWithout s m args below meth c H locs 0 0 (MQ below (gQi (dC, dI) vwCl (tyC P) 162 (cE P ad) ad Q) args s 0 0 (gA 162 ad)) (F0 m 5 ls []) := by
  intro n
  induction n with
  | zero =>
    intro y1 y2 y3 y4 h0 he
    exact he.elim
  | succ n ih =>
    intro y1 y2 y3 y4 h0 he H locs ls hP hD hS hl
    rw [F_X1_rankWithout_L5] at he
    refine lv_iload hx hb0 dX1_rankWithout_5 (lv_at hl 4 rfl) ?_
    refine lv_bipush (v := (7 : Int32)) hx hb0 dX1_rankWithout_7 (by decide) ?_
    refine lv_icmp_ge (tgt := 46) hx hb0 dX1_rankWithout_9 (by decide) (fun c_1 => ?_) (fun c_1 => ?_)
    · have he := he.1 c_1
      refine lv_iload_n hx hb0 dX1_rankWithout_46 rfl (lv_at hl 3 rfl) ?_
      exact gx_iret hx hb0 hr hlocks hK hP hD hS he dX1_rankWithout_47
    · have he := he.2 c_1
      refine lv_iload hx hb0 dX1_rankWithout_12 (lv_at hl 4 rfl) ?_
      refine lv_iload_n hx hb0 dX1_rankWithout_14 rfl (lv_at hl 2 rfl) ?_
      refine lv_icmp_eq (tgt := 40) hx hb0 dX1_rankWithout_15 (by decide) (fun c_2 => ?_) (fun c_2 => ?_)
      · have he := he.1 c_2
        obtain ⟨x_3, ex_3⟩ : ∃ y : Int32, y = y4 + 1 := ⟨_, rfl⟩
        have he := he x_3 ex_3
        refine lv_iinc (v := x_3) (lv' := [(4, .int x_3), (0, .ref (ad (b1 + 4))), (1, .int y1), (2, .int y2), (3, .int y3)]) hx hb0 dX1_rankWithout_40 hl (k := 4) rfl (by rw [ex_3]; rfl) (by decide) rfl (fun ls hl => ?_)
        refine lv_goto (tgt := 5) hx hb0 dX1_rankWithout_43 (by decide) ?_
        exact ih y1 y2 y3 x_3 h0 he _ _ ls hP hD hS (lv_sub hl [1, 2, 3, 4, 0] rfl)
      · have he := he.2 c_2
        refine lv_aload_n hx hb0 dX1_rankWithout_18 rfl (lv_at hl 0 rfl) ?_
        refine lv_iload hx hb0 dX1_rankWithout_19 (lv_at hl 4 rfl) ?_
        refine gx_vi ⟨hx, hb0, hml, hown, hts⟩ (gKC_keep _ _) hk hK hP hD hS (b1 + 4) [.int y4] [] (c_X1_takesPart l dC dI P ad tb b1 hb1 y4 h0 _ he) gm_X1_takesPart im_yX1_takesPart se_yX1_takesPart ml_RX1_46 (vb_lt hb1 (by decide)) ((cE_4 hb1) _) rfl rfl rfl ⟨Nat.le_of_ble_eq_true rfl, Nat.le_of_ble_eq_true rfl⟩ rfl hl.1 rfl (Nat.le_of_ble_eq_true rfl) dX1_rankWithout_21 ⟨Nat.zero_le _, Nat.zero_le _⟩ (fun r_4 h_5 he H locs hP hD hS => ?_)
        refine lv_if_eq (tgt := 40) hx hb0 dX1_rankWithout_24 (by decide) (fun c_6 => ?_) (fun c_6 => ?_)
        · have he := he.1 c_6
          obtain ⟨x_7, ex_7⟩ : ∃ y : Int32, y = y4 + 1 := ⟨_, rfl⟩
          have he := he x_7 ex_7
          refine lv_iinc (v := x_7) (lv' := [(4, .int x_7), (0, .ref (ad (b1 + 4))), (1, .int y1), (2, .int y2), (3, .int y3)]) hx hb0 dX1_rankWithout_40 hl (k := 4) rfl (by rw [ex_7]; rfl) (by decide) rfl (fun ls hl => ?_)
          refine lv_goto (tgt := 5) hx hb0 dX1_rankWithout_43 (by decide) ?_
          exact ih y1 y2 y3 x_7 h_5 he _ _ ls hP hD hS (lv_sub hl [1, 2, 3, 4, 0] rfl)
        · have he := he.2 c_6
          refine lv_aload_n hx hb0 dX1_rankWithout_27 rfl (lv_at hl 0 rfl) ?_
          refine lv_iload hx hb0 dX1_rankWithout_28 (lv_at hl 4 rfl) ?_
          refine lv_iload_n hx hb0 dX1_rankWithout_30 rfl (lv_at hl 1 rfl) ?_
          refine gx_vi ⟨hx, hb0, hml, hown, hts⟩ (gKC_keep _ _) hk hK hP hD hS (b1 + 4) [.int y4, .int y1] [] (c_X1_standsBefore l dC dI P ad tb b1 hb1 y4 y1 h_5 _ he) gm_X1_standsBefore im_yX1_standsBefore se_yX1_standsBefore ml_RX1_54 (vb_lt hb1 (by decide)) ((cE_4 hb1) _) rfl rfl rfl ⟨Nat.le_of_ble_eq_true rfl, Nat.le_of_ble_eq_true rfl⟩ rfl hl.1 rfl (Nat.le_of_ble_eq_true rfl) dX1_rankWithout_31 ⟨Nat.zero_le _, Nat.zero_le _⟩ (fun r_8 h_9 he H locs hP hD hS => ?_)
          refine lv_if_eq (tgt := 40) hx hb0 dX1_rankWithout_34 (by decide) (fun c_10 => ?_) (fun c_10 => ?_)
          · have he := he.1 c_10
            obtain ⟨x_11, ex_11⟩ : ∃ y : Int32, y = y4 + 1 := ⟨_, rfl⟩
            have he := he x_11 ex_11
            refine lv_iinc (v := x_11) (lv' := [(4, .int x_11), (0, .ref (ad (b1 + 4))), (1, .int y1), (2, .int y2), (3, .int y3)]) hx hb0 dX1_rankWithout_40 hl (k := 4) rfl (by rw [ex_11]; rfl) (by decide) rfl (fun ls hl => ?_)
            refine lv_goto (tgt := 5) hx hb0 dX1_rankWithout_43 (by decide) ?_
            exact ih y1 y2 y3 x_11 h_9 he _ _ ls hP hD hS (lv_sub hl [1, 2, 3, 4, 0] rfl)
          · have he := he.2 c_10
            obtain ⟨x_12, ex_12⟩ : ∃ y : Int32, y = y3 + 1 := ⟨_, rfl⟩
            have he := he x_12 ex_12
            refine lv_iinc (v := x_12) (lv' := [(3, .int x_12), (0, .ref (ad (b1 + 4))), (1, .int y1), (2, .int y2), (4, .int y4)]) hx hb0 dX1_rankWithout_37 hl (k := 3) rfl (by rw [ex_12]; rfl) (by decide) rfl (fun ls hl => ?_)
            obtain ⟨x_13, ex_13⟩ : ∃ y : Int32, y = y4 + 1 := ⟨_, rfl⟩
            have he := he x_13 ex_13
            refine lv_iinc (v := x_13) (lv' := [(4, .int x_13), (3, .int x_12), (0, .ref (ad (b1 + 4))), (1, .int y1), (2, .int y2)]) hx hb0 dX1_rankWithout_40 hl (k := 4) rfl (by rw [ex_13]; rfl) (by decide) rfl (fun ls hl => ?_)
            refine lv_goto (tgt := 5) hx hb0 dX1_rankWithout_43 (by decide) ?_
            exact ih y1 y2 x_12 x_13 h_9 he _ _ ls hP hD hS (lv_sub hl [2, 3, 4, 1, 0] rfl)
set_option maxHeartbeats 4000000 in
set_option maxRecDepth 100000 in
theorem c_X1_rankWithout (l : Launch) (dC : Nat → ClassId) (dI : Nat → Nat → Nat) (P : gP) (ad : Nat → Nat) (tb : Nat → Nat) (b1 : Nat) (hb1 : vb b1) (x1 : Int32) (x2 : Int32) (h0 : Hp) (Q : Int32 → Hp → Prop) (he : F_X1_rankWithout b1 x1 x2 h0 Q) : Met l yX1_rankWithout (Cond.code yX1_rankWithout cX1_rankWithout 5 (some .int) :: TB) rm_X1_rankWithout (gPc (dC, dI) vwCl (tyC P) 162 (cE P ad) ad (gKC tb (gA 162 ad)) h0 [.ref (ad (b1 + 4)), .int x1, .int x2]) (gQi (dC, dI) vwCl (tyC P) 162 (cE P ad) ad Q) 0 0 (gA 162 ad) := by
  refine gx_start (by decide) (Nat.le_of_ble_eq_true rfl) (fun p e s m below meth c ls hx hb0 hr hlocks hml hown hts hK hk hP hD hS hl => ?_)
  have hl : lv_has ls 5 [(0, .ref (ad (b1 + 4))), (1, .int x1), (2, .int x2)] := hl
  have hown : s.vm.findClass RX1 = some m.cls := hown
  unfold F_X1_rankWithout at he
  refine lv_iconst (v := (0 : Int32)) hx hb0 dX1_rankWithout_0 (by decide) ?_
  refine lv_istore_n (lv' := [(3, .int (0 : Int32)), (0, .ref (ad (b1 + 4))), (1, .int x1), (2, .int x2)]) hx hb0 dX1_rankWithout_1 rfl hl (by decide) rfl (fun ls hl => ?_)
  refine lv_iconst (v := (0 : Int32)) hx hb0 dX1_rankWithout_2 (by decide) ?_
  refine lv_istore (lv' := [(4, .int (0 : Int32)), (3, .int (0 : Int32)), (0, .ref (ad (b1 + 4))), (1, .int x1), (2, .int x2)]) hx hb0 dX1_rankWithout_3 hl (by decide) rfl (fun ls hl => ?_)
  obtain ⟨n_14, he⟩ := he
  exact l_X1_rankWithout_5 l dC dI P ad tb b1 hb1 hx hb0 hr hlocks hml hown hts hK hk Q n_14 x1 x2 (0 : Int32) (0 : Int32) h0 he _ _ ls hP hD hS (lv_sub hl [2, 3, 4, 1, 0] rfl)
theorem gm_X1_rankWithout : gMeth yX1_rankWithout cX1_rankWithout 5 (some .int) 2 := ⟨⟨by decide, by decide, by decide +kernel⟩, ini_RX1, co_yX1_rankWithout⟩
abbrev rm_X1_middleWithout : Room := { frames := 2, cells := 0, slots := 0, locals := 46 }
set_option maxHeartbeats 4000000 in
set_option maxRecDepth 100000 in
theorem l_X1_middleWithout_43 (l : Launch) (dC : Nat → ClassId) (dI : Nat → Nat → Nat) (P : gP) (ad : Nat → Nat) (tb : Nat → Nat) (b1 : Nat) (hb1 : vb b1) {p : Program} {e : Env} {s : State} {m : MethodId} {args : Array Value} {below : List Frame} {meth : Method} {c : Code} (hx : p.tables.exec = Jvm.exec) (hb0 : c.code = cX1_middleWithout) (hr : meth.sig.returnType = (some .int)) (hlocks : meth.locks = false) (hml : c.maxLocals = 4) (hown : s.vm.findClass RX1 = some m.cls) (hts : ∀ w ∈ TB, w.before args s = true) (hK : va_K (dC, dI) vwCl (tyC P) s) (hk : (gKC tb (gA 162 ad)) s) (Q : Int32 → Hp → Prop) : ∀ (n : Nat) (y1 : Int32) (y2 : Int32) (y3 : Int32) (h0 : Hp), F_X1_middleWithout_L43 b1 n y1 y2 y3 h0 Q → ∀ (H : Heap) (locs : List Loc) (ls : Array Slot), va_P (dC, dI) vwCl (gW 162 (cE P ad) ad h0) H → va_D (gA 162 ad) (gW 162 (cE P ad) ad h0) → va_S (gA 162 ad) s.heap H locs → lv_has ls 4 [(0, .ref (ad (b1 + 4))), (1, .int y1), (2, .int y2), (3, .int y3)] → W p l e rm_X1_middleWithout s m args below meth c H locs 0 0 (MQ below (gQi (dC, dI) vwCl (tyC P) 162 (cE P ad) ad Q) args s 0 0 (gA 162 ad)) (F0 m 43 ls []) := by
  intro n
  induction n with
  | zero =>
    intro y1 y2 y3 h0 he
    exact he.elim
  | succ n ih =>
    intro y1 y2 y3 h0 he H locs ls hP hD hS hl
    rw [F_X1_middleWithout_L43] at he
    refine lv_iload_n hx hb0 dX1_middleWithout_43 rfl (lv_at hl 3 rfl) ?_
    refine lv_bipush (v := (7 : Int32)) hx hb0 dX1_middleWithout_44 (by decide) ?_
    refine lv_icmp_ge (tgt := 89) hx hb0 dX1_middleWithout_46 (by decide) (fun c_3 => ?_) (fun c_3 => ?_)
    · have he := he.1 c_3
      refine lv_sipush (v := (9999 : Int32)) hx hb0 dX1_middleWithout_89 (by decide) ?_
      exact gx_iret hx hb0 hr hlocks hK hP hD hS he dX1_middleWithout_92
    · have he := he.2 c_3
      refine lv_iload_n hx hb0 dX1_middleWithout_49 rfl (lv_at hl 3 rfl) ?_
      refine lv_iload_n hx hb0 dX1_middleWithout_50 rfl (lv_at hl 1 rfl) ?_
      refine lv_icmp_eq (tgt := 83) hx hb0 dX1_middleWithout_51 (by decide) (fun c_4 => ?_) (fun c_4 => ?_)
      · have he := he.1 c_4
        obtain ⟨x_5, ex_5⟩ : ∃ y : Int32, y = y3 + 1 := ⟨_, rfl⟩
        have he := he x_5 ex_5
        refine lv_iinc (v := x_5) (lv' := [(3, .int x_5), (0, .ref (ad (b1 + 4))), (1, .int y1), (2, .int y2)]) hx hb0 dX1_middleWithout_83 hl (k := 3) rfl (by rw [ex_5]; rfl) (by decide) rfl (fun ls hl => ?_)
        refine lv_goto (tgt := 43) hx hb0 dX1_middleWithout_86 (by decide) ?_
        exact ih y1 y2 x_5 h0 he _ _ ls hP hD hS (lv_sub hl [1, 2, 3, 0] rfl)
      · have he := he.2 c_4
        refine lv_aload_n hx hb0 dX1_middleWithout_54 rfl (lv_at hl 0 rfl) ?_
        refine lv_iload_n hx hb0 dX1_middleWithout_55 rfl (lv_at hl 3 rfl) ?_
        refine gx_vi ⟨hx, hb0, hml, hown, hts⟩ (gKC_keep _ _) hk hK hP hD hS (b1 + 4) [.int y3] [] (c_X1_takesPart l dC dI P ad tb b1 hb1 y3 h0 _ he) gm_X1_takesPart im_yX1_takesPart se_yX1_takesPart ml_RX1_46 (vb_lt hb1 (by decide)) ((cE_4 hb1) _) rfl rfl rfl ⟨Nat.le_of_ble_eq_true rfl, Nat.le_of_ble_eq_true rfl⟩ rfl hl.1 rfl (Nat.le_of_ble_eq_true rfl) dX1_middleWithout_56 ⟨Nat.zero_le _, Nat.zero_le _⟩ (fun r_6 h_7 he H locs hP hD hS => ?_)
        refine lv_if_eq (tgt := 83) hx hb0 dX1_middleWithout_59 (by decide) (fun c_8 => ?_) (fun c_8 => ?_)
        · have he := he.1 c_8
          obtain ⟨x_9, ex_9⟩ : ∃ y : Int32, y = y3 + 1 := ⟨_, rfl⟩
          have he := he x_9 ex_9
          refine lv_iinc (v := x_9) (lv' := [(3, .int x_9), (0, .ref (ad (b1 + 4))), (1, .int y1), (2, .int y2)]) hx hb0 dX1_middleWithout_83 hl (k := 3) rfl (by rw [ex_9]; rfl) (by decide) rfl (fun ls hl => ?_)
          refine lv_goto (tgt := 43) hx hb0 dX1_middleWithout_86 (by decide) ?_
          exact ih y1 y2 x_9 h_7 he _ _ ls hP hD hS (lv_sub hl [1, 2, 3, 0] rfl)
        · have he := he.2 c_8
          refine lv_aload_n hx hb0 dX1_middleWithout_62 rfl (lv_at hl 0 rfl) ?_
          refine lv_iload_n hx hb0 dX1_middleWithout_63 rfl (lv_at hl 3 rfl) ?_
          refine lv_iload_n hx hb0 dX1_middleWithout_64 rfl (lv_at hl 1 rfl) ?_
          refine gx_vi ⟨hx, hb0, hml, hown, hts⟩ (gKC_keep _ _) hk hK hP hD hS (b1 + 4) [.int y3, .int y1] [] (c_X1_rankWithout l dC dI P ad tb b1 hb1 y3 y1 h_7 _ he) gm_X1_rankWithout im_yX1_rankWithout se_yX1_rankWithout ml_RX1_50 (vb_lt hb1 (by decide)) ((cE_4 hb1) _) rfl rfl rfl ⟨Nat.le_of_ble_eq_true rfl, Nat.le_of_ble_eq_true rfl⟩ rfl hl.1 rfl (Nat.le_of_ble_eq_true rfl) dX1_middleWithout_65 ⟨Nat.zero_le _, Nat.zero_le _⟩ (fun r_10 h_11 he H locs hP hD hS => ?_)
          refine lv_iload_n hx hb0 dX1_middleWithout_68 rfl (lv_at hl 2 rfl) ?_
          refine lv_iconst (v := (1 : Int32)) hx hb0 dX1_middleWithout_69 (by decide) ?_
          refine lv_isub hx hb0 dX1_middleWithout_70 ?_
          refine lv_iconst (v := (2 : Int32)) hx hb0 dX1_middleWithout_71 (by decide) ?_
          refine lv_idiv hx hb0 dX1_middleWithout_72 (by decide) ?_
          refine lv_icmp_ne (tgt := 83) hx hb0 dX1_middleWithout_73 (by decide) (fun c_12 => ?_) (fun c_12 => ?_)
          · have he := he.2 c_12
            obtain ⟨x_13, ex_13⟩ : ∃ y : Int32, y = y3 + 1 := ⟨_, rfl⟩
            have he := he x_13 ex_13
            refine lv_iinc (v := x_13) (lv' := [(3, .int x_13), (0, .ref (ad (b1 + 4))), (1, .int y1), (2, .int y2)]) hx hb0 dX1_middleWithout_83 hl (k := 3) rfl (by rw [ex_13]; rfl) (by decide) rfl (fun ls hl => ?_)
            refine lv_goto (tgt := 43) hx hb0 dX1_middleWithout_86 (by decide) ?_
            exact ih y1 y2 x_13 h_11 he _ _ ls hP hD hS (lv_sub hl [1, 2, 3, 0] rfl)
          · have he := he.1 c_12
            refine lv_aload_n hx hb0 dX1_middleWithout_76 rfl (lv_at hl 0 rfl) ?_
            refine gx_get hx hb0 hts in_RX1 hown hK hP (b1 + 4) (vb_lt hb1 (by decide)) ((cE_4 hb1) _) rfl 5 (by decide) fl_RX1_27 rfl dX1_middleWithout_77 ?_
            refine lv_iload_n hx hb0 dX1_middleWithout_80 rfl (lv_at hl 3 rfl) ?_
            obtain ⟨v_14, he⟩ := he
            refine gx_iald hx hb0 hK hP (b1 + 10) 0 (vb_lt hb1 (by decide)) (cE_10 hb1) rfl v_14 dX1_middleWithout_81 ?_
            exact gx_iret hx hb0 hr hlocks hK hP hD hS he dX1_middleWithout_82
set_option maxHeartbeats 4000000 in
set_option maxRecDepth 100000 in
theorem l_X1_middleWithout_4 (l : Launch) (dC : Nat → ClassId) (dI : Nat → Nat → Nat) (P : gP) (ad : Nat → Nat) (tb : Nat → Nat) (b1 : Nat) (hb1 : vb b1) {p : Program} {e : Env} {s : State} {m : MethodId} {args : Array Value} {below : List Frame} {meth : Method} {c : Code} (hx : p.tables.exec = Jvm.exec) (hb0 : c.code = cX1_middleWithout) (hr : meth.sig.returnType = (some .int)) (hlocks : meth.locks = false) (hml : c.maxLocals = 4) (hown : s.vm.findClass RX1 = some m.cls) (hts : ∀ w ∈ TB, w.before args s = true) (hK : va_K (dC, dI) vwCl (tyC P) s) (hk : (gKC tb (gA 162 ad)) s) (Q : Int32 → Hp → Prop) : ∀ (n : Nat) (y1 : Int32) (y2 : Int32) (y3 : Int32) (h0 : Hp), F_X1_middleWithout_L4 b1 n y1 y2 y3 h0 Q → ∀ (H : Heap) (locs : List Loc) (ls : Array Slot), va_P (dC, dI) vwCl (gW 162 (cE P ad) ad h0) H → va_D (gA 162 ad) (gW 162 (cE P ad) ad h0) → va_S (gA 162 ad) s.heap H locs → lv_has ls 4 [(0, .ref (ad (b1 + 4))), (1, .int y1), (2, .int y2), (3, .int y3)] → W p l e rm_X1_middleWithout s m args below meth c H locs 0 0 (MQ below (gQi (dC, dI) vwCl (tyC P) 162 (cE P ad) ad Q) args s 0 0 (gA 162 ad)) (F0 m 4 ls []) := by
  intro n
  induction n with
  | zero =>
    intro y1 y2 y3 h0 he
    exact he.elim
  | succ n ih =>
    intro y1 y2 y3 h0 he H locs ls hP hD hS hl
    rw [F_X1_middleWithout_L4] at he
    refine lv_iload_n hx hb0 dX1_middleWithout_4 rfl (lv_at hl 3 rfl) ?_
    refine lv_bipush (v := (7 : Int32)) hx hb0 dX1_middleWithout_5 (by decide) ?_
    refine lv_icmp_ge (tgt := 32) hx hb0 dX1_middleWithout_7 (by decide) (fun c_1 => ?_) (fun c_1 => ?_)
    · have he := he.1 c_1
      refine lv_iload_n hx hb0 dX1_middleWithout_32 rfl (lv_at hl 2 rfl) ?_
      refine lv_iconst (v := (3 : Int32)) hx hb0 dX1_middleWithout_33 (by decide) ?_
      refine lv_icmp_ge (tgt := 41) hx hb0 dX1_middleWithout_34 (by decide) (fun c_2 => ?_) (fun c_2 => ?_)
      · have he := he.1 c_2
        refine lv_iconst (v := (0 : Int32)) hx hb0 dX1_middleWithout_41 (by decide) ?_
        refine lv_istore_n (lv' := [(3, .int (0 : Int32)), (0, .ref (ad (b1 + 4))), (1, .int y1), (2, .int y2)]) hx hb0 dX1_middleWithout_42 rfl hl (by decide) rfl (fun ls hl => ?_)
        obtain ⟨n_15, he⟩ := he
        exact l_X1_middleWithout_43 l dC dI P ad tb b1 hb1 hx hb0 hr hlocks hml hown hts hK hk Q n_15 y1 y2 (0 : Int32) h0 he _ _ ls hP hD hS (lv_sub hl [1, 2, 3, 0] rfl)
      · have he := he.2 c_2
        refine lv_sipush (v := (9999 : Int32)) hx hb0 dX1_middleWithout_37 (by decide) ?_
        exact gx_iret hx hb0 hr hlocks hK hP hD hS he dX1_middleWithout_40
    · have he := he.2 c_1
      refine lv_iload_n hx hb0 dX1_middleWithout_10 rfl (lv_at hl 3 rfl) ?_
      refine lv_iload_n hx hb0 dX1_middleWithout_11 rfl (lv_at hl 1 rfl) ?_
      refine lv_icmp_eq (tgt := 26) hx hb0 dX1_middleWithout_12 (by decide) (fun c_16 => ?_) (fun c_16 => ?_)
      · have he := he.1 c_16
        obtain ⟨x_17, ex_17⟩ : ∃ y : Int32, y = y3 + 1 := ⟨_, rfl⟩
        have he := he x_17 ex_17
        refine lv_iinc (v := x_17) (lv' := [(3, .int x_17), (0, .ref (ad (b1 + 4))), (1, .int y1), (2, .int y2)]) hx hb0 dX1_middleWithout_26 hl (k := 3) rfl (by rw [ex_17]; rfl) (by decide) rfl (fun ls hl => ?_)
        refine lv_goto (tgt := 4) hx hb0 dX1_middleWithout_29 (by decide) ?_
        exact ih y1 y2 x_17 h0 he _ _ ls hP hD hS (lv_sub hl [1, 2, 3, 0] rfl)
      · have he := he.2 c_16
        refine lv_aload_n hx hb0 dX1_middleWithout_15 rfl (lv_at hl 0 rfl) ?_
        refine lv_iload_n hx hb0 dX1_middleWithout_16 rfl (lv_at hl 3 rfl) ?_
        refine gx_vi ⟨hx, hb0, hml, hown, hts⟩ (gKC_keep _ _) hk hK hP hD hS (b1 + 4) [.int y3] [] (c_X1_takesPart l dC dI P ad tb b1 hb1 y3 h0 _ he) gm_X1_takesPart im_yX1_takesPart se_yX1_takesPart ml_RX1_46 (vb_lt hb1 (by decide)) ((cE_4 hb1) _) rfl rfl rfl ⟨Nat.le_of_ble_eq_true rfl, Nat.le_of_ble_eq_true rfl⟩ rfl hl.1 rfl (Nat.le_of_ble_eq_true rfl) dX1_middleWithout_17 ⟨Nat.zero_le _, Nat.zero_le _⟩ (fun r_18 h_19 he H locs hP hD hS => ?_)
        refine lv_if_eq (tgt := 26) hx hb0 dX1_middleWithout_20 (by decide) (fun c_20 => ?_) (fun c_20 => ?_)
        · have he := he.1 c_20
          obtain ⟨x_21, ex_21⟩ : ∃ y : Int32, y = y3 + 1 := ⟨_, rfl⟩
          have he := he x_21 ex_21
          refine lv_iinc (v := x_21) (lv' := [(3, .int x_21), (0, .ref (ad (b1 + 4))), (1, .int y1), (2, .int y2)]) hx hb0 dX1_middleWithout_26 hl (k := 3) rfl (by rw [ex_21]; rfl) (by decide) rfl (fun ls hl => ?_)
          refine lv_goto (tgt := 4) hx hb0 dX1_middleWithout_29 (by decide) ?_
          exact ih y1 y2 x_21 h_19 he _ _ ls hP hD hS (lv_sub hl [1, 2, 3, 0] rfl)
        · have he := he.2 c_20
          obtain ⟨x_22, ex_22⟩ : ∃ y : Int32, y = y2 + 1 := ⟨_, rfl⟩
          have he := he x_22 ex_22
          refine lv_iinc (v := x_22) (lv' := [(2, .int x_22), (0, .ref (ad (b1 + 4))), (1, .int y1), (3, .int y3)]) hx hb0 dX1_middleWithout_23 hl (k := 2) rfl (by rw [ex_22]; rfl) (by decide) rfl (fun ls hl => ?_)
          obtain ⟨x_23, ex_23⟩ : ∃ y : Int32, y = y3 + 1 := ⟨_, rfl⟩
          have he := he x_23 ex_23
          refine lv_iinc (v := x_23) (lv' := [(3, .int x_23), (2, .int x_22), (0, .ref (ad (b1 + 4))), (1, .int y1)]) hx hb0 dX1_middleWithout_26 hl (k := 3) rfl (by rw [ex_23]; rfl) (by decide) rfl (fun ls hl => ?_)
          refine lv_goto (tgt := 4) hx hb0 dX1_middleWithout_29 (by decide) ?_
          exact ih y1 x_22 x_23 h_19 he _ _ ls hP hD hS (lv_sub hl [2, 3, 1, 0] rfl)
set_option maxHeartbeats 4000000 in
set_option maxRecDepth 100000 in
theorem c_X1_middleWithout (l : Launch) (dC : Nat → ClassId) (dI : Nat → Nat → Nat) (P : gP) (ad : Nat → Nat) (tb : Nat → Nat) (b1 : Nat) (hb1 : vb b1) (x1 : Int32) (h0 : Hp) (Q : Int32 → Hp → Prop) (he : F_X1_middleWithout b1 x1 h0 Q) : Met l yX1_middleWithout (Cond.code yX1_middleWithout cX1_middleWithout 4 (some .int) :: TB) rm_X1_middleWithout (gPc (dC, dI) vwCl (tyC P) 162 (cE P ad) ad (gKC tb (gA 162 ad)) h0 [.ref (ad (b1 + 4)), .int x1]) (gQi (dC, dI) vwCl (tyC P) 162 (cE P ad) ad Q) 0 0 (gA 162 ad) := by
  refine gx_start (by decide) (Nat.le_of_ble_eq_true rfl) (fun p e s m below meth c ls hx hb0 hr hlocks hml hown hts hK hk hP hD hS hl => ?_)
  have hl : lv_has ls 4 [(0, .ref (ad (b1 + 4))), (1, .int x1)] := hl
  have hown : s.vm.findClass RX1 = some m.cls := hown
  unfold F_X1_middleWithout at he
  refine lv_iconst (v := (0 : Int32)) hx hb0 dX1_middleWithout_0 (by decide) ?_
  refine lv_istore_n (lv' := [(2, .int (0 : Int32)), (0, .ref (ad (b1 + 4))), (1, .int x1)]) hx hb0 dX1_middleWithout_1 rfl hl (by decide) rfl (fun ls hl => ?_)
  refine lv_iconst (v := (0 : Int32)) hx hb0 dX1_middleWithout_2 (by decide) ?_
  refine lv_istore_n (lv' := [(3, .int (0 : Int32)), (2, .int (0 : Int32)), (0, .ref (ad (b1 + 4))), (1, .int x1)]) hx hb0 dX1_middleWithout_3 rfl hl (by decide) rfl (fun ls hl => ?_)
  obtain ⟨n_24, he⟩ := he
  exact l_X1_middleWithout_4 l dC dI P ad tb b1 hb1 hx hb0 hr hlocks hml hown hts hK hk Q n_24 x1 (0 : Int32) (0 : Int32) h0 he _ _ ls hP hD hS (lv_sub hl [2, 3, 1, 0] rfl)
theorem gm_X1_middleWithout : gMeth yX1_middleWithout cX1_middleWithout 4 (some .int) 1 := ⟨⟨by decide, by decide, by decide +kernel⟩, ini_RX1, co_yX1_middleWithout⟩
abbrev rm_X1_makeAngrier : Room := { frames := 0, cells := 0, slots := 0, locals := 0 }
set_option maxHeartbeats 4000000 in
set_option maxRecDepth 100000 in
theorem c_X1_makeAngrier (l : Launch) (dC : Nat → ClassId) (dI : Nat → Nat → Nat) (P : gP) (ad : Nat → Nat) (tb : Nat → Nat) (b1 : Nat) (hb1 : vb b1) (x1 : Int32) (h0 : Hp) (Q : Hp → Prop) (he : F_X1_makeAngrier b1 x1 h0 Q) : Met l yX1_makeAngrier (Cond.code yX1_makeAngrier cX1_makeAngrier 2 none :: TB) rm_X1_makeAngrier (gPc (dC, dI) vwCl (tyC P) 162 (cE P ad) ad (gKC tb (gA 162 ad)) h0 [.ref (ad (b1 + 4)), .int x1]) (gQv (dC, dI) vwCl (tyC P) 162 (cE P ad) ad Q) 0 0 (gA 162 ad) := by
  refine gx_start (by decide) (Nat.le_of_ble_eq_true rfl) (fun p e s m below meth c ls hx hb0 hr hlocks hml hown hts hK hk hP hD hS hl => ?_)
  have hl : lv_has ls 2 [(0, .ref (ad (b1 + 4))), (1, .int x1)] := hl
  have hown : s.vm.findClass RX1 = some m.cls := hown
  unfold F_X1_makeAngrier at he
  refine lv_aload_n hx hb0 dX1_makeAngrier_0 rfl (lv_at hl 0 rfl) ?_
  refine gx_get hx hb0 hts in_RX1 hown hK hP (b1 + 4) (vb_lt hb1 (by decide)) ((cE_4 hb1) _) rfl 3 (by decide) fl_RX1_21 rfl dX1_makeAngrier_1 ?_
  refine lv_iload_n hx hb0 dX1_makeAngrier_4 rfl (lv_at hl 1 rfl) ?_
  refine lv_dup2_11 hx hb0 dX1_makeAngrier_5 rfl rfl ?_
  obtain ⟨v_1, he⟩ := he
  refine gx_iald hx hb0 hK hP (b1 + 8) 0 (vb_lt hb1 (by decide)) (cE_8 hb1) rfl v_1 dX1_makeAngrier_6 ?_
  refine lv_iconst (v := (1 : Int32)) hx hb0 dX1_makeAngrier_7 (by decide) ?_
  refine lv_iadd hx hb0 dX1_makeAngrier_8 ?_
  obtain ⟨v_3, he⟩ := he
  refine gx_iast hx hb0 hK hP hD hS (b1 + 8) 0 (vb_lt hb1 (by decide)) (cE_8 hb1) rfl v_3 dX1_makeAngrier_9 (fun h_2 eh_2 H locs hP hD hS => ?_)
  have he := he h_2 eh_2
  refine lv_aload_n hx hb0 dX1_makeAngrier_10 rfl (lv_at hl 0 rfl) ?_
  refine gx_get hx hb0 hts in_RX1 hown hK hP (b1 + 4) (vb_lt hb1 (by decide)) ((cE_4 hb1) _) rfl 3 (by decide) fl_RX1_21 rfl dX1_makeAngrier_11 ?_
  refine lv_iload_n hx hb0 dX1_makeAngrier_14 rfl (lv_at hl 1 rfl) ?_
  obtain ⟨v_4, he⟩ := he
  refine gx_iald hx hb0 hK hP (b1 + 8) 0 (vb_lt hb1 (by decide)) (cE_8 hb1) rfl v_4 dX1_makeAngrier_15 ?_
  refine lv_iconst (v := (3 : Int32)) hx hb0 dX1_makeAngrier_16 (by decide) ?_
  refine lv_icmp_lt (tgt := 27) hx hb0 dX1_makeAngrier_17 (by decide) (fun c_5 => ?_) (fun c_5 => ?_)
  · have he := he.1 c_5
    exact gx_vret hx hb0 hr hlocks hK hP hD hS he dX1_makeAngrier_27
  · have he := he.2 c_5
    refine lv_aload_n hx hb0 dX1_makeAngrier_20 rfl (lv_at hl 0 rfl) ?_
    refine gx_get hx hb0 hts in_RX1 hown hK hP (b1 + 4) (vb_lt hb1 (by decide)) ((cE_4 hb1) _) rfl 6 (by decide) fl_RX1_30 rfl dX1_makeAngrier_21 ?_
    refine lv_iload_n hx hb0 dX1_makeAngrier_24 rfl (lv_at hl 1 rfl) ?_
    refine lv_iconst (v := (2 : Int32)) hx hb0 dX1_makeAngrier_25 (by decide) ?_
    obtain ⟨v_7, he⟩ := he
    refine gx_iast hx hb0 hK hP hD hS (b1 + 11) 0 (vb_lt hb1 (by decide)) (cE_11 hb1) rfl v_7 dX1_makeAngrier_26 (fun h_6 eh_6 H locs hP hD hS => ?_)
    have he := he h_6 eh_6
    exact gx_vret hx hb0 hr hlocks hK hP hD hS he dX1_makeAngrier_27
theorem gm_X1_makeAngrier : gMeth yX1_makeAngrier cX1_makeAngrier 2 none 1 := ⟨⟨by decide, by decide, by decide +kernel⟩, ini_RX1, co_yX1_makeAngrier⟩
abbrev rm_X1_quarrelOver : Room := { frames := 1, cells := 0, slots := 0, locals := 21 }
set_option maxHeartbeats 4000000 in
set_option maxRecDepth 100000 in
theorem l_X1_quarrelOver_5 (l : Launch) (dC : Nat → ClassId) (dI : Nat → Nat → Nat) (P : gP) (ad : Nat → Nat) (tb : Nat → Nat) (b1 : Nat) (hb1 : vb b1) {p : Program} {e : Env} {s : State} {m : MethodId} {args : Array Value} {below : List Frame} {meth : Method} {c : Code} (hx : p.tables.exec = Jvm.exec) (hb0 : c.code = cX1_quarrelOver) (hr : meth.sig.returnType = (some .int)) (hlocks : meth.locks = false) (hml : c.maxLocals = 5) (hown : s.vm.findClass RX1 = some m.cls) (hts : ∀ w ∈ TB, w.before args s = true) (hK : va_K (dC, dI) vwCl (tyC P) s) (hk : (gKC tb (gA 162 ad)) s) (Q : Int32 → Hp → Prop) : ∀ (n : Nat) (y1 : Int32) (y2 : Int32) (y3 : Int32) (y4 : Int32) (h0 : Hp), F_X1_quarrelOver_L5 b1 n y1 y2 y3 y4 h0 Q → ∀ (H : Heap) (locs : List Loc) (ls : Array Slot), va_P (dC, dI) vwCl (gW 162 (cE P ad) ad h0) H → va_D (gA 162 ad) (gW 162 (cE P ad) ad h0) → va_S (gA 162 ad) s.heap H locs → lv_has ls 5 [(0, .ref (ad (b1 + 4))), (1, .int y1), (2, .int y2), (3, .int y3), (4, .int y4)] → W p l e rm_X1_quarrelOver s m args below meth c H locs 0 0 (MQ below (gQi (dC, dI) vwCl (tyC P) 162 (cE P ad) ad Q) args s 0 0 (gA 162 ad)) (F0 m 5 ls []) := by
  intro n
  induction n with
  | zero =>
    intro y1 y2 y3 y4 h0 he
    exact he.elim
  | succ n ih =>
    intro y1 y2 y3 y4 h0 he H locs ls hP hD hS hl
    rw [F_X1_quarrelOver_L5] at he
    refine lv_iload hx hb0 dX1_quarrelOver_5 (lv_at hl 4 rfl) ?_
    refine lv_bipush (v := (7 : Int32)) hx hb0 dX1_quarrelOver_7 (by decide) ?_
    refine lv_icmp_ge (tgt := 73) hx hb0 dX1_quarrelOver_9 (by decide) (fun c_1 => ?_) (fun c_1 => ?_)
    · have he := he.1 c_1
      refine lv_iload_n hx hb0 dX1_quarrelOver_73 rfl (lv_at hl 3 rfl) ?_
      exact gx_iret hx hb0 hr hlocks hK hP hD hS he dX1_quarrelOver_74
    · have he := he.2 c_1
      refine lv_aload_n hx hb0 dX1_quarrelOver_12 rfl (lv_at hl 0 rfl) ?_
      refine lv_iload hx hb0 dX1_quarrelOver_13 (lv_at hl 4 rfl) ?_
      refine gx_vi ⟨hx, hb0, hml, hown, hts⟩ (gKC_keep _ _) hk hK hP hD hS (b1 + 4) [.int y4] [] (c_X1_takesPart l dC dI P ad tb b1 hb1 y4 h0 _ he) gm_X1_takesPart im_yX1_takesPart se_yX1_takesPart ml_RX1_46 (vb_lt hb1 (by decide)) ((cE_4 hb1) _) rfl rfl rfl ⟨Nat.le_of_ble_eq_true rfl, Nat.le_of_ble_eq_true rfl⟩ rfl hl.1 rfl (Nat.le_of_ble_eq_true rfl) dX1_quarrelOver_15 ⟨Nat.zero_le _, Nat.zero_le _⟩ (fun r_2 h_3 he H locs hP hD hS => ?_)
      refine lv_if_eq (tgt := 67) hx hb0 dX1_quarrelOver_18 (by decide) (fun c_4 => ?_) (fun c_4 => ?_)
      · have he := he.1 c_4
        obtain ⟨x_5, ex_5⟩ : ∃ y : Int32, y = y4 + 1 := ⟨_, rfl⟩
        have he := he x_5 ex_5
        refine lv_iinc (v := x_5) (lv' := [(4, .int x_5), (0, .ref (ad (b1 + 4))), (1, .int y1), (2, .int y2), (3, .int y3)]) hx hb0 dX1_quarrelOver_67 hl (k := 4) rfl (by rw [ex_5]; rfl) (by decide) rfl (fun ls hl => ?_)
        refine lv_goto (tgt := 5) hx hb0 dX1_quarrelOver_70 (by decide) ?_
        exact ih y1 y2 y3 x_5 h_3 he _ _ ls hP hD hS (lv_sub hl [1, 2, 3, 4, 0] rfl)
      · have he := he.2 c_4
        refine lv_aload_n hx hb0 dX1_quarrelOver_21 rfl (lv_at hl 0 rfl) ?_
        refine gx_get hx hb0 hts in_RX1 hown hK hP (b1 + 4) (vb_lt hb1 (by decide)) ((cE_4 hb1) _) rfl 5 (by decide) fl_RX1_27 rfl dX1_quarrelOver_22 ?_
        refine lv_iload hx hb0 dX1_quarrelOver_25 (lv_at hl 4 rfl) ?_
        obtain ⟨v_6, he⟩ := he
        refine gx_iald hx hb0 hK hP (b1 + 10) 0 (vb_lt hb1 (by decide)) (cE_10 hb1) rfl v_6 dX1_quarrelOver_27 ?_
        refine lv_iload_n hx hb0 dX1_quarrelOver_28 rfl (lv_at hl 1 rfl) ?_
        refine lv_isub hx hb0 dX1_quarrelOver_29 ?_
        refine va_mabs hx hb0 (hml.trans hl.1.symm) hown (hts _ ml_RX1_58) (hts _ st_Lib_Math_abs_name) (hts _ ini_RJ9) (hts _ co_Lib_Math_abs_name) (Nat.le_of_ble_eq_true rfl) (Nat.le_of_ble_eq_true rfl) (Nat.zero_le _) (Nat.zero_le _) dX1_quarrelOver_30 ?_
        refine lv_topi (fun x_7 ex_7 => ?_)
        have he := he x_7 ex_7
        refine lv_iload_n hx hb0 dX1_quarrelOver_33 rfl (lv_at hl 2 rfl) ?_
        refine lv_icmp_le (tgt := 49) hx hb0 dX1_quarrelOver_34 (by decide) (fun c_8 => ?_) (fun c_8 => ?_)
        · have he := he.1 c_8
          refine lv_aload_n hx hb0 dX1_quarrelOver_49 rfl (lv_at hl 0 rfl) ?_
          refine gx_get hx hb0 hts in_RX1 hown hK hP (b1 + 4) (vb_lt hb1 (by decide)) ((cE_4 hb1) _) rfl 3 (by decide) fl_RX1_21 rfl dX1_quarrelOver_50 ?_
          refine lv_iload hx hb0 dX1_quarrelOver_53 (lv_at hl 4 rfl) ?_
          refine lv_iconst (v := (0 : Int32)) hx hb0 dX1_quarrelOver_55 (by decide) ?_
          obtain ⟨v_10, he⟩ := he
          refine gx_iast hx hb0 hK hP hD hS (b1 + 8) 0 (vb_lt hb1 (by decide)) (cE_8 hb1) rfl v_10 dX1_quarrelOver_56 (fun h_9 eh_9 H locs hP hD hS => ?_)
          have he := he h_9 eh_9
          refine lv_aload_n hx hb0 dX1_quarrelOver_57 rfl (lv_at hl 0 rfl) ?_
          refine gx_get hx hb0 hts in_RX1 hown hK hP (b1 + 4) (vb_lt hb1 (by decide)) ((cE_4 hb1) _) rfl 5 (by decide) fl_RX1_27 rfl dX1_quarrelOver_58 ?_
          refine lv_iload hx hb0 dX1_quarrelOver_61 (lv_at hl 4 rfl) ?_
          refine lv_sipush (v := (9999 : Int32)) hx hb0 dX1_quarrelOver_63 (by decide) ?_
          obtain ⟨v_12, he⟩ := he
          refine gx_iast hx hb0 hK hP hD hS (b1 + 10) 0 (vb_lt hb1 (by decide)) (cE_10 hb1) rfl v_12 dX1_quarrelOver_66 (fun h_11 eh_11 H locs hP hD hS => ?_)
          have he := he h_11 eh_11
          obtain ⟨x_13, ex_13⟩ : ∃ y : Int32, y = y4 + 1 := ⟨_, rfl⟩
          have he := he x_13 ex_13
          refine lv_iinc (v := x_13) (lv' := [(4, .int x_13), (0, .ref (ad (b1 + 4))), (1, .int y1), (2, .int y2), (3, .int y3)]) hx hb0 dX1_quarrelOver_67 hl (k := 4) rfl (by rw [ex_13]; rfl) (by decide) rfl (fun ls hl => ?_)
          refine lv_goto (tgt := 5) hx hb0 dX1_quarrelOver_70 (by decide) ?_
          exact ih y1 y2 y3 x_13 h_11 he _ _ ls hP hD hS (lv_sub hl [1, 2, 3, 4, 0] rfl)
        · have he := he.2 c_8
          refine lv_aload_n hx hb0 dX1_quarrelOver_37 rfl (lv_at hl 0 rfl) ?_
          refine lv_iload hx hb0 dX1_quarrelOver_38 (lv_at hl 4 rfl) ?_
          refine gx_vv ⟨hx, hb0, hml, hown, hts⟩ (gKC_keep _ _) hk hK hP hD hS (b1 + 4) [.int y4] [] (c_X1_makeAngrier l dC dI P ad tb b1 hb1 y4 h_3 _ he) gm_X1_makeAngrier im_yX1_makeAngrier se_yX1_makeAngrier ml_RX1_63 (vb_lt hb1 (by decide)) ((cE_4 hb1) _) rfl rfl rfl ⟨Nat.le_of_ble_eq_true rfl, Nat.le_of_ble_eq_true rfl⟩ rfl hl.1 rfl (Nat.le_of_ble_eq_true rfl) dX1_quarrelOver_40 ⟨Nat.zero_le _, Nat.zero_le _⟩ (fun h_15 he H locs hP hD hS => ?_)
          obtain ⟨x_16, ex_16⟩ : ∃ y : Int32, y = y3 + 1 := ⟨_, rfl⟩
          have he := he x_16 ex_16
          refine lv_iinc (v := x_16) (lv' := [(3, .int x_16), (0, .ref (ad (b1 + 4))), (1, .int y1), (2, .int y2), (4, .int y4)]) hx hb0 dX1_quarrelOver_43 hl (k := 3) rfl (by rw [ex_16]; rfl) (by decide) rfl (fun ls hl => ?_)
          refine lv_goto (tgt := 57) hx hb0 dX1_quarrelOver_46 (by decide) ?_
          refine lv_aload_n hx hb0 dX1_quarrelOver_57 rfl (lv_at hl 1 rfl) ?_
          refine gx_get hx hb0 hts in_RX1 hown hK hP (b1 + 4) (vb_lt hb1 (by decide)) ((cE_4 hb1) _) rfl 5 (by decide) fl_RX1_27 rfl dX1_quarrelOver_58 ?_
          refine lv_iload hx hb0 dX1_quarrelOver_61 (lv_at hl 4 rfl) ?_
          refine lv_sipush (v := (9999 : Int32)) hx hb0 dX1_quarrelOver_63 (by decide) ?_
          obtain ⟨v_18, he⟩ := he
          refine gx_iast hx hb0 hK hP hD hS (b1 + 10) 0 (vb_lt hb1 (by decide)) (cE_10 hb1) rfl v_18 dX1_quarrelOver_66 (fun h_17 eh_17 H locs hP hD hS => ?_)
          have he := he h_17 eh_17
          obtain ⟨x_19, ex_19⟩ : ∃ y : Int32, y = y4 + 1 := ⟨_, rfl⟩
          have he := he x_19 ex_19
          refine lv_iinc (v := x_19) (lv' := [(4, .int x_19), (3, .int x_16), (0, .ref (ad (b1 + 4))), (1, .int y1), (2, .int y2)]) hx hb0 dX1_quarrelOver_67 hl (k := 4) rfl (by rw [ex_19]; rfl) (by decide) rfl (fun ls hl => ?_)
          refine lv_goto (tgt := 5) hx hb0 dX1_quarrelOver_70 (by decide) ?_
          exact ih y1 y2 x_16 x_19 h_17 he _ _ ls hP hD hS (lv_sub hl [2, 3, 4, 1, 0] rfl)
set_option maxHeartbeats 4000000 in
set_option maxRecDepth 100000 in
theorem c_X1_quarrelOver (l : Launch) (dC : Nat → ClassId) (dI : Nat → Nat → Nat) (P : gP) (ad : Nat → Nat) (tb : Nat → Nat) (b1 : Nat) (hb1 : vb b1) (x1 : Int32) (x2 : Int32) (h0 : Hp) (Q : Int32 → Hp → Prop) (he : F_X1_quarrelOver b1 x1 x2 h0 Q) : Met l yX1_quarrelOver (Cond.code yX1_quarrelOver cX1_quarrelOver 5 (some .int) :: TB) rm_X1_quarrelOver (gPc (dC, dI) vwCl (tyC P) 162 (cE P ad) ad (gKC tb (gA 162 ad)) h0 [.ref (ad (b1 + 4)), .int x1, .int x2]) (gQi (dC, dI) vwCl (tyC P) 162 (cE P ad) ad Q) 0 0 (gA 162 ad) := by
  refine gx_start (by decide) (Nat.le_of_ble_eq_true rfl) (fun p e s m below meth c ls hx hb0 hr hlocks hml hown hts hK hk hP hD hS hl => ?_)
  have hl : lv_has ls 5 [(0, .ref (ad (b1 + 4))), (1, .int x1), (2, .int x2)] := hl
  have hown : s.vm.findClass RX1 = some m.cls := hown
  unfold F_X1_quarrelOver at he
  refine lv_iconst (v := (0 : Int32)) hx hb0 dX1_quarrelOver_0 (by decide) ?_
  refine lv_istore_n (lv' := [(3, .int (0 : Int32)), (0, .ref (ad (b1 + 4))), (1, .int x1), (2, .int x2)]) hx hb0 dX1_quarrelOver_1 rfl hl (by decide) rfl (fun ls hl => ?_)
  refine lv_iconst (v := (0 : Int32)) hx hb0 dX1_quarrelOver_2 (by decide) ?_
  refine lv_istore (lv' := [(4, .int (0 : Int32)), (3, .int (0 : Int32)), (0, .ref (ad (b1 + 4))), (1, .int x1), (2, .int x2)]) hx hb0 dX1_quarrelOver_3 hl (by decide) rfl (fun ls hl => ?_)
  obtain ⟨n_20, he⟩ := he
  exact l_X1_quarrelOver_5 l dC dI P ad tb b1 hb1 hx hb0 hr hlocks hml hown hts hK hk Q n_20 x1 x2 (0 : Int32) (0 : Int32) h0 he _ _ ls hP hD hS (lv_sub hl [2, 3, 4, 1, 0] rfl)
theorem gm_X1_quarrelOver : gMeth yX1_quarrelOver cX1_quarrelOver 5 (some .int) 2 := ⟨⟨by decide, by decide, by decide +kernel⟩, ini_RX1, co_yX1_quarrelOver⟩
abbrev rm_X1_endNight : Room := { frames := 0, cells := 0, slots := 0, locals := 0 }
set_option maxHeartbeats 4000000 in
set_option maxRecDepth 100000 in
theorem l_X1_endNight_2 (l : Launch) (dC : Nat → ClassId) (dI : Nat → Nat → Nat) (P : gP) (ad : Nat → Nat) (tb : Nat → Nat) (b1 : Nat) (hb1 : vb b1) {p : Program} {e : Env} {s : State} {m : MethodId} {args : Array Value} {below : List Frame} {meth : Method} {c : Code} (hx : p.tables.exec = Jvm.exec) (hb0 : c.code = cX1_endNight) (hr : meth.sig.returnType = none) (hlocks : meth.locks = false) (hml : c.maxLocals = 2) (hown : s.vm.findClass RX1 = some m.cls) (hts : ∀ w ∈ TB, w.before args s = true) (hK : va_K (dC, dI) vwCl (tyC P) s) (hk : (gKC tb (gA 162 ad)) s) (Q : Hp → Prop) : ∀ (n : Nat) (y1 : Int32) (h0 : Hp), F_X1_endNight_L2 b1 n y1 h0 Q → ∀ (H : Heap) (locs : List Loc) (ls : Array Slot), va_P (dC, dI) vwCl (gW 162 (cE P ad) ad h0) H → va_D (gA 162 ad) (gW 162 (cE P ad) ad h0) → va_S (gA 162 ad) s.heap H locs → lv_has ls 2 [(0, .ref (ad (b1 + 4))), (1, .int y1)] → W p l e rm_X1_endNight s m args below meth c H locs 0 0 (MQ below (gQv (dC, dI) vwCl (tyC P) 162 (cE P ad) ad Q) args s 0 0 (gA 162 ad)) (F0 m 2 ls []) := by
  intro n
  induction n with
  | zero =>
    intro y1 h0 he
    exact he.elim
  | succ n ih =>
    intro y1 h0 he H locs ls hP hD hS hl
    rw [F_X1_endNight_L2] at he
    refine lv_iload_n hx hb0 dX1_endNight_2 rfl (lv_at hl 1 rfl) ?_
    refine lv_bipush (v := (7 : Int32)) hx hb0 dX1_endNight_3 (by decide) ?_
    refine lv_icmp_ge (tgt := 47) hx hb0 dX1_endNight_5 (by decide) (fun c_1 => ?_) (fun c_1 => ?_)
    · have he := he.1 c_1
      exact gx_vret hx hb0 hr hlocks hK hP hD hS he dX1_endNight_47
    · have he := he.2 c_1
      refine lv_aload_n hx hb0 dX1_endNight_8 rfl (lv_at hl 0 rfl) ?_
      refine gx_get hx hb0 hts in_RX1 hown hK hP (b1 + 4) (vb_lt hb1 (by decide)) ((cE_4 hb1) _) rfl 5 (by decide) fl_RX1_27 rfl dX1_endNight_9 ?_
      refine lv_iload_n hx hb0 dX1_endNight_12 rfl (lv_at hl 1 rfl) ?_
      refine lv_sipush (v := (9999 : Int32)) hx hb0 dX1_endNight_13 (by decide) ?_
      obtain ⟨v_3, he⟩ := he
      refine gx_iast hx hb0 hK hP hD hS (b1 + 10) 0 (vb_lt hb1 (by decide)) (cE_10 hb1) rfl v_3 dX1_endNight_16 (fun h_2 eh_2 H locs hP hD hS => ?_)
      have he := he h_2 eh_2
      refine lv_aload_n hx hb0 dX1_endNight_17 rfl (lv_at hl 0 rfl) ?_
      refine gx_get hx hb0 hts in_RX1 hown hK hP (b1 + 4) (vb_lt hb1 (by decide)) ((cE_4 hb1) _) rfl 6 (by decide) fl_RX1_30 rfl dX1_endNight_18 ?_
      refine lv_iload_n hx hb0 dX1_endNight_21 rfl (lv_at hl 1 rfl) ?_
      obtain ⟨v_4, he⟩ := he
      refine gx_iald hx hb0 hK hP (b1 + 11) 0 (vb_lt hb1 (by decide)) (cE_11 hb1) rfl v_4 dX1_endNight_22 ?_
      refine lv_iconst (v := (2 : Int32)) hx hb0 dX1_endNight_23 (by decide) ?_
      refine lv_icmp_ne (tgt := 41) hx hb0 dX1_endNight_24 (by decide) (fun c_5 => ?_) (fun c_5 => ?_)
      · have he := he.2 c_5
        obtain ⟨x_6, ex_6⟩ : ∃ y : Int32, y = y1 + 1 := ⟨_, rfl⟩
        have he := he x_6 ex_6
        refine lv_iinc (v := x_6) (lv' := [(1, .int x_6), (0, .ref (ad (b1 + 4)))]) hx hb0 dX1_endNight_41 hl (k := 1) rfl (by rw [ex_6]; rfl) (by decide) rfl (fun ls hl => ?_)
        refine lv_goto (tgt := 2) hx hb0 dX1_endNight_44 (by decide) ?_
        exact ih x_6 h_2 he _ _ ls hP hD hS (lv_sub hl [1, 0] rfl)
      · have he := he.1 c_5
        refine lv_aload_n hx hb0 dX1_endNight_27 rfl (lv_at hl 0 rfl) ?_
        refine gx_get hx hb0 hts in_RX1 hown hK hP (b1 + 4) (vb_lt hb1 (by decide)) ((cE_4 hb1) _) rfl 6 (by decide) fl_RX1_30 rfl dX1_endNight_28 ?_
        refine lv_iload_n hx hb0 dX1_endNight_31 rfl (lv_at hl 1 rfl) ?_
        refine lv_iconst (v := (0 : Int32)) hx hb0 dX1_endNight_32 (by decide) ?_
        obtain ⟨v_8, he⟩ := he
        refine gx_iast hx hb0 hK hP hD hS (b1 + 11) 0 (vb_lt hb1 (by decide)) (cE_11 hb1) rfl v_8 dX1_endNight_33 (fun h_7 eh_7 H locs hP hD hS => ?_)
        have he := he h_7 eh_7
        refine lv_aload_n hx hb0 dX1_endNight_34 rfl (lv_at hl 0 rfl) ?_
        refine gx_get hx hb0 hts in_RX1 hown hK hP (b1 + 4) (vb_lt hb1 (by decide)) ((cE_4 hb1) _) rfl 3 (by decide) fl_RX1_21 rfl dX1_endNight_35 ?_
        refine lv_iload_n hx hb0 dX1_endNight_38 rfl (lv_at hl 1 rfl) ?_
        refine lv_iconst (v := (0 : Int32)) hx hb0 dX1_endNight_39 (by decide) ?_
        obtain ⟨v_10, he⟩ := he
        refine gx_iast hx hb0 hK hP hD hS (b1 + 8) 0 (vb_lt hb1 (by decide)) (cE_8 hb1) rfl v_10 dX1_endNight_40 (fun h_9 eh_9 H locs hP hD hS => ?_)
        have he := he h_9 eh_9
        obtain ⟨x_11, ex_11⟩ : ∃ y : Int32, y = y1 + 1 := ⟨_, rfl⟩
        have he := he x_11 ex_11
        refine lv_iinc (v := x_11) (lv' := [(1, .int x_11), (0, .ref (ad (b1 + 4)))]) hx hb0 dX1_endNight_41 hl (k := 1) rfl (by rw [ex_11]; rfl) (by decide) rfl (fun ls hl => ?_)
        refine lv_goto (tgt := 2) hx hb0 dX1_endNight_44 (by decide) ?_
        exact ih x_11 h_9 he _ _ ls hP hD hS (lv_sub hl [1, 0] rfl)
set_option maxHeartbeats 4000000 in
set_option maxRecDepth 100000 in
theorem c_X1_endNight (l : Launch) (dC : Nat → ClassId) (dI : Nat → Nat → Nat) (P : gP) (ad : Nat → Nat) (tb : Nat → Nat) (b1 : Nat) (hb1 : vb b1) (h0 : Hp) (Q : Hp → Prop) (he : F_X1_endNight b1 h0 Q) : Met l yX1_endNight (Cond.code yX1_endNight cX1_endNight 2 none :: TB) rm_X1_endNight (gPc (dC, dI) vwCl (tyC P) 162 (cE P ad) ad (gKC tb (gA 162 ad)) h0 [.ref (ad (b1 + 4))]) (gQv (dC, dI) vwCl (tyC P) 162 (cE P ad) ad Q) 0 0 (gA 162 ad) := by
  refine gx_start (by decide) (Nat.le_of_ble_eq_true rfl) (fun p e s m below meth c ls hx hb0 hr hlocks hml hown hts hK hk hP hD hS hl => ?_)
  have hl : lv_has ls 2 [(0, .ref (ad (b1 + 4)))] := hl
  have hown : s.vm.findClass RX1 = some m.cls := hown
  unfold F_X1_endNight at he
  refine lv_iconst (v := (0 : Int32)) hx hb0 dX1_endNight_0 (by decide) ?_
  refine lv_istore_n (lv' := [(1, .int (0 : Int32)), (0, .ref (ad (b1 + 4)))]) hx hb0 dX1_endNight_1 rfl hl (by decide) rfl (fun ls hl => ?_)
  obtain ⟨n_12, he⟩ := he
  exact l_X1_endNight_2 l dC dI P ad tb b1 hb1 hx hb0 hr hlocks hml hown hts hK hk Q n_12 (0 : Int32) h0 he _ _ ls hP hD hS (lv_sub hl [1, 0] rfl)
theorem gm_X1_endNight : gMeth yX1_endNight cX1_endNight 2 none 0 := ⟨⟨by decide, by decide, by decide +kernel⟩, ini_RX1, co_yX1_endNight⟩
abbrev rm_X1_sightsOfAll : Room := { frames := 0, cells := 0, slots := 0, locals := 0 }
set_option maxHeartbeats 4000000 in
set_option maxRecDepth 100000 in
theorem l_X1_sightsOfAll_4 (l : Launch) (dC : Nat → ClassId) (dI : Nat → Nat → Nat) (P : gP) (ad : Nat → Nat) (tb : Nat → Nat) (b1 : Nat) (hb1 : vb b1) {p : Program} {e : Env} {s : State} {m : MethodId} {args : Array Value} {below : List Frame} {meth : Method} {c : Code} (hx : p.tables.exec = Jvm.exec) (hb0 : c.code = cX1_sightsOfAll) (hr : meth.sig.returnType = (some .int)) (hlocks : meth.locks = false) (hml : c.maxLocals = 3) (hown : s.vm.findClass RX1 = some m.cls) (hts : ∀ w ∈ TB, w.before args s = true) (hK : va_K (dC, dI) vwCl (tyC P) s) (hk : (gKC tb (gA 162 ad)) s) (Q : Int32 → Hp → Prop) : ∀ (n : Nat) (y1 : Int32) (y2 : Int32) (h0 : Hp), F_X1_sightsOfAll_L4 b1 n y1 y2 h0 Q → ∀ (H : Heap) (locs : List Loc) (ls : Array Slot), va_P (dC, dI) vwCl (gW 162 (cE P ad) ad h0) H → va_D (gA 162 ad) (gW 162 (cE P ad) ad h0) → va_S (gA 162 ad) s.heap H locs → lv_has ls 3 [(0, .ref (ad (b1 + 4))), (1, .int y1), (2, .int y2)] → W p l e rm_X1_sightsOfAll s m args below meth c H locs 0 0 (MQ below (gQi (dC, dI) vwCl (tyC P) 162 (cE P ad) ad Q) args s 0 0 (gA 162 ad)) (F0 m 4 ls []) := by
  intro n
  induction n with
  | zero =>
    intro y1 y2 h0 he
    exact he.elim
  | succ n ih =>
    intro y1 y2 h0 he H locs ls hP hD hS hl
    rw [F_X1_sightsOfAll_L4] at he
    refine lv_iload_n hx hb0 dX1_sightsOfAll_4 rfl (lv_at hl 2 rfl) ?_
    refine lv_bipush (v := (7 : Int32)) hx hb0 dX1_sightsOfAll_5 (by decide) ?_
    refine lv_icmp_ge (tgt := 25) hx hb0 dX1_sightsOfAll_7 (by decide) (fun c_1 => ?_) (fun c_1 => ?_)
    · have he := he.1 c_1
      refine lv_iload_n hx hb0 dX1_sightsOfAll_25 rfl (lv_at hl 1 rfl) ?_
      exact gx_iret hx hb0 hr hlocks hK hP hD hS he dX1_sightsOfAll_26
    · have he := he.2 c_1
      refine lv_iload_n hx hb0 dX1_sightsOfAll_10 rfl (lv_at hl 1 rfl) ?_
      refine lv_aload_n hx hb0 dX1_sightsOfAll_11 rfl (lv_at hl 0 rfl) ?_
      refine gx_get hx hb0 hts in_RX1 hown hK hP (b1 + 4) (vb_lt hb1 (by decide)) ((cE_4 hb1) _) rfl 4 (by decide) fl_RX1_24 rfl dX1_sightsOfAll_12 ?_
      refine lv_iload_n hx hb0 dX1_sightsOfAll_15 rfl (lv_at hl 2 rfl) ?_
      obtain ⟨v_2, he⟩ := he
      refine gx_iald hx hb0 hK hP (b1 + 9) 0 (vb_lt hb1 (by decide)) (cE_9 hb1) rfl v_2 dX1_sightsOfAll_16 ?_
      refine lv_iadd hx hb0 dX1_sightsOfAll_17 ?_
      refine lv_topi (fun x_3 ex_3 => ?_)
      have he := he x_3 ex_3
      refine lv_istore_n (lv' := [(1, .int x_3), (0, .ref (ad (b1 + 4))), (2, .int y2)]) hx hb0 dX1_sightsOfAll_18 rfl hl (by decide) rfl (fun ls hl => ?_)
      obtain ⟨x_4, ex_4⟩ : ∃ y : Int32, y = y2 + 1 := ⟨_, rfl⟩
      have he := he x_4 ex_4
      refine lv_iinc (v := x_4) (lv' := [(2, .int x_4), (1, .int x_3), (0, .ref (ad (b1 + 4)))]) hx hb0 dX1_sightsOfAll_19 hl (k := 2) rfl (by rw [ex_4]; rfl) (by decide) rfl (fun ls hl => ?_)
      refine lv_goto (tgt := 4) hx hb0 dX1_sightsOfAll_22 (by decide) ?_
      exact ih x_3 x_4 h0 he _ _ ls hP hD hS (lv_sub hl [2, 1, 0] rfl)
set_option maxHeartbeats 4000000 in
set_option maxRecDepth 100000 in
theorem c_X1_sightsOfAll (l : Launch) (dC : Nat → ClassId) (dI : Nat → Nat → Nat) (P : gP) (ad : Nat → Nat) (tb : Nat → Nat) (b1 : Nat) (hb1 : vb b1) (h0 : Hp) (Q : Int32 → Hp → Prop) (he : F_X1_sightsOfAll b1 h0 Q) : Met l yX1_sightsOfAll (Cond.code yX1_sightsOfAll cX1_sightsOfAll 3 (some .int) :: TB) rm_X1_sightsOfAll (gPc (dC, dI) vwCl (tyC P) 162 (cE P ad) ad (gKC tb (gA 162 ad)) h0 [.ref (ad (b1 + 4))]) (gQi (dC, dI) vwCl (tyC P) 162 (cE P ad) ad Q) 0 0 (gA 162 ad) := by
  refine gx_start (by decide) (Nat.le_of_ble_eq_true rfl) (fun p e s m below meth c ls hx hb0 hr hlocks hml hown hts hK hk hP hD hS hl => ?_)
  have hl : lv_has ls 3 [(0, .ref (ad (b1 + 4)))] := hl
  have hown : s.vm.findClass RX1 = some m.cls := hown
  unfold F_X1_sightsOfAll at he
  refine lv_iconst (v := (0 : Int32)) hx hb0 dX1_sightsOfAll_0 (by decide) ?_
  refine lv_istore_n (lv' := [(1, .int (0 : Int32)), (0, .ref (ad (b1 + 4)))]) hx hb0 dX1_sightsOfAll_1 rfl hl (by decide) rfl (fun ls hl => ?_)
  refine lv_iconst (v := (0 : Int32)) hx hb0 dX1_sightsOfAll_2 (by decide) ?_
  refine lv_istore_n (lv' := [(2, .int (0 : Int32)), (1, .int (0 : Int32)), (0, .ref (ad (b1 + 4)))]) hx hb0 dX1_sightsOfAll_3 rfl hl (by decide) rfl (fun ls hl => ?_)
  obtain ⟨n_5, he⟩ := he
  exact l_X1_sightsOfAll_4 l dC dI P ad tb b1 hb1 hx hb0 hr hlocks hml hown hts hK hk Q n_5 (0 : Int32) (0 : Int32) h0 he _ _ ls hP hD hS (lv_sub hl [2, 1, 0] rfl)
theorem gm_X1_sightsOfAll : gMeth yX1_sightsOfAll cX1_sightsOfAll 3 (some .int) 0 := ⟨⟨by decide, by decide, by decide +kernel⟩, ini_RX1, co_yX1_sightsOfAll⟩
abbrev rm_X1_thoseWithEstimate : Room := { frames := 0, cells := 0, slots := 0, locals := 0 }
set_option maxHeartbeats 4000000 in
set_option maxRecDepth 100000 in
theorem l_X1_thoseWithEstimate_4 (l : Launch) (dC : Nat → ClassId) (dI : Nat → Nat → Nat) (P : gP) (ad : Nat → Nat) (tb : Nat → Nat) (b1 : Nat) (hb1 : vb b1) {p : Program} {e : Env} {s : State} {m : MethodId} {args : Array Value} {below : List Frame} {meth : Method} {c : Code} (hx : p.tables.exec = Jvm.exec) (hb0 : c.code = cX1_thoseWithEstimate) (hr : meth.sig.returnType = (some .int)) (hlocks : meth.locks = false) (hml : c.maxLocals = 3) (hown : s.vm.findClass RX1 = some m.cls) (hts : ∀ w ∈ TB, w.before args s = true) (hK : va_K (dC, dI) vwCl (tyC P) s) (hk : (gKC tb (gA 162 ad)) s) (Q : Int32 → Hp → Prop) : ∀ (n : Nat) (y1 : Int32) (y2 : Int32) (h0 : Hp), F_X1_thoseWithEstimate_L4 b1 n y1 y2 h0 Q → ∀ (H : Heap) (locs : List Loc) (ls : Array Slot), va_P (dC, dI) vwCl (gW 162 (cE P ad) ad h0) H → va_D (gA 162 ad) (gW 162 (cE P ad) ad h0) → va_S (gA 162 ad) s.heap H locs → lv_has ls 3 [(0, .ref (ad (b1 + 4))), (1, .int y1), (2, .int y2)] → W p l e rm_X1_thoseWithEstimate s m args below meth c H locs 0 0 (MQ below (gQi (dC, dI) vwCl (tyC P) 162 (cE P ad) ad Q) args s 0 0 (gA 162 ad)) (F0 m 4 ls []) := by
  intro n
  induction n with
  | zero =>
    intro y1 y2 h0 he
    exact he.elim
  | succ n ih =>
    intro y1 y2 h0 he H locs ls hP hD hS hl
    rw [F_X1_thoseWithEstimate_L4] at he
    refine lv_iload_n hx hb0 dX1_thoseWithEstimate_4 rfl (lv_at hl 2 rfl) ?_
    refine lv_bipush (v := (7 : Int32)) hx hb0 dX1_thoseWithEstimate_5 (by decide) ?_
    refine lv_icmp_ge (tgt := 34) hx hb0 dX1_thoseWithEstimate_7 (by decide) (fun c_1 => ?_) (fun c_1 => ?_)
    · have he := he.1 c_1
      refine lv_iload_n hx hb0 dX1_thoseWithEstimate_34 rfl (lv_at hl 1 rfl) ?_
      exact gx_iret hx hb0 hr hlocks hK hP hD hS he dX1_thoseWithEstimate_35
    · have he := he.2 c_1
      refine lv_aload_n hx hb0 dX1_thoseWithEstimate_10 rfl (lv_at hl 0 rfl) ?_
      refine gx_get hx hb0 hts in_RX1 hown hK hP (b1 + 4) (vb_lt hb1 (by decide)) ((cE_4 hb1) _) rfl 5 (by decide) fl_RX1_27 rfl dX1_thoseWithEstimate_11 ?_
      refine lv_iload_n hx hb0 dX1_thoseWithEstimate_14 rfl (lv_at hl 2 rfl) ?_
      obtain ⟨v_2, he⟩ := he
      refine gx_iald hx hb0 hK hP (b1 + 10) 0 (vb_lt hb1 (by decide)) (cE_10 hb1) rfl v_2 dX1_thoseWithEstimate_15 ?_
      refine lv_sipush (v := (9999 : Int32)) hx hb0 dX1_thoseWithEstimate_16 (by decide) ?_
      refine lv_icmp_eq (tgt := 28) hx hb0 dX1_thoseWithEstimate_19 (by decide) (fun c_3 => ?_) (fun c_3 => ?_)
      · have he := he.1 c_3
        obtain ⟨x_4, ex_4⟩ : ∃ y : Int32, y = y2 + 1 := ⟨_, rfl⟩
        have he := he x_4 ex_4
        refine lv_iinc (v := x_4) (lv' := [(2, .int x_4), (0, .ref (ad (b1 + 4))), (1, .int y1)]) hx hb0 dX1_thoseWithEstimate_28 hl (k := 2) rfl (by rw [ex_4]; rfl) (by decide) rfl (fun ls hl => ?_)
        refine lv_goto (tgt := 4) hx hb0 dX1_thoseWithEstimate_31 (by decide) ?_
        exact ih y1 x_4 h0 he _ _ ls hP hD hS (lv_sub hl [1, 2, 0] rfl)
      · have he := he.2 c_3
        refine lv_iload_n hx hb0 dX1_thoseWithEstimate_22 rfl (lv_at hl 1 rfl) ?_
        refine lv_iconst (v := (1 : Int32)) hx hb0 dX1_thoseWithEstimate_23 (by decide) ?_
        refine lv_iload_n hx hb0 dX1_thoseWithEstimate_24 rfl (lv_at hl 2 rfl) ?_
        refine lv_ishl hx hb0 dX1_thoseWithEstimate_25 ?_
        refine lv_ior hx hb0 dX1_thoseWithEstimate_26 ?_
        refine lv_topi (fun x_5 ex_5 => ?_)
        have he := he x_5 ex_5
        refine lv_istore_n (lv' := [(1, .int x_5), (0, .ref (ad (b1 + 4))), (2, .int y2)]) hx hb0 dX1_thoseWithEstimate_27 rfl hl (by decide) rfl (fun ls hl => ?_)
        obtain ⟨x_6, ex_6⟩ : ∃ y : Int32, y = y2 + 1 := ⟨_, rfl⟩
        have he := he x_6 ex_6
        refine lv_iinc (v := x_6) (lv' := [(2, .int x_6), (1, .int x_5), (0, .ref (ad (b1 + 4)))]) hx hb0 dX1_thoseWithEstimate_28 hl (k := 2) rfl (by rw [ex_6]; rfl) (by decide) rfl (fun ls hl => ?_)
        refine lv_goto (tgt := 4) hx hb0 dX1_thoseWithEstimate_31 (by decide) ?_
        exact ih x_5 x_6 h0 he _ _ ls hP hD hS (lv_sub hl [2, 1, 0] rfl)
set_option maxHeartbeats 4000000 in
set_option maxRecDepth 100000 in
theorem c_X1_thoseWithEstimate (l : Launch) (dC : Nat → ClassId) (dI : Nat → Nat → Nat) (P : gP) (ad : Nat → Nat) (tb : Nat → Nat) (b1 : Nat) (hb1 : vb b1) (h0 : Hp) (Q : Int32 → Hp → Prop) (he : F_X1_thoseWithEstimate b1 h0 Q) : Met l yX1_thoseWithEstimate (Cond.code yX1_thoseWithEstimate cX1_thoseWithEstimate 3 (some .int) :: TB) rm_X1_thoseWithEstimate (gPc (dC, dI) vwCl (tyC P) 162 (cE P ad) ad (gKC tb (gA 162 ad)) h0 [.ref (ad (b1 + 4))]) (gQi (dC, dI) vwCl (tyC P) 162 (cE P ad) ad Q) 0 0 (gA 162 ad) := by
  refine gx_start (by decide) (Nat.le_of_ble_eq_true rfl) (fun p e s m below meth c ls hx hb0 hr hlocks hml hown hts hK hk hP hD hS hl => ?_)
  have hl : lv_has ls 3 [(0, .ref (ad (b1 + 4)))] := hl
  have hown : s.vm.findClass RX1 = some m.cls := hown
  unfold F_X1_thoseWithEstimate at he
  refine lv_iconst (v := (0 : Int32)) hx hb0 dX1_thoseWithEstimate_0 (by decide) ?_
  refine lv_istore_n (lv' := [(1, .int (0 : Int32)), (0, .ref (ad (b1 + 4)))]) hx hb0 dX1_thoseWithEstimate_1 rfl hl (by decide) rfl (fun ls hl => ?_)
  refine lv_iconst (v := (0 : Int32)) hx hb0 dX1_thoseWithEstimate_2 (by decide) ?_
  refine lv_istore_n (lv' := [(2, .int (0 : Int32)), (1, .int (0 : Int32)), (0, .ref (ad (b1 + 4)))]) hx hb0 dX1_thoseWithEstimate_3 rfl hl (by decide) rfl (fun ls hl => ?_)
  obtain ⟨n_7, he⟩ := he
  exact l_X1_thoseWithEstimate_4 l dC dI P ad tb b1 hb1 hx hb0 hr hlocks hml hown hts hK hk Q n_7 (0 : Int32) (0 : Int32) h0 he _ _ ls hP hD hS (lv_sub hl [2, 1, 0] rfl)
theorem gm_X1_thoseWithEstimate : gMeth yX1_thoseWithEstimate cX1_thoseWithEstimate 3 (some .int) 0 := ⟨⟨by decide, by decide, by decide +kernel⟩, ini_RX1, co_yX1_thoseWithEstimate⟩
abbrev rm_X1_thoseWhoSulk : Room := { frames := 0, cells := 0, slots := 0, locals := 0 }
set_option maxHeartbeats 4000000 in
set_option maxRecDepth 100000 in
theorem l_X1_thoseWhoSulk_4 (l : Launch) (dC : Nat → ClassId) (dI : Nat → Nat → Nat) (P : gP) (ad : Nat → Nat) (tb : Nat → Nat) (b1 : Nat) (hb1 : vb b1) {p : Program} {e : Env} {s : State} {m : MethodId} {args : Array Value} {below : List Frame} {meth : Method} {c : Code} (hx : p.tables.exec = Jvm.exec) (hb0 : c.code = cX1_thoseWhoSulk) (hr : meth.sig.returnType = (some .int)) (hlocks : meth.locks = false) (hml : c.maxLocals = 3) (hown : s.vm.findClass RX1 = some m.cls) (hts : ∀ w ∈ TB, w.before args s = true) (hK : va_K (dC, dI) vwCl (tyC P) s) (hk : (gKC tb (gA 162 ad)) s) (Q : Int32 → Hp → Prop) : ∀ (n : Nat) (y1 : Int32) (y2 : Int32) (h0 : Hp), F_X1_thoseWhoSulk_L4 b1 n y1 y2 h0 Q → ∀ (H : Heap) (locs : List Loc) (ls : Array Slot), va_P (dC, dI) vwCl (gW 162 (cE P ad) ad h0) H → va_D (gA 162 ad) (gW 162 (cE P ad) ad h0) → va_S (gA 162 ad) s.heap H locs → lv_has ls 3 [(0, .ref (ad (b1 + 4))), (1, .int y1), (2, .int y2)] → W p l e rm_X1_thoseWhoSulk s m args below meth c H locs 0 0 (MQ below (gQi (dC, dI) vwCl (tyC P) 162 (cE P ad) ad Q) args s 0 0 (gA 162 ad)) (F0 m 4 ls []) := by
  intro n
  induction n with
  | zero =>
    intro y1 y2 h0 he
    exact he.elim
  | succ n ih =>
    intro y1 y2 h0 he H locs ls hP hD hS hl
    rw [F_X1_thoseWhoSulk_L4] at he
    refine lv_iload_n hx hb0 dX1_thoseWhoSulk_4 rfl (lv_at hl 2 rfl) ?_
    refine lv_bipush (v := (7 : Int32)) hx hb0 dX1_thoseWhoSulk_5 (by decide) ?_
    refine lv_icmp_ge (tgt := 32) hx hb0 dX1_thoseWhoSulk_7 (by decide) (fun c_1 => ?_) (fun c_1 => ?_)
    · have he := he.1 c_1
      refine lv_iload_n hx hb0 dX1_thoseWhoSulk_32 rfl (lv_at hl 1 rfl) ?_
      exact gx_iret hx hb0 hr hlocks hK hP hD hS he dX1_thoseWhoSulk_33
    · have he := he.2 c_1
      refine lv_aload_n hx hb0 dX1_thoseWhoSulk_10 rfl (lv_at hl 0 rfl) ?_
      refine gx_get hx hb0 hts in_RX1 hown hK hP (b1 + 4) (vb_lt hb1 (by decide)) ((cE_4 hb1) _) rfl 6 (by decide) fl_RX1_30 rfl dX1_thoseWhoSulk_11 ?_
      refine lv_iload_n hx hb0 dX1_thoseWhoSulk_14 rfl (lv_at hl 2 rfl) ?_
      obtain ⟨v_2, he⟩ := he
      refine gx_iald hx hb0 hK hP (b1 + 11) 0 (vb_lt hb1 (by decide)) (cE_11 hb1) rfl v_2 dX1_thoseWhoSulk_15 ?_
      refine lv_iconst (v := (2 : Int32)) hx hb0 dX1_thoseWhoSulk_16 (by decide) ?_
      refine lv_icmp_ne (tgt := 26) hx hb0 dX1_thoseWhoSulk_17 (by decide) (fun c_3 => ?_) (fun c_3 => ?_)
      · have he := he.2 c_3
        obtain ⟨x_4, ex_4⟩ : ∃ y : Int32, y = y2 + 1 := ⟨_, rfl⟩
        have he := he x_4 ex_4
        refine lv_iinc (v := x_4) (lv' := [(2, .int x_4), (0, .ref (ad (b1 + 4))), (1, .int y1)]) hx hb0 dX1_thoseWhoSulk_26 hl (k := 2) rfl (by rw [ex_4]; rfl) (by decide) rfl (fun ls hl => ?_)
        refine lv_goto (tgt := 4) hx hb0 dX1_thoseWhoSulk_29 (by decide) ?_
        exact ih y1 x_4 h0 he _ _ ls hP hD hS (lv_sub hl [1, 2, 0] rfl)
      · have he := he.1 c_3
        refine lv_iload_n hx hb0 dX1_thoseWhoSulk_20 rfl (lv_at hl 1 rfl) ?_
        refine lv_iconst (v := (1 : Int32)) hx hb0 dX1_thoseWhoSulk_21 (by decide) ?_
        refine lv_iload_n hx hb0 dX1_thoseWhoSulk_22 rfl (lv_at hl 2 rfl) ?_
        refine lv_ishl hx hb0 dX1_thoseWhoSulk_23 ?_
        refine lv_ior hx hb0 dX1_thoseWhoSulk_24 ?_
        refine lv_topi (fun x_5 ex_5 => ?_)
        have he := he x_5 ex_5
        refine lv_istore_n (lv' := [(1, .int x_5), (0, .ref (ad (b1 + 4))), (2, .int y2)]) hx hb0 dX1_thoseWhoSulk_25 rfl hl (by decide) rfl (fun ls hl => ?_)
        obtain ⟨x_6, ex_6⟩ : ∃ y : Int32, y = y2 + 1 := ⟨_, rfl⟩
        have he := he x_6 ex_6
        refine lv_iinc (v := x_6) (lv' := [(2, .int x_6), (1, .int x_5), (0, .ref (ad (b1 + 4)))]) hx hb0 dX1_thoseWhoSulk_26 hl (k := 2) rfl (by rw [ex_6]; rfl) (by decide) rfl (fun ls hl => ?_)
        refine lv_goto (tgt := 4) hx hb0 dX1_thoseWhoSulk_29 (by decide) ?_
        exact ih x_5 x_6 h0 he _ _ ls hP hD hS (lv_sub hl [2, 1, 0] rfl)
set_option maxHeartbeats 4000000 in
set_option maxRecDepth 100000 in
theorem c_X1_thoseWhoSulk (l : Launch) (dC : Nat → ClassId) (dI : Nat → Nat → Nat) (P : gP) (ad : Nat → Nat) (tb : Nat → Nat) (b1 : Nat) (hb1 : vb b1) (h0 : Hp) (Q : Int32 → Hp → Prop) (he : F_X1_thoseWhoSulk b1 h0 Q) : Met l yX1_thoseWhoSulk (Cond.code yX1_thoseWhoSulk cX1_thoseWhoSulk 3 (some .int) :: TB) rm_X1_thoseWhoSulk (gPc (dC, dI) vwCl (tyC P) 162 (cE P ad) ad (gKC tb (gA 162 ad)) h0 [.ref (ad (b1 + 4))]) (gQi (dC, dI) vwCl (tyC P) 162 (cE P ad) ad Q) 0 0 (gA 162 ad) := by
  refine gx_start (by decide) (Nat.le_of_ble_eq_true rfl) (fun p e s m below meth c ls hx hb0 hr hlocks hml hown hts hK hk hP hD hS hl => ?_)
  have hl : lv_has ls 3 [(0, .ref (ad (b1 + 4)))] := hl
  have hown : s.vm.findClass RX1 = some m.cls := hown
  unfold F_X1_thoseWhoSulk at he
  refine lv_iconst (v := (0 : Int32)) hx hb0 dX1_thoseWhoSulk_0 (by decide) ?_
  refine lv_istore_n (lv' := [(1, .int (0 : Int32)), (0, .ref (ad (b1 + 4)))]) hx hb0 dX1_thoseWhoSulk_1 rfl hl (by decide) rfl (fun ls hl => ?_)
  refine lv_iconst (v := (0 : Int32)) hx hb0 dX1_thoseWhoSulk_2 (by decide) ?_
  refine lv_istore_n (lv' := [(2, .int (0 : Int32)), (1, .int (0 : Int32)), (0, .ref (ad (b1 + 4)))]) hx hb0 dX1_thoseWhoSulk_3 rfl hl (by decide) rfl (fun ls hl => ?_)
  obtain ⟨n_7, he⟩ := he
  exact l_X1_thoseWhoSulk_4 l dC dI P ad tb b1 hb1 hx hb0 hr hlocks hml hown hts hK hk Q n_7 (0 : Int32) (0 : Int32) h0 he _ _ ls hP hD hS (lv_sub hl [2, 1, 0] rfl)
theorem gm_X1_thoseWhoSulk : gMeth yX1_thoseWhoSulk cX1_thoseWhoSulk 3 (some .int) 0 := ⟨⟨by decide, by decide, by decide +kernel⟩, ini_RX1, co_yX1_thoseWhoSulk⟩
