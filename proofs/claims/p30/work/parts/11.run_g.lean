abbrev rm_X2_hold : Room := { frames := 3, cells := 0, slots := 0, locals := 60 }
set_option maxHeartbeats 4000000 in
set_option maxRecDepth 100000 in
theorem c_X2_hold (l : Launch) (dC : Nat → ClassId) (dI : Nat → Nat → Nat) (P : gP) (ad : Nat → Nat) (tb : Nat → Nat) (b2 : Nat) (hb2 : vb b2) (h0 : Hp) (Q : Hp → Prop) (he : F_X2_hold b2 h0 Q) : Met l yX2_hold (Cond.code yX2_hold cX2_hold 2 none :: TB) rm_X2_hold (gPc (dC, dI) vwCl (tyC P) 162 (cE P ad) ad (gKC tb (gA 162 ad)) h0 [.ref (ad 1), .ref (ad b2)]) (gQv (dC, dI) vwCl (tyC P) 162 (cE P ad) ad Q) 0 0 (gA 162 ad) := by
  refine gx_start (by decide) (Nat.le_of_ble_eq_true rfl) (fun p e s m below meth c ls hx hb0 hr hlocks hml hown hts hK hk hP hD hS hl => ?_)
  have hl : lv_has ls 2 [(0, .ref (ad 1)), (1, .ref (ad b2))] := hl
  have hown : s.vm.findClass RX2 = some m.cls := hown
  unfold F_X2_hold at he
  refine lv_aload_n hx hb0 dX2_hold_0 rfl (lv_at hl 0 rfl) ?_
  refine gx_get hx hb0 hts in_RX2 hown hK hP 1 (by decide) (cE_t1 _) rfl 0 (by decide) fl_RX2_13 rfl dX2_hold_1 ?_
  refine lv_aload_n hx hb0 dX2_hold_4 rfl (lv_at hl 0 rfl) ?_
  refine gx_get hx hb0 hts in_RX2 hown hK hP 1 (by decide) (cE_t1 _) rfl 1 (by decide) fl_RX2_17 rfl dX2_hold_5 ?_
  refine lv_aload_n hx hb0 dX2_hold_8 rfl (lv_at hl 0 rfl) ?_
  refine gx_get hx hb0 hts in_RX2 hown hK hP 1 (by decide) (cE_t1 _) rfl 2 (by decide) fl_RX2_21 rfl dX2_hold_9 ?_
  refine lv_iadd hx hb0 dX2_hold_12 ?_
  refine lv_bipush (v := (7 : Int32)) hx hb0 dX2_hold_13 (by decide) ?_
  refine lv_irem hx hb0 dX2_hold_15 (by decide) ?_
  obtain ⟨v_1, he⟩ := he
  refine gx_aald hx hb0 hK hP 2 3 (by decide) cE_t2 rfl v_1 dX2_hold_16 ?_
  refine lv_aload_n hx hb0 dX2_hold_17 rfl (lv_at hl 1 rfl) ?_
  refine gx_vv ⟨hx, hb0, hml, hown, hts⟩ (gKC_keep _ _) hk hK hP hD hS (23 + 15 * (((h0 1 1) + (h0 1 2)) - ((h0 1 1) + (h0 1 2)) / (7 : Int32) * (7 : Int32)).toNatClampNeg) [.ref (ad b2)] [] (c_X6_copyFrom l dC dI P ad tb (23 + 15 * (((h0 1 1) + (h0 1 2)) - ((h0 1 1) + (h0 1 2)) / (7 : Int32) * (7 : Int32)).toNatClampNeg) (vb_place v_1) b2 hb2 h0 _ he) gm_X6_copyFrom im_yX6_copyFrom se_yX6_copyFrom ml_RX2_25 (vb_lt0 (vb_place v_1)) ((cE_0 (vb_place v_1)) _) rfl rfl rfl ⟨Nat.le_of_ble_eq_true rfl, Nat.le_of_ble_eq_true rfl⟩ rfl hl.1 rfl (Nat.le_of_ble_eq_true rfl) dX2_hold_18 ⟨Nat.zero_le _, Nat.zero_le _⟩ (fun h_3 he H locs hP hD hS => ?_)
  exact gx_vret hx hb0 hr hlocks hK hP hD hS he dX2_hold_21
theorem gm_X2_hold : gMeth yX2_hold cX2_hold 2 none 1 := ⟨⟨by decide, by decide, by decide +kernel⟩, ini_RX2, co_yX2_hold⟩
abbrev rm_X2_keepUnlessError : Room := { frames := 0, cells := 0, slots := 0, locals := 0 }
set_option maxHeartbeats 4000000 in
set_option maxRecDepth 100000 in
theorem c_X2_keepUnlessError (l : Launch) (dC : Nat → ClassId) (dI : Nat → Nat → Nat) (P : gP) (ad : Nat → Nat) (tb : Nat → Nat) (x1 : Int32) (h0 : Hp) (Q : Int32 → Hp → Prop) (he : F_X2_keepUnlessError x1 h0 Q) : Met l yX2_keepUnlessError (Cond.code yX2_keepUnlessError cX2_keepUnlessError 2 (some .int) :: TB) rm_X2_keepUnlessError (gPc (dC, dI) vwCl (tyC P) 162 (cE P ad) ad (gKC tb (gA 162 ad)) h0 [.ref (ad 1), .int x1]) (gQi (dC, dI) vwCl (tyC P) 162 (cE P ad) ad Q) 0 0 (gA 162 ad) := by
  refine gx_start (by decide) (Nat.le_of_ble_eq_true rfl) (fun p e s m below meth c ls hx hb0 hr hlocks hml hown hts hK hk hP hD hS hl => ?_)
  have hl : lv_has ls 2 [(0, .ref (ad 1)), (1, .int x1)] := hl
  have hown : s.vm.findClass RX2 = some m.cls := hown
  unfold F_X2_keepUnlessError at he
  refine lv_iload_n hx hb0 dX2_keepUnlessError_0 rfl (lv_at hl 1 rfl) ?_
  refine lv_if_lt (tgt := 39) hx hb0 dX2_keepUnlessError_1 (by decide) (fun c_1 => ?_) (fun c_1 => ?_)
  · have he := he.1 c_1
    refine lv_iload_n hx hb0 dX2_keepUnlessError_39 rfl (lv_at hl 1 rfl) ?_
    exact gx_iret hx hb0 hr hlocks hK hP hD hS he dX2_keepUnlessError_40
  · have he := he.2 c_1
    refine lv_aload_n hx hb0 dX2_keepUnlessError_4 rfl (lv_at hl 0 rfl) ?_
    refine gx_get hx hb0 hts in_RX2 hown hK hP 1 (by decide) (cE_t1 _) rfl 2 (by decide) fl_RX2_21 rfl dX2_keepUnlessError_5 ?_
    refine lv_bipush (v := (6 : Int32)) hx hb0 dX2_keepUnlessError_8 (by decide) ?_
    refine lv_icmp_ge (tgt := 26) hx hb0 dX2_keepUnlessError_10 (by decide) (fun c_2 => ?_) (fun c_2 => ?_)
    · have he := he.1 c_2
      refine lv_aload_n hx hb0 dX2_keepUnlessError_26 rfl (lv_at hl 0 rfl) ?_
      refine lv_aload_n hx hb0 dX2_keepUnlessError_27 rfl (lv_at hl 0 rfl) ?_
      refine gx_get hx hb0 hts in_RX2 hown hK hP 1 (by decide) (cE_t1 _) rfl 1 (by decide) fl_RX2_17 rfl dX2_keepUnlessError_28 ?_
      refine lv_iconst (v := (1 : Int32)) hx hb0 dX2_keepUnlessError_31 (by decide) ?_
      refine lv_iadd hx hb0 dX2_keepUnlessError_32 ?_
      refine lv_bipush (v := (7 : Int32)) hx hb0 dX2_keepUnlessError_33 (by decide) ?_
      refine lv_irem hx hb0 dX2_keepUnlessError_35 (by decide) ?_
      refine gx_put hx hb0 hts in_RX2 tyX2 tyX2_ok nmX2 hown hK hP hD hS 1 (by decide) cE_t1 rfl 1 (by decide) fl_RX2_17 rfl (tyX2_ok 1 (by decide)) (Nat.le_of_ble_eq_true rfl) rfl dX2_keepUnlessError_36 (fun h_3 eh_3 H locs hP hD hS => ?_)
      have he := he h_3 eh_3
      refine lv_iload_n hx hb0 dX2_keepUnlessError_39 rfl (lv_at hl 1 rfl) ?_
      exact gx_iret hx hb0 hr hlocks hK hP hD hS he dX2_keepUnlessError_40
    · have he := he.2 c_2
      refine lv_aload_n hx hb0 dX2_keepUnlessError_13 rfl (lv_at hl 0 rfl) ?_
      refine lv_dup hx hb0 dX2_keepUnlessError_14 rfl ?_
      refine gx_get hx hb0 hts in_RX2 hown hK hP 1 (by decide) (cE_t1 _) rfl 2 (by decide) fl_RX2_21 rfl dX2_keepUnlessError_15 ?_
      refine lv_iconst (v := (1 : Int32)) hx hb0 dX2_keepUnlessError_18 (by decide) ?_
      refine lv_iadd hx hb0 dX2_keepUnlessError_19 ?_
      refine gx_put hx hb0 hts in_RX2 tyX2 tyX2_ok nmX2 hown hK hP hD hS 1 (by decide) cE_t1 rfl 2 (by decide) fl_RX2_21 rfl (tyX2_ok 2 (by decide)) (Nat.le_of_ble_eq_true rfl) rfl dX2_keepUnlessError_20 (fun h_4 eh_4 H locs hP hD hS => ?_)
      have he := he h_4 eh_4
      refine lv_goto (tgt := 39) hx hb0 dX2_keepUnlessError_23 (by decide) ?_
      refine lv_iload_n hx hb0 dX2_keepUnlessError_39 rfl (lv_at hl 1 rfl) ?_
      exact gx_iret hx hb0 hr hlocks hK hP hD hS he dX2_keepUnlessError_40
theorem gm_X2_keepUnlessError : gMeth yX2_keepUnlessError cX2_keepUnlessError 2 (some .int) 1 := ⟨⟨by decide, by decide, by decide +kernel⟩, ini_RX2, co_yX2_keepUnlessError⟩
abbrev rm_X2_takeBack : Room := { frames := 3, cells := 0, slots := 0, locals := 60 }
set_option maxHeartbeats 4000000 in
set_option maxRecDepth 100000 in
theorem c_X2_takeBack (l : Launch) (dC : Nat → ClassId) (dI : Nat → Nat → Nat) (P : gP) (ad : Nat → Nat) (tb : Nat → Nat) (b2 : Nat) (hb2 : vb b2) (h0 : Hp) (Q : Int32 → Hp → Prop) (he : F_X2_takeBack b2 h0 Q) : Met l yX2_takeBack (Cond.code yX2_takeBack cX2_takeBack 2 (some .int) :: TB) rm_X2_takeBack (gPc (dC, dI) vwCl (tyC P) 162 (cE P ad) ad (gKC tb (gA 162 ad)) h0 [.ref (ad 1), .ref (ad b2)]) (gQi (dC, dI) vwCl (tyC P) 162 (cE P ad) ad Q) 0 0 (gA 162 ad) := by
  refine gx_start (by decide) (Nat.le_of_ble_eq_true rfl) (fun p e s m below meth c ls hx hb0 hr hlocks hml hown hts hK hk hP hD hS hl => ?_)
  have hl : lv_has ls 2 [(0, .ref (ad 1)), (1, .ref (ad b2))] := hl
  have hown : s.vm.findClass RX2 = some m.cls := hown
  unfold F_X2_takeBack at he
  refine lv_aload_n hx hb0 dX2_takeBack_0 rfl (lv_at hl 0 rfl) ?_
  refine gx_get hx hb0 hts in_RX2 hown hK hP 1 (by decide) (cE_t1 _) rfl 2 (by decide) fl_RX2_21 rfl dX2_takeBack_1 ?_
  refine lv_if_ne (tgt := 10) hx hb0 dX2_takeBack_4 (by decide) (fun c_1 => ?_) (fun c_1 => ?_)
  · have he := he.2 c_1
    refine lv_aload_n hx hb0 dX2_takeBack_10 rfl (lv_at hl 0 rfl) ?_
    refine lv_dup hx hb0 dX2_takeBack_11 rfl ?_
    refine gx_get hx hb0 hts in_RX2 hown hK hP 1 (by decide) (cE_t1 _) rfl 2 (by decide) fl_RX2_21 rfl dX2_takeBack_12 ?_
    refine lv_iconst (v := (1 : Int32)) hx hb0 dX2_takeBack_15 (by decide) ?_
    refine lv_isub hx hb0 dX2_takeBack_16 ?_
    refine gx_put hx hb0 hts in_RX2 tyX2 tyX2_ok nmX2 hown hK hP hD hS 1 (by decide) cE_t1 rfl 2 (by decide) fl_RX2_21 rfl (tyX2_ok 2 (by decide)) (Nat.le_of_ble_eq_true rfl) rfl dX2_takeBack_17 (fun h_2 eh_2 H locs hP hD hS => ?_)
    have he := he h_2 eh_2
    refine lv_aload_n hx hb0 dX2_takeBack_20 rfl (lv_at hl 1 rfl) ?_
    refine lv_aload_n hx hb0 dX2_takeBack_21 rfl (lv_at hl 0 rfl) ?_
    refine gx_get hx hb0 hts in_RX2 hown hK hP 1 (by decide) (cE_t1 _) rfl 0 (by decide) fl_RX2_13 rfl dX2_takeBack_22 ?_
    refine lv_aload_n hx hb0 dX2_takeBack_25 rfl (lv_at hl 0 rfl) ?_
    refine gx_get hx hb0 hts in_RX2 hown hK hP 1 (by decide) (cE_t1 _) rfl 1 (by decide) fl_RX2_17 rfl dX2_takeBack_26 ?_
    refine lv_aload_n hx hb0 dX2_takeBack_29 rfl (lv_at hl 0 rfl) ?_
    refine gx_get hx hb0 hts in_RX2 hown hK hP 1 (by decide) (cE_t1 _) rfl 2 (by decide) fl_RX2_21 rfl dX2_takeBack_30 ?_
    refine lv_iadd hx hb0 dX2_takeBack_33 ?_
    refine lv_bipush (v := (7 : Int32)) hx hb0 dX2_takeBack_34 (by decide) ?_
    refine lv_irem hx hb0 dX2_takeBack_36 (by decide) ?_
    obtain ⟨v_3, he⟩ := he
    refine gx_aald hx hb0 hK hP 2 3 (by decide) cE_t2 rfl v_3 dX2_takeBack_37 ?_
    refine gx_vv ⟨hx, hb0, hml, hown, hts⟩ (gKC_keep _ _) hk hK hP hD hS b2 [.ref (ad (23 + 15 * (((h_2 1 1) + (h_2 1 2)) - ((h_2 1 1) + (h_2 1 2)) / (7 : Int32) * (7 : Int32)).toNatClampNeg))] [] (c_X6_copyFrom l dC dI P ad tb b2 hb2 (23 + 15 * (((h_2 1 1) + (h_2 1 2)) - ((h_2 1 1) + (h_2 1 2)) / (7 : Int32) * (7 : Int32)).toNatClampNeg) (vb_place v_3) h_2 _ he) gm_X6_copyFrom im_yX6_copyFrom se_yX6_copyFrom ml_RX2_25 (vb_lt0 hb2) ((cE_0 hb2) _) rfl rfl rfl ⟨Nat.le_of_ble_eq_true rfl, Nat.le_of_ble_eq_true rfl⟩ rfl hl.1 rfl (Nat.le_of_ble_eq_true rfl) dX2_takeBack_38 ⟨Nat.zero_le _, Nat.zero_le _⟩ (fun h_5 he H locs hP hD hS => ?_)
    refine lv_aload_n hx hb0 dX2_takeBack_41 rfl (lv_at hl 0 rfl) ?_
    refine gx_get hx hb0 hts in_RX2 hown hK hP 1 (by decide) (cE_t1 _) rfl 2 (by decide) fl_RX2_21 rfl dX2_takeBack_42 ?_
    exact gx_iret hx hb0 hr hlocks hK hP hD hS he dX2_takeBack_45
  · have he := he.1 c_1
    refine lv_bipush (v := (-5 : Int32)) hx hb0 dX2_takeBack_7 (by decide) ?_
    exact gx_iret hx hb0 hr hlocks hK hP hD hS he dX2_takeBack_9
theorem gm_X2_takeBack : gMeth yX2_takeBack cX2_takeBack 2 (some .int) 1 := ⟨⟨by decide, by decide, by decide +kernel⟩, ini_RX2, co_yX2_takeBack⟩
