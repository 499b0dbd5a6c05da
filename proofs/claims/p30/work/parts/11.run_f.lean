abbrev rm_X6_copyFrom : Room := { frames := 2, cells := 0, slots := 0, locals := 39 }
set_option maxHeartbeats 4000000 in
set_option maxRecDepth 100000 in
theorem c_X6_copyFrom (l : Launch) (dC : Nat → ClassId) (dI : Nat → Nat → Nat) (P : gP) (ad : Nat → Nat) (tb : Nat → Nat) (b1 : Nat) (hb1 : vb b1) (b2 : Nat) (hb2 : vb b2) (h0 : Hp) (Q : Hp → Prop) (he : F_X6_copyFrom b1 b2 h0 Q) : Met l yX6_copyFrom (Cond.code yX6_copyFrom cX6_copyFrom 2 none :: TB) rm_X6_copyFrom (gPc (dC, dI) vwCl (tyC P) 162 (cE P ad) ad (gKC tb (gA 162 ad)) h0 [.ref (ad b1), .ref (ad b2)]) (gQv (dC, dI) vwCl (tyC P) 162 (cE P ad) ad Q) 0 0 (gA 162 ad) := by
  refine gx_start (by decide) (Nat.le_of_ble_eq_true rfl) (fun p e s m below meth c ls hx hb0 hr hlocks hml hown hts hK hk hP hD hS hl => ?_)
  have hl : lv_has ls 2 [(0, .ref (ad b1)), (1, .ref (ad b2))] := hl
  have hown : s.vm.findClass RX6 = some m.cls := hown
  unfold F_X6_copyFrom at he
  refine lv_aload_n hx hb0 dX6_copyFrom_0 rfl (lv_at hl 1 rfl) ?_
  refine gx_get hx hb0 hts in_RX6 hown hK hP b2 (vb_lt0 hb2) ((cE_0 hb2) _) rfl 0 (by decide) fl_RX6_9 rfl dX6_copyFrom_1 ?_
  refine lv_iconst (v := (0 : Int32)) hx hb0 dX6_copyFrom_4 (by decide) ?_
  refine lv_aload_n hx hb0 dX6_copyFrom_5 rfl (lv_at hl 0 rfl) ?_
  refine gx_get hx hb0 hts in_RX6 hown hK hP b1 (vb_lt0 hb1) ((cE_0 hb1) _) rfl 0 (by decide) fl_RX6_9 rfl dX6_copyFrom_6 ?_
  refine lv_iconst (v := (0 : Int32)) hx hb0 dX6_copyFrom_9 (by decide) ?_
  refine lv_iconst (v := (4 : Int32)) hx hb0 dX6_copyFrom_10 (by decide) ?_
  refine gx_copy hx hb0 (hml.trans hl.1.symm) hts hown ml_RX6_56 nat_arraycopy st_arraycopyName ini_RJ10 hK hP hD hS (b2 + 1) (b1 + 1) 0 4 (vb_lt hb2 (by decide)) (vb_lt hb1 (by decide)) (cE_1 hb2) (cE_1 hb1) rfl (by decide) (by decide) (Nat.le_of_ble_eq_true rfl) (Nat.le_of_ble_eq_true rfl) dX6_copyFrom_11 (fun h_1 eh_1 H locs hP hD hS => ?_)
  have he := he h_1 eh_1
  refine lv_aload_n hx hb0 dX6_copyFrom_14 rfl (lv_at hl 0 rfl) ?_
  refine gx_get hx hb0 hts in_RX6 hown hK hP b1 (vb_lt0 hb1) ((cE_0 hb1) _) rfl 1 (by decide) fl_RX6_18 rfl dX6_copyFrom_15 ?_
  refine lv_aload_n hx hb0 dX6_copyFrom_18 rfl (lv_at hl 1 rfl) ?_
  refine gx_get hx hb0 hts in_RX6 hown hK hP b2 (vb_lt0 hb2) ((cE_0 hb2) _) rfl 1 (by decide) fl_RX6_18 rfl dX6_copyFrom_19 ?_
  refine gx_vv ⟨hx, hb0, hml, hown, hts⟩ (gKC_keep _ _) hk hK hP hD hS (b1 + 2) [.ref (ad (b2 + 2))] [] (c_X5_copyFrom l dC dI P ad tb b1 hb1 b2 hb2 h_1 _ he) gm_X5_copyFrom im_yX5_copyFrom se_yX5_copyFrom ml_RX6_62 (vb_lt hb1 (by decide)) ((cE_2 hb1) _) rfl rfl rfl ⟨Nat.le_of_ble_eq_true rfl, Nat.le_of_ble_eq_true rfl⟩ rfl hl.1 rfl (Nat.le_of_ble_eq_true rfl) dX6_copyFrom_22 ⟨Nat.zero_le _, Nat.zero_le _⟩ (fun h_3 he H locs hP hD hS => ?_)
  refine lv_aload_n hx hb0 dX6_copyFrom_25 rfl (lv_at hl 0 rfl) ?_
  refine gx_get hx hb0 hts in_RX6 hown hK hP b1 (vb_lt0 hb1) ((cE_0 hb1) _) rfl 2 (by decide) fl_RX6_25 rfl dX6_copyFrom_26 ?_
  refine lv_aload_n hx hb0 dX6_copyFrom_29 rfl (lv_at hl 1 rfl) ?_
  refine gx_get hx hb0 hts in_RX6 hown hK hP b2 (vb_lt0 hb2) ((cE_0 hb2) _) rfl 2 (by decide) fl_RX6_25 rfl dX6_copyFrom_30 ?_
  refine gx_vv ⟨hx, hb0, hml, hown, hts⟩ (gKC_keep _ _) hk hK hP hD hS (b1 + 4) [.ref (ad (b2 + 4))] [] (c_X1_copyFrom l dC dI P ad tb b1 hb1 b2 hb2 h_3 _ he) gm_X1_copyFrom im_yX1_copyFrom se_yX1_copyFrom ml_RX6_66 (vb_lt hb1 (by decide)) ((cE_4 hb1) _) rfl rfl rfl ⟨Nat.le_of_ble_eq_true rfl, Nat.le_of_ble_eq_true rfl⟩ rfl hl.1 rfl (Nat.le_of_ble_eq_true rfl) dX6_copyFrom_33 ⟨Nat.zero_le _, Nat.zero_le _⟩ (fun h_5 he H locs hP hD hS => ?_)
  refine lv_aload_n hx hb0 dX6_copyFrom_36 rfl (lv_at hl 0 rfl) ?_
  refine gx_get hx hb0 hts in_RX6 hown hK hP b1 (vb_lt0 hb1) ((cE_0 hb1) _) rfl 3 (by decide) fl_RX6_32 rfl dX6_copyFrom_37 ?_
  refine lv_aload_n hx hb0 dX6_copyFrom_40 rfl (lv_at hl 1 rfl) ?_
  refine gx_get hx hb0 hts in_RX6 hown hK hP b2 (vb_lt0 hb2) ((cE_0 hb2) _) rfl 3 (by decide) fl_RX6_32 rfl dX6_copyFrom_41 ?_
  refine gx_vv ⟨hx, hb0, hml, hown, hts⟩ (gKC_keep _ _) hk hK hP hD hS (b1 + 12) [.ref (ad (b2 + 12))] [] (c_X0_copyFrom l dC dI P ad tb (b1 + 12) (isCrs_v hb1) (b2 + 12) (isCrs_v hb2) h_5 _ he) gm_X0_copyFrom im_yX0_copyFrom se_yX0_copyFrom ml_RX6_69 (crs_lt (isCrs_v hb1)) ((cE_crs (isCrs_v hb1)) _) rfl rfl rfl ⟨Nat.le_of_ble_eq_true rfl, Nat.le_of_ble_eq_true rfl⟩ rfl hl.1 rfl (Nat.le_of_ble_eq_true rfl) dX6_copyFrom_44 ⟨Nat.zero_le _, Nat.zero_le _⟩ (fun h_7 he H locs hP hD hS => ?_)
  refine lv_aload_n hx hb0 dX6_copyFrom_47 rfl (lv_at hl 0 rfl) ?_
  refine gx_get hx hb0 hts in_RX6 hown hK hP b1 (vb_lt0 hb1) ((cE_0 hb1) _) rfl 4 (by decide) fl_RX6_39 rfl dX6_copyFrom_48 ?_
  refine lv_aload_n hx hb0 dX6_copyFrom_51 rfl (lv_at hl 1 rfl) ?_
  refine gx_get hx hb0 hts in_RX6 hown hK hP b2 (vb_lt0 hb2) ((cE_0 hb2) _) rfl 4 (by decide) fl_RX6_39 rfl dX6_copyFrom_52 ?_
  refine gx_vv ⟨hx, hb0, hml, hown, hts⟩ (gKC_keep _ _) hk hK hP hD hS (b1 + 13) [.ref (ad (b2 + 13))] [] (c_X3_copyFrom l dC dI P ad tb b1 hb1 b2 hb2 h_7 _ he) gm_X3_copyFrom im_yX3_copyFrom se_yX3_copyFrom ml_RX6_72 (vb_lt hb1 (by decide)) ((cE_13 hb1) _) rfl rfl rfl ⟨Nat.le_of_ble_eq_true rfl, Nat.le_of_ble_eq_true rfl⟩ rfl hl.1 rfl (Nat.le_of_ble_eq_true rfl) dX6_copyFrom_55 ⟨Nat.zero_le _, Nat.zero_le _⟩ (fun h_9 he H locs hP hD hS => ?_)
  refine lv_aload_n hx hb0 dX6_copyFrom_58 rfl (lv_at hl 0 rfl) ?_
  refine lv_aload_n hx hb0 dX6_copyFrom_59 rfl (lv_at hl 1 rfl) ?_
  refine gx_get hx hb0 hts in_RX6 hown hK hP b2 (vb_lt0 hb2) ((cE_0 hb2) _) rfl 5 (by decide) fl_RX6_43 rfl dX6_copyFrom_60 ?_
  refine gx_put hx hb0 hts in_RX6 tyX6 tyX6_ok nmX6 hown hK hP hD hS b1 (vb_lt0 hb1) (cE_0 hb1) rfl 5 (by decide) fl_RX6_43 rfl (tyX6_ok 5 (by decide)) (Nat.le_of_ble_eq_true rfl) rfl dX6_copyFrom_63 (fun h_10 eh_10 H locs hP hD hS => ?_)
  have he := he h_10 eh_10
  refine lv_aload_n hx hb0 dX6_copyFrom_66 rfl (lv_at hl 0 rfl) ?_
  refine lv_aload_n hx hb0 dX6_copyFrom_67 rfl (lv_at hl 1 rfl) ?_
  refine gx_get hx hb0 hts in_RX6 hown hK hP b2 (vb_lt0 hb2) ((cE_0 hb2) _) rfl 6 (by decide) fl_RX6_47 rfl dX6_copyFrom_68 ?_
  refine gx_put hx hb0 hts in_RX6 tyX6 tyX6_ok nmX6 hown hK hP hD hS b1 (vb_lt0 hb1) (cE_0 hb1) rfl 6 (by decide) fl_RX6_47 rfl (tyX6_ok 6 (by decide)) (Nat.le_of_ble_eq_true rfl) rfl dX6_copyFrom_71 (fun h_11 eh_11 H locs hP hD hS => ?_)
  have he := he h_11 eh_11
  refine lv_aload_n hx hb0 dX6_copyFrom_74 rfl (lv_at hl 0 rfl) ?_
  refine lv_aload_n hx hb0 dX6_copyFrom_75 rfl (lv_at hl 1 rfl) ?_
  refine gx_get hx hb0 hts in_RX6 hown hK hP b2 (vb_lt0 hb2) ((cE_0 hb2) _) rfl 7 (by decide) fl_RX6_50 rfl dX6_copyFrom_76 ?_
  refine gx_put hx hb0 hts in_RX6 tyX6 tyX6_ok nmX6 hown hK hP hD hS b1 (vb_lt0 hb1) (cE_0 hb1) rfl 7 (by decide) fl_RX6_50 rfl (tyX6_ok 7 (by decide)) (Nat.le_of_ble_eq_true rfl) rfl dX6_copyFrom_79 (fun h_12 eh_12 H locs hP hD hS => ?_)
  have he := he h_12 eh_12
  exact gx_vret hx hb0 hr hlocks hK hP hD hS he dX6_copyFrom_82
theorem gm_X6_copyFrom : gMeth yX6_copyFrom cX6_copyFrom 2 none 1 := ⟨⟨by decide, by decide, by decide +kernel⟩, ini_RX6, co_yX6_copyFrom⟩
abbrev rm_X6_changeSetting : Room := { frames := 0, cells := 0, slots := 0, locals := 0 }
set_option maxHeartbeats 4000000 in
set_option maxRecDepth 100000 in
theorem c_X6_changeSetting (l : Launch) (dC : Nat → ClassId) (dI : Nat → Nat → Nat) (P : gP) (ad : Nat → Nat) (tb : Nat → Nat) (b1 : Nat) (hb1 : vb b1) (x1 : Int32) (x2 : Int32) (h0 : Hp) (Q : Int32 → Hp → Prop) (he : F_X6_changeSetting b1 x1 x2 h0 Q) : Met l yX6_changeSetting (Cond.code yX6_changeSetting cX6_changeSetting 4 (some .int) :: TB) rm_X6_changeSetting (gPc (dC, dI) vwCl (tyC P) 162 (cE P ad) ad (gKC tb (gA 162 ad)) h0 [.ref (ad b1), .int x1, .int x2]) (gQi (dC, dI) vwCl (tyC P) 162 (cE P ad) ad Q) 0 0 (gA 162 ad) := by
  refine gx_start (by decide) (Nat.le_of_ble_eq_true rfl) (fun p e s m below meth c ls hx hb0 hr hlocks hml hown hts hK hk hP hD hS hl => ?_)
  have hl : lv_has ls 4 [(0, .ref (ad b1)), (1, .int x1), (2, .int x2)] := hl
  have hown : s.vm.findClass RX6 = some m.cls := hown
  unfold F_X6_changeSetting at he
  refine lv_iload_n hx hb0 dX6_changeSetting_0 rfl (lv_at hl 1 rfl) ?_
  refine lv_if_lt (tgt := 27) hx hb0 dX6_changeSetting_1 (by decide) (fun c_1 => ?_) (fun c_1 => ?_)
  · have he := he.1 c_1
    refine lv_bipush (v := (-2 : Int32)) hx hb0 dX6_changeSetting_27 (by decide) ?_
    exact gx_iret hx hb0 hr hlocks hK hP hD hS he dX6_changeSetting_29
  · have he := he.2 c_1
    refine lv_iload_n hx hb0 dX6_changeSetting_4 rfl (lv_at hl 1 rfl) ?_
    refine lv_iconst (v := (4 : Int32)) hx hb0 dX6_changeSetting_5 (by decide) ?_
    refine lv_icmp_ge (tgt := 27) hx hb0 dX6_changeSetting_6 (by decide) (fun c_2 => ?_) (fun c_2 => ?_)
    · have he := he.1 c_2
      refine lv_bipush (v := (-2 : Int32)) hx hb0 dX6_changeSetting_27 (by decide) ?_
      exact gx_iret hx hb0 hr hlocks hK hP hD hS he dX6_changeSetting_29
    · have he := he.2 c_2
      refine lv_iload_n hx hb0 dX6_changeSetting_9 rfl (lv_at hl 2 rfl) ?_
      refine va_gets hx hb0 hk.2.2.1.1 hS hown (hts _ fl_RX6_75) (fun _ z => z) dX6_changeSetting_10 ?_
      refine lv_iload_n hx hb0 dX6_changeSetting_13 rfl (lv_at hl 1 rfl) ?_
      obtain ⟨v_3, he⟩ := he
      refine va_ti hx hb0 hk.2.2.1.2 hS v_3 rfl dX6_changeSetting_14 ?_
      refine lv_icmp_lt (tgt := 27) hx hb0 dX6_changeSetting_15 (by decide) (fun c_4 => ?_) (fun c_4 => ?_)
      · have he := he.1 c_4
        refine lv_bipush (v := (-2 : Int32)) hx hb0 dX6_changeSetting_27 (by decide) ?_
        exact gx_iret hx hb0 hr hlocks hK hP hD hS he dX6_changeSetting_29
      · have he := he.2 c_4
        refine lv_iload_n hx hb0 dX6_changeSetting_18 rfl (lv_at hl 2 rfl) ?_
        refine va_gets hx hb0 hk.2.2.2.1.1 hS hown (hts _ fl_RX6_78) (fun _ z => z) dX6_changeSetting_19 ?_
        refine lv_iload_n hx hb0 dX6_changeSetting_22 rfl (lv_at hl 1 rfl) ?_
        obtain ⟨v_5, he⟩ := he
        refine va_ti hx hb0 hk.2.2.2.1.2 hS v_5 rfl dX6_changeSetting_23 ?_
        refine lv_icmp_le (tgt := 30) hx hb0 dX6_changeSetting_24 (by decide) (fun c_6 => ?_) (fun c_6 => ?_)
        · have he := he.1 c_6
          refine lv_aload_n hx hb0 dX6_changeSetting_30 rfl (lv_at hl 0 rfl) ?_
          refine gx_get hx hb0 hts in_RX6 hown hK hP b1 (vb_lt0 hb1) ((cE_0 hb1) _) rfl 0 (by decide) fl_RX6_9 rfl dX6_changeSetting_31 ?_
          refine lv_iload_n hx hb0 dX6_changeSetting_34 rfl (lv_at hl 1 rfl) ?_
          obtain ⟨v_7, he⟩ := he
          refine gx_iald hx hb0 hK hP (b1 + 1) 0 (vb_lt hb1 (by decide)) (cE_1 hb1) rfl v_7 dX6_changeSetting_35 ?_
          refine lv_topi (fun x_8 ex_8 => ?_)
          have he := he x_8 ex_8
          refine lv_istore_n (lv' := [(3, .int x_8), (0, .ref (ad b1)), (1, .int x1), (2, .int x2)]) hx hb0 dX6_changeSetting_36 rfl hl (by decide) rfl (fun ls hl => ?_)
          refine lv_aload_n hx hb0 dX6_changeSetting_37 rfl (lv_at hl 1 rfl) ?_
          refine gx_get hx hb0 hts in_RX6 hown hK hP b1 (vb_lt0 hb1) ((cE_0 hb1) _) rfl 0 (by decide) fl_RX6_9 rfl dX6_changeSetting_38 ?_
          refine lv_iload_n hx hb0 dX6_changeSetting_41 rfl (lv_at hl 2 rfl) ?_
          refine lv_iload_n hx hb0 dX6_changeSetting_42 rfl (lv_at hl 3 rfl) ?_
          obtain ⟨v_10, he⟩ := he
          refine gx_iast hx hb0 hK hP hD hS (b1 + 1) 0 (vb_lt hb1 (by decide)) (cE_1 hb1) rfl v_10 dX6_changeSetting_43 (fun h_9 eh_9 H locs hP hD hS => ?_)
          have he := he h_9 eh_9
          refine lv_iload_n hx hb0 dX6_changeSetting_44 rfl (lv_at hl 0 rfl) ?_
          refine lv_bipush (v := (30 : Int32)) hx hb0 dX6_changeSetting_45 (by decide) ?_
          refine lv_iadd hx hb0 dX6_changeSetting_47 ?_
          exact gx_iret hx hb0 hr hlocks hK hP hD hS he dX6_changeSetting_48
        · have he := he.2 c_6
          refine lv_bipush (v := (-2 : Int32)) hx hb0 dX6_changeSetting_27 (by decide) ?_
          exact gx_iret hx hb0 hr hlocks hK hP hD hS he dX6_changeSetting_29
theorem gm_X6_changeSetting : gMeth yX6_changeSetting cX6_changeSetting 4 (some .int) 2 := ⟨⟨by decide, by decide, by decide +kernel⟩, ini_RX6, co_yX6_changeSetting⟩
abbrev rm_X6_addStar : Room := { frames := 1, cells := 0, slots := 0, locals := 20 }
set_option maxHeartbeats 4000000 in
set_option maxRecDepth 100000 in
theorem c_X6_addStar (l : Launch) (dC : Nat → ClassId) (dI : Nat → Nat → Nat) (P : gP) (ad : Nat → Nat) (tb : Nat → Nat) (b1 : Nat) (hb1 : vb b1) (x1 : Int32) (h0 : Hp) (Q : Int32 → Hp → Prop) (he : F_X6_addStar b1 x1 h0 Q) : Met l yX6_addStar (Cond.code yX6_addStar cX6_addStar 2 (some .int) :: TB) rm_X6_addStar (gPc (dC, dI) vwCl (tyC P) 162 (cE P ad) ad (gKC tb (gA 162 ad)) h0 [.ref (ad b1), .int x1]) (gQi (dC, dI) vwCl (tyC P) 162 (cE P ad) ad Q) 0 0 (gA 162 ad) := by
  refine gx_start (by decide) (Nat.le_of_ble_eq_true rfl) (fun p e s m below meth c ls hx hb0 hr hlocks hml hown hts hK hk hP hD hS hl => ?_)
  have hl : lv_has ls 2 [(0, .ref (ad b1)), (1, .int x1)] := hl
  have hown : s.vm.findClass RX6 = some m.cls := hown
  unfold F_X6_addStar at he
  refine lv_iload_n hx hb0 dX6_addStar_0 rfl (lv_at hl 1 rfl) ?_
  refine gx_sn ⟨hx, hb0, hml, hown, hts⟩ (gKC_keep _ _) hk hK hP hD hS [.int x1] [] (c_X7_isOnEarth l dC dI P ad tb x1 h0 _ he) gm_X7_isOnEarth st_yX7_isOnEarth (hk.1 _ nl_RX6_81) rfl rfl ⟨Nat.le_of_ble_eq_true rfl, Nat.le_of_ble_eq_true rfl⟩ rfl hl.1 rfl (Nat.le_of_ble_eq_true rfl) dX6_addStar_1 ⟨Nat.zero_le _, Nat.zero_le _⟩ (fun r_1 h_2 he H locs hP hD hS => ?_)
  refine lv_if_ne (tgt := 10) hx hb0 dX6_addStar_4 (by decide) (fun c_3 => ?_) (fun c_3 => ?_)
  · have he := he.2 c_3
    refine lv_aload_n hx hb0 dX6_addStar_10 rfl (lv_at hl 0 rfl) ?_
    refine gx_get hx hb0 hts in_RX6 hown hK hP b1 (vb_lt0 hb1) ((cE_0 hb1) _) rfl 1 (by decide) fl_RX6_18 rfl dX6_addStar_11 ?_
    refine gx_get hx hb0 hts in_RX5 hown hK hP (b1 + 2) (vb_lt hb1 (by decide)) ((cE_2 hb1) _) rfl 0 (by decide) fl_RX6_85 rfl dX6_addStar_14 ?_
    refine lv_bipush (v := (8 : Int32)) hx hb0 dX6_addStar_17 (by decide) ?_
    refine lv_icmp_lt (tgt := 25) hx hb0 dX6_addStar_19 (by decide) (fun c_4 => ?_) (fun c_4 => ?_)
    · have he := he.1 c_4
      refine lv_aload_n hx hb0 dX6_addStar_25 rfl (lv_at hl 0 rfl) ?_
      refine gx_get hx hb0 hts in_RX6 hown hK hP b1 (vb_lt0 hb1) ((cE_0 hb1) _) rfl 1 (by decide) fl_RX6_18 rfl dX6_addStar_26 ?_
      refine gx_get hx hb0 hts in_RX5 hown hK hP (b1 + 2) (vb_lt hb1 (by decide)) ((cE_2 hb1) _) rfl 2 (by decide) fl_RX6_88 rfl dX6_addStar_29 ?_
      refine lv_aload_n hx hb0 dX6_addStar_32 rfl (lv_at hl 0 rfl) ?_
      refine gx_get hx hb0 hts in_RX6 hown hK hP b1 (vb_lt0 hb1) ((cE_0 hb1) _) rfl 1 (by decide) fl_RX6_18 rfl dX6_addStar_33 ?_
      refine gx_get hx hb0 hts in_RX5 hown hK hP (b1 + 2) (vb_lt hb1 (by decide)) ((cE_2 hb1) _) rfl 0 (by decide) fl_RX6_85 rfl dX6_addStar_36 ?_
      refine lv_iload_n hx hb0 dX6_addStar_39 rfl (lv_at hl 1 rfl) ?_
      obtain ⟨v_6, he⟩ := he
      refine gx_iast hx hb0 hK hP hD hS (b1 + 3) 0 (vb_lt hb1 (by decide)) (cE_3 hb1) rfl v_6 dX6_addStar_40 (fun h_5 eh_5 H locs hP hD hS => ?_)
      have he := he h_5 eh_5
      refine lv_aload_n hx hb0 dX6_addStar_41 rfl (lv_at hl 0 rfl) ?_
      refine gx_get hx hb0 hts in_RX6 hown hK hP b1 (vb_lt0 hb1) ((cE_0 hb1) _) rfl 1 (by decide) fl_RX6_18 rfl dX6_addStar_42 ?_
      refine lv_dup hx hb0 dX6_addStar_45 rfl ?_
      refine gx_get hx hb0 hts in_RX5 hown hK hP (b1 + 2) (vb_lt hb1 (by decide)) ((cE_2 hb1) _) rfl 0 (by decide) fl_RX6_85 rfl dX6_addStar_46 ?_
      refine lv_iconst (v := (1 : Int32)) hx hb0 dX6_addStar_49 (by decide) ?_
      refine lv_iadd hx hb0 dX6_addStar_50 ?_
      refine gx_put hx hb0 hts in_RX5 tyX5 tyX5_ok nmX5 hown hK hP hD hS (b1 + 2) (vb_lt hb1 (by decide)) (cE_2 hb1) rfl 0 (by decide) fl_RX6_85 rfl (tyX5_ok 0 (by decide)) (Nat.le_of_ble_eq_true rfl) rfl dX6_addStar_51 (fun h_7 eh_7 H locs hP hD hS => ?_)
      have he := he h_7 eh_7
      refine lv_aload_n hx hb0 dX6_addStar_54 rfl (lv_at hl 0 rfl) ?_
      refine gx_get hx hb0 hts in_RX6 hown hK hP b1 (vb_lt0 hb1) ((cE_0 hb1) _) rfl 1 (by decide) fl_RX6_18 rfl dX6_addStar_55 ?_
      refine gx_get hx hb0 hts in_RX5 hown hK hP (b1 + 2) (vb_lt hb1 (by decide)) ((cE_2 hb1) _) rfl 0 (by decide) fl_RX6_85 rfl dX6_addStar_58 ?_
      refine lv_iconst (v := (1 : Int32)) hx hb0 dX6_addStar_61 (by decide) ?_
      refine lv_isub hx hb0 dX6_addStar_62 ?_
      exact gx_iret hx hb0 hr hlocks hK hP hD hS he dX6_addStar_63
    · have he := he.2 c_4
      refine lv_bipush (v := (-4 : Int32)) hx hb0 dX6_addStar_22 (by decide) ?_
      exact gx_iret hx hb0 hr hlocks hK hP hD hS he dX6_addStar_24
  · have he := he.1 c_3
    refine lv_bipush (v := (-2 : Int32)) hx hb0 dX6_addStar_7 (by decide) ?_
    exact gx_iret hx hb0 hr hlocks hK hP hD hS he dX6_addStar_9
theorem gm_X6_addStar : gMeth yX6_addStar cX6_addStar 2 (some .int) 1 := ⟨⟨by decide, by decide, by decide +kernel⟩, ini_RX6, co_yX6_addStar⟩
abbrev rm_X6_turnCloud : Room := { frames := 1, cells := 0, slots := 0, locals := 21 }
set_option maxHeartbeats 4000000 in
set_option maxRecDepth 100000 in
theorem c_X6_turnCloud (l : Launch) (dC : Nat → ClassId) (dI : Nat → Nat → Nat) (P : gP) (ad : Nat → Nat) (tb : Nat → Nat) (b1 : Nat) (hb1 : vb b1) (x1 : Int32) (h0 : Hp) (Q : Int32 → Hp → Prop) (he : F_X6_turnCloud b1 x1 h0 Q) : Met l yX6_turnCloud (Cond.code yX6_turnCloud cX6_turnCloud 2 (some .int) :: TB) rm_X6_turnCloud (gPc (dC, dI) vwCl (tyC P) 162 (cE P ad) ad (gKC tb (gA 162 ad)) h0 [.ref (ad b1), .int x1]) (gQi (dC, dI) vwCl (tyC P) 162 (cE P ad) ad Q) 0 0 (gA 162 ad) := by
  refine gx_start (by decide) (Nat.le_of_ble_eq_true rfl) (fun p e s m below meth c ls hx hb0 hr hlocks hml hown hts hK hk hP hD hS hl => ?_)
  have hl : lv_has ls 2 [(0, .ref (ad b1)), (1, .int x1)] := hl
  have hown : s.vm.findClass RX6 = some m.cls := hown
  unfold F_X6_turnCloud at he
  refine lv_aload_n hx hb0 dX6_turnCloud_0 rfl (lv_at hl 0 rfl) ?_
  refine gx_get hx hb0 hts in_RX6 hown hK hP b1 (vb_lt0 hb1) ((cE_0 hb1) _) rfl 1 (by decide) fl_RX6_18 rfl dX6_turnCloud_1 ?_
  refine lv_iload_n hx hb0 dX6_turnCloud_4 rfl (lv_at hl 1 rfl) ?_
  refine gx_vi ⟨hx, hb0, hml, hown, hts⟩ (gKC_keep _ _) hk hK hP hD hS (b1 + 2) [.int x1] [] (c_X5_hasStar l dC dI P ad tb b1 hb1 x1 h0 _ he) gm_X5_hasStar im_yX5_hasStar se_yX5_hasStar ml_RX6_91 (vb_lt hb1 (by decide)) ((cE_2 hb1) _) rfl rfl rfl ⟨Nat.le_of_ble_eq_true rfl, Nat.le_of_ble_eq_true rfl⟩ rfl hl.1 rfl (Nat.le_of_ble_eq_true rfl) dX6_turnCloud_5 ⟨Nat.zero_le _, Nat.zero_le _⟩ (fun r_1 h_2 he H locs hP hD hS => ?_)
  refine lv_if_ne (tgt := 13) hx hb0 dX6_turnCloud_8 (by decide) (fun c_3 => ?_) (fun c_3 => ?_)
  · have he := he.2 c_3
    refine lv_aload_n hx hb0 dX6_turnCloud_13 rfl (lv_at hl 0 rfl) ?_
    refine gx_get hx hb0 hts in_RX6 hown hK hP b1 (vb_lt0 hb1) ((cE_0 hb1) _) rfl 1 (by decide) fl_RX6_18 rfl dX6_turnCloud_14 ?_
    refine lv_dup hx hb0 dX6_turnCloud_17 rfl ?_
    refine gx_get hx hb0 hts in_RX5 hown hK hP (b1 + 2) (vb_lt hb1 (by decide)) ((cE_2 hb1) _) rfl 1 (by decide) fl_RX6_94 rfl dX6_turnCloud_18 ?_
    refine lv_iconst (v := (1 : Int32)) hx hb0 dX6_turnCloud_21 (by decide) ?_
    refine lv_iload_n hx hb0 dX6_turnCloud_22 rfl (lv_at hl 1 rfl) ?_
    refine lv_ishl hx hb0 dX6_turnCloud_23 ?_
    refine lv_ixor hx hb0 dX6_turnCloud_24 ?_
    refine gx_put hx hb0 hts in_RX5 tyX5 tyX5_ok nmX5 hown hK hP hD hS (b1 + 2) (vb_lt hb1 (by decide)) (cE_2 hb1) rfl 1 (by decide) fl_RX6_94 rfl (tyX5_ok 1 (by decide)) (Nat.le_of_ble_eq_true rfl) rfl dX6_turnCloud_25 (fun h_4 eh_4 H locs hP hD hS => ?_)
    have he := he h_4 eh_4
    refine lv_aload_n hx hb0 dX6_turnCloud_28 rfl (lv_at hl 0 rfl) ?_
    refine gx_get hx hb0 hts in_RX6 hown hK hP b1 (vb_lt0 hb1) ((cE_0 hb1) _) rfl 1 (by decide) fl_RX6_18 rfl dX6_turnCloud_29 ?_
    refine lv_iload_n hx hb0 dX6_turnCloud_32 rfl (lv_at hl 1 rfl) ?_
    refine gx_vi ⟨hx, hb0, hml, hown, hts⟩ (gKC_keep _ _) hk hK hP hD hS (b1 + 2) [.int x1] [] (c_X5_cloudBefore l dC dI P ad tb b1 hb1 x1 h_4 _ he) gm_X5_cloudBefore im_yX5_cloudBefore se_yX5_cloudBefore ml_RX6_97 (vb_lt hb1 (by decide)) ((cE_2 hb1) _) rfl rfl rfl ⟨Nat.le_of_ble_eq_true rfl, Nat.le_of_ble_eq_true rfl⟩ rfl hl.1 rfl (Nat.le_of_ble_eq_true rfl) dX6_turnCloud_33 ⟨Nat.zero_le _, Nat.zero_le _⟩ (fun r_5 h_6 he H locs hP hD hS => ?_)
    exact gx_iret hx hb0 hr hlocks hK hP hD hS he dX6_turnCloud_36
  · have he := he.1 c_3
    refine lv_iconst (v := (-1 : Int32)) hx hb0 dX6_turnCloud_11 (by decide) ?_
    exact gx_iret hx hb0 hr hlocks hK hP hD hS he dX6_turnCloud_12
theorem gm_X6_turnCloud : gMeth yX6_turnCloud cX6_turnCloud 2 (some .int) 1 := ⟨⟨by decide, by decide, by decide +kernel⟩, ini_RX6, co_yX6_turnCloud⟩
abbrev rm_X6_changeNavigator : Room := { frames := 1, cells := 0, slots := 0, locals := 20 }
set_option maxHeartbeats 4000000 in
set_option maxRecDepth 100000 in
theorem c_X6_changeNavigator (l : Launch) (dC : Nat → ClassId) (dI : Nat → Nat → Nat) (P : gP) (ad : Nat → Nat) (tb : Nat → Nat) (b1 : Nat) (hb1 : vb b1) (x1 : Int32) (x2 : Int32) (x3 : Int32) (h0 : Hp) (Q : Int32 → Hp → Prop) (he : F_X6_changeNavigator b1 x1 x2 x3 h0 Q) : Met l yX6_changeNavigator (Cond.code yX6_changeNavigator cX6_changeNavigator 6 (some .int) :: TB) rm_X6_changeNavigator (gPc (dC, dI) vwCl (tyC P) 162 (cE P ad) ad (gKC tb (gA 162 ad)) h0 [.ref (ad b1), .int x1, .int x2, .int x3]) (gQi (dC, dI) vwCl (tyC P) 162 (cE P ad) ad Q) 0 0 (gA 162 ad) := by
  refine gx_start (by decide) (Nat.le_of_ble_eq_true rfl) (fun p e s m below meth c ls hx hb0 hr hlocks hml hown hts hK hk hP hD hS hl => ?_)
  have hl : lv_has ls 6 [(0, .ref (ad b1)), (1, .int x1), (2, .int x2), (3, .int x3)] := hl
  have hown : s.vm.findClass RX6 = some m.cls := hown
  unfold F_X6_changeNavigator at he
  refine lv_iload_n hx hb0 dX6_changeNavigator_0 rfl (lv_at hl 1 rfl) ?_
  refine gx_sn ⟨hx, hb0, hml, hown, hts⟩ (gKC_keep _ _) hk hK hP hD hS [.int x1] [] (c_X7_isNavigator l dC dI P ad tb x1 h0 _ he) gm_X7_isNavigator st_yX7_isNavigator (hk.1 _ nl_RX6_101) rfl rfl ⟨Nat.le_of_ble_eq_true rfl, Nat.le_of_ble_eq_true rfl⟩ rfl hl.1 rfl (Nat.le_of_ble_eq_true rfl) dX6_changeNavigator_1 ⟨Nat.zero_le _, Nat.zero_le _⟩ (fun r_1 h_2 he H locs hP hD hS => ?_)
  refine lv_if_ne (tgt := 9) hx hb0 dX6_changeNavigator_4 (by decide) (fun c_3 => ?_) (fun c_3 => ?_)
  · have he := he.2 c_3
    refine lv_iload_n hx hb0 dX6_changeNavigator_9 rfl (lv_at hl 2 rfl) ?_
    refine lv_if_lt (tgt := 36) hx hb0 dX6_changeNavigator_10 (by decide) (fun c_4 => ?_) (fun c_4 => ?_)
    · have he := he.1 c_4
      refine lv_bipush (v := (-2 : Int32)) hx hb0 dX6_changeNavigator_36 (by decide) ?_
      exact gx_iret hx hb0 hr hlocks hK hP hD hS he dX6_changeNavigator_38
    · have he := he.2 c_4
      refine lv_iload_n hx hb0 dX6_changeNavigator_13 rfl (lv_at hl 2 rfl) ?_
      refine lv_iconst (v := (3 : Int32)) hx hb0 dX6_changeNavigator_14 (by decide) ?_
      refine lv_icmp_ge (tgt := 36) hx hb0 dX6_changeNavigator_15 (by decide) (fun c_5 => ?_) (fun c_5 => ?_)
      · have he := he.1 c_5
        refine lv_bipush (v := (-2 : Int32)) hx hb0 dX6_changeNavigator_36 (by decide) ?_
        exact gx_iret hx hb0 hr hlocks hK hP hD hS he dX6_changeNavigator_38
      · have he := he.2 c_5
        refine lv_iload_n hx hb0 dX6_changeNavigator_18 rfl (lv_at hl 3 rfl) ?_
        refine va_gets hx hb0 hk.2.2.2.2.1.1 hS hown (hts _ fl_RX6_104) (fun _ z => z) dX6_changeNavigator_19 ?_
        refine lv_iload_n hx hb0 dX6_changeNavigator_22 rfl (lv_at hl 2 rfl) ?_
        obtain ⟨v_6, he⟩ := he
        refine va_ti hx hb0 hk.2.2.2.2.1.2 hS v_6 rfl dX6_changeNavigator_23 ?_
        refine lv_icmp_lt (tgt := 36) hx hb0 dX6_changeNavigator_24 (by decide) (fun c_7 => ?_) (fun c_7 => ?_)
        · have he := he.1 c_7
          refine lv_bipush (v := (-2 : Int32)) hx hb0 dX6_changeNavigator_36 (by decide) ?_
          exact gx_iret hx hb0 hr hlocks hK hP hD hS he dX6_changeNavigator_38
        · have he := he.2 c_7
          refine lv_iload_n hx hb0 dX6_changeNavigator_27 rfl (lv_at hl 3 rfl) ?_
          refine va_gets hx hb0 hk.2.2.2.2.2.1 hS hown (hts _ fl_RX6_107) (fun _ z => z) dX6_changeNavigator_28 ?_
          refine lv_iload_n hx hb0 dX6_changeNavigator_31 rfl (lv_at hl 2 rfl) ?_
          obtain ⟨v_8, he⟩ := he
          refine va_ti hx hb0 hk.2.2.2.2.2.2 hS v_8 rfl dX6_changeNavigator_32 ?_
          refine lv_icmp_le (tgt := 39) hx hb0 dX6_changeNavigator_33 (by decide) (fun c_9 => ?_) (fun c_9 => ?_)
          · have he := he.1 c_9
            refine lv_iload_n hx hb0 dX6_changeNavigator_39 rfl (lv_at hl 2 rfl) ?_
            refine lv_if_ne (tgt := 53) hx hb0 dX6_changeNavigator_40 (by decide) (fun c_10 => ?_) (fun c_10 => ?_)
            · have he := he.2 c_10
              refine lv_iload_n hx hb0 dX6_changeNavigator_53 rfl (lv_at hl 2 rfl) ?_
              refine lv_iconst (v := (1 : Int32)) hx hb0 dX6_changeNavigator_54 (by decide) ?_
              refine lv_icmp_ne (tgt := 68) hx hb0 dX6_changeNavigator_55 (by decide) (fun c_11 => ?_) (fun c_11 => ?_)
              · have he := he.2 c_11
                refine lv_aload_n hx hb0 dX6_changeNavigator_68 rfl (lv_at hl 0 rfl) ?_
                refine gx_get hx hb0 hts in_RX6 hown hK hP b1 (vb_lt0 hb1) ((cE_0 hb1) _) rfl 2 (by decide) fl_RX6_25 rfl dX6_changeNavigator_69 ?_
                refine gx_get hx hb0 hts in_RX1 hown hK hP (b1 + 4) (vb_lt hb1 (by decide)) ((cE_4 hb1) _) rfl 2 (by decide) fl_RX6_116 rfl dX6_changeNavigator_72 ?_
                refine lv_astore (lv' := [(4, .ref (ad (b1 + 7))), (0, .ref (ad b1)), (1, .int x1), (2, .int x2), (3, .int x3)]) hx hb0 dX6_changeNavigator_75 hl (by decide) rfl (fun ls hl => ?_)
                refine lv_aload hx hb0 dX6_changeNavigator_77 (lv_at hl 0 rfl) ?_
                refine lv_iload_n hx hb0 dX6_changeNavigator_79 rfl (lv_at hl 2 rfl) ?_
                obtain ⟨v_12, he⟩ := he
                refine gx_iald hx hb0 hK hP (b1 + 7) 0 (vb_lt hb1 (by decide)) (cE_7 hb1) rfl v_12 dX6_changeNavigator_80 ?_
                refine lv_topi (fun x_13 ex_13 => ?_)
                have he := he x_13 ex_13
                refine lv_istore (lv' := [(5, .int x_13), (4, .ref (ad (b1 + 7))), (0, .ref (ad b1)), (1, .int x1), (2, .int x2), (3, .int x3)]) hx hb0 dX6_changeNavigator_81 hl (by decide) rfl (fun ls hl => ?_)
                refine lv_aload hx hb0 dX6_changeNavigator_83 (lv_at hl 1 rfl) ?_
                refine lv_iload_n hx hb0 dX6_changeNavigator_85 rfl (lv_at hl 3 rfl) ?_
                refine lv_iload_n hx hb0 dX6_changeNavigator_86 rfl (lv_at hl 5 rfl) ?_
                obtain ⟨v_15, he⟩ := he
                refine gx_iast hx hb0 hK hP hD hS (b1 + 7) 0 (vb_lt hb1 (by decide)) (cE_7 hb1) rfl v_15 dX6_changeNavigator_87 (fun h_14 eh_14 H locs hP hD hS => ?_)
                have he := he h_14 eh_14
                refine lv_iload hx hb0 dX6_changeNavigator_88 (lv_at hl 0 rfl) ?_
                refine lv_bipush (v := (60 : Int32)) hx hb0 dX6_changeNavigator_90 (by decide) ?_
                refine lv_iadd hx hb0 dX6_changeNavigator_92 ?_
                exact gx_iret hx hb0 hr hlocks hK hP hD hS he dX6_changeNavigator_93
              · have he := he.1 c_11
                refine lv_aload_n hx hb0 dX6_changeNavigator_58 rfl (lv_at hl 0 rfl) ?_
                refine gx_get hx hb0 hts in_RX6 hown hK hP b1 (vb_lt0 hb1) ((cE_0 hb1) _) rfl 2 (by decide) fl_RX6_25 rfl dX6_changeNavigator_59 ?_
                refine gx_get hx hb0 hts in_RX1 hown hK hP (b1 + 4) (vb_lt hb1 (by decide)) ((cE_4 hb1) _) rfl 1 (by decide) fl_RX6_113 rfl dX6_changeNavigator_62 ?_
                refine lv_goto (tgt := 75) hx hb0 dX6_changeNavigator_65 (by decide) ?_
                refine lv_astore (lv' := [(4, .ref (ad (b1 + 6))), (0, .ref (ad b1)), (1, .int x1), (2, .int x2), (3, .int x3)]) hx hb0 dX6_changeNavigator_75 hl (by decide) rfl (fun ls hl => ?_)
                refine lv_aload hx hb0 dX6_changeNavigator_77 (lv_at hl 0 rfl) ?_
                refine lv_iload_n hx hb0 dX6_changeNavigator_79 rfl (lv_at hl 2 rfl) ?_
                obtain ⟨v_16, he⟩ := he
                refine gx_iald hx hb0 hK hP (b1 + 6) 0 (vb_lt hb1 (by decide)) (cE_6 hb1) rfl v_16 dX6_changeNavigator_80 ?_
                refine lv_topi (fun x_17 ex_17 => ?_)
                have he := he x_17 ex_17
                refine lv_istore (lv' := [(5, .int x_17), (4, .ref (ad (b1 + 6))), (0, .ref (ad b1)), (1, .int x1), (2, .int x2), (3, .int x3)]) hx hb0 dX6_changeNavigator_81 hl (by decide) rfl (fun ls hl => ?_)
                refine lv_aload hx hb0 dX6_changeNavigator_83 (lv_at hl 1 rfl) ?_
                refine lv_iload_n hx hb0 dX6_changeNavigator_85 rfl (lv_at hl 3 rfl) ?_
                refine lv_iload_n hx hb0 dX6_changeNavigator_86 rfl (lv_at hl 5 rfl) ?_
                obtain ⟨v_19, he⟩ := he
                refine gx_iast hx hb0 hK hP hD hS (b1 + 6) 0 (vb_lt hb1 (by decide)) (cE_6 hb1) rfl v_19 dX6_changeNavigator_87 (fun h_18 eh_18 H locs hP hD hS => ?_)
                have he := he h_18 eh_18
                refine lv_iload hx hb0 dX6_changeNavigator_88 (lv_at hl 0 rfl) ?_
                refine lv_bipush (v := (60 : Int32)) hx hb0 dX6_changeNavigator_90 (by decide) ?_
                refine lv_iadd hx hb0 dX6_changeNavigator_92 ?_
                exact gx_iret hx hb0 hr hlocks hK hP hD hS he dX6_changeNavigator_93
            · have he := he.1 c_10
              refine lv_aload_n hx hb0 dX6_changeNavigator_43 rfl (lv_at hl 0 rfl) ?_
              refine gx_get hx hb0 hts in_RX6 hown hK hP b1 (vb_lt0 hb1) ((cE_0 hb1) _) rfl 2 (by decide) fl_RX6_25 rfl dX6_changeNavigator_44 ?_
              refine gx_get hx hb0 hts in_RX1 hown hK hP (b1 + 4) (vb_lt hb1 (by decide)) ((cE_4 hb1) _) rfl 0 (by decide) fl_RX6_110 rfl dX6_changeNavigator_47 ?_
              refine lv_goto (tgt := 75) hx hb0 dX6_changeNavigator_50 (by decide) ?_
              refine lv_astore (lv' := [(4, .ref (ad (b1 + 5))), (0, .ref (ad b1)), (1, .int x1), (2, .int x2), (3, .int x3)]) hx hb0 dX6_changeNavigator_75 hl (by decide) rfl (fun ls hl => ?_)
              refine lv_aload hx hb0 dX6_changeNavigator_77 (lv_at hl 0 rfl) ?_
              refine lv_iload_n hx hb0 dX6_changeNavigator_79 rfl (lv_at hl 2 rfl) ?_
              obtain ⟨v_20, he⟩ := he
              refine gx_iald hx hb0 hK hP (b1 + 5) 0 (vb_lt hb1 (by decide)) (cE_5 hb1) rfl v_20 dX6_changeNavigator_80 ?_
              refine lv_topi (fun x_21 ex_21 => ?_)
              have he := he x_21 ex_21
              refine lv_istore (lv' := [(5, .int x_21), (4, .ref (ad (b1 + 5))), (0, .ref (ad b1)), (1, .int x1), (2, .int x2), (3, .int x3)]) hx hb0 dX6_changeNavigator_81 hl (by decide) rfl (fun ls hl => ?_)
              refine lv_aload hx hb0 dX6_changeNavigator_83 (lv_at hl 1 rfl) ?_
              refine lv_iload_n hx hb0 dX6_changeNavigator_85 rfl (lv_at hl 3 rfl) ?_
              refine lv_iload_n hx hb0 dX6_changeNavigator_86 rfl (lv_at hl 5 rfl) ?_
              obtain ⟨v_23, he⟩ := he
              refine gx_iast hx hb0 hK hP hD hS (b1 + 5) 0 (vb_lt hb1 (by decide)) (cE_5 hb1) rfl v_23 dX6_changeNavigator_87 (fun h_22 eh_22 H locs hP hD hS => ?_)
              have he := he h_22 eh_22
              refine lv_iload hx hb0 dX6_changeNavigator_88 (lv_at hl 0 rfl) ?_
              refine lv_bipush (v := (60 : Int32)) hx hb0 dX6_changeNavigator_90 (by decide) ?_
              refine lv_iadd hx hb0 dX6_changeNavigator_92 ?_
              exact gx_iret hx hb0 hr hlocks hK hP hD hS he dX6_changeNavigator_93
          · have he := he.2 c_9
            refine lv_bipush (v := (-2 : Int32)) hx hb0 dX6_changeNavigator_36 (by decide) ?_
            exact gx_iret hx hb0 hr hlocks hK hP hD hS he dX6_changeNavigator_38
  · have he := he.1 c_3
    refine lv_iconst (v := (-1 : Int32)) hx hb0 dX6_changeNavigator_7 (by decide) ?_
    exact gx_iret hx hb0 hr hlocks hK hP hD hS he dX6_changeNavigator_8
theorem gm_X6_changeNavigator : gMeth yX6_changeNavigator cX6_changeNavigator 6 (some .int) 3 := ⟨⟨by decide, by decide, by decide +kernel⟩, ini_RX6, co_yX6_changeNavigator⟩
abbrev rm_X6_turnSleep : Room := { frames := 1, cells := 0, slots := 0, locals := 20 }
set_option maxHeartbeats 4000000 in
set_option maxRecDepth 100000 in
theorem c_X6_turnSleep (l : Launch) (dC : Nat → ClassId) (dI : Nat → Nat → Nat) (P : gP) (ad : Nat → Nat) (tb : Nat → Nat) (b1 : Nat) (hb1 : vb b1) (x1 : Int32) (h0 : Hp) (Q : Int32 → Hp → Prop) (he : F_X6_turnSleep b1 x1 h0 Q) : Met l yX6_turnSleep (Cond.code yX6_turnSleep cX6_turnSleep 2 (some .int) :: TB) rm_X6_turnSleep (gPc (dC, dI) vwCl (tyC P) 162 (cE P ad) ad (gKC tb (gA 162 ad)) h0 [.ref (ad b1), .int x1]) (gQi (dC, dI) vwCl (tyC P) 162 (cE P ad) ad Q) 0 0 (gA 162 ad) := by
  refine gx_start (by decide) (Nat.le_of_ble_eq_true rfl) (fun p e s m below meth c ls hx hb0 hr hlocks hml hown hts hK hk hP hD hS hl => ?_)
  have hl : lv_has ls 2 [(0, .ref (ad b1)), (1, .int x1)] := hl
  have hown : s.vm.findClass RX6 = some m.cls := hown
  unfold F_X6_turnSleep at he
  refine lv_iload_n hx hb0 dX6_turnSleep_0 rfl (lv_at hl 1 rfl) ?_
  refine gx_sn ⟨hx, hb0, hml, hown, hts⟩ (gKC_keep _ _) hk hK hP hD hS [.int x1] [] (c_X7_isNavigator l dC dI P ad tb x1 h0 _ he) gm_X7_isNavigator st_yX7_isNavigator (hk.1 _ nl_RX6_101) rfl rfl ⟨Nat.le_of_ble_eq_true rfl, Nat.le_of_ble_eq_true rfl⟩ rfl hl.1 rfl (Nat.le_of_ble_eq_true rfl) dX6_turnSleep_1 ⟨Nat.zero_le _, Nat.zero_le _⟩ (fun r_1 h_2 he H locs hP hD hS => ?_)
  refine lv_if_ne (tgt := 9) hx hb0 dX6_turnSleep_4 (by decide) (fun c_3 => ?_) (fun c_3 => ?_)
  · have he := he.2 c_3
    refine lv_aload_n hx hb0 dX6_turnSleep_9 rfl (lv_at hl 0 rfl) ?_
    refine gx_get hx hb0 hts in_RX6 hown hK hP b1 (vb_lt0 hb1) ((cE_0 hb1) _) rfl 2 (by decide) fl_RX6_25 rfl dX6_turnSleep_10 ?_
    refine gx_get hx hb0 hts in_RX1 hown hK hP (b1 + 4) (vb_lt hb1 (by decide)) ((cE_4 hb1) _) rfl 6 (by decide) fl_RX6_119 rfl dX6_turnSleep_13 ?_
    refine lv_iload_n hx hb0 dX6_turnSleep_16 rfl (lv_at hl 1 rfl) ?_
    obtain ⟨v_4, he⟩ := he
    refine gx_iald hx hb0 hK hP (b1 + 11) 0 (vb_lt hb1 (by decide)) (cE_11 hb1) rfl v_4 dX6_turnSleep_17 ?_
    refine lv_iconst (v := (2 : Int32)) hx hb0 dX6_turnSleep_18 (by decide) ?_
    refine lv_icmp_ne (tgt := 25) hx hb0 dX6_turnSleep_19 (by decide) (fun c_5 => ?_) (fun c_5 => ?_)
    · have he := he.2 c_5
      refine lv_aload_n hx hb0 dX6_turnSleep_25 rfl (lv_at hl 0 rfl) ?_
      refine gx_get hx hb0 hts in_RX6 hown hK hP b1 (vb_lt0 hb1) ((cE_0 hb1) _) rfl 2 (by decide) fl_RX6_25 rfl dX6_turnSleep_26 ?_
      refine gx_get hx hb0 hts in_RX1 hown hK hP (b1 + 4) (vb_lt hb1 (by decide)) ((cE_4 hb1) _) rfl 6 (by decide) fl_RX6_119 rfl dX6_turnSleep_29 ?_
      refine lv_iload_n hx hb0 dX6_turnSleep_32 rfl (lv_at hl 1 rfl) ?_
      refine lv_aload_n hx hb0 dX6_turnSleep_33 rfl (lv_at hl 0 rfl) ?_
      refine gx_get hx hb0 hts in_RX6 hown hK hP b1 (vb_lt0 hb1) ((cE_0 hb1) _) rfl 2 (by decide) fl_RX6_25 rfl dX6_turnSleep_34 ?_
      refine gx_get hx hb0 hts in_RX1 hown hK hP (b1 + 4) (vb_lt hb1 (by decide)) ((cE_4 hb1) _) rfl 6 (by decide) fl_RX6_119 rfl dX6_turnSleep_37 ?_
      refine lv_iload_n hx hb0 dX6_turnSleep_40 rfl (lv_at hl 1 rfl) ?_
      obtain ⟨v_6, he⟩ := he
      refine gx_iald hx hb0 hK hP (b1 + 11) 0 (vb_lt hb1 (by decide)) (cE_11 hb1) rfl v_6 dX6_turnSleep_41 ?_
      refine lv_iconst (v := (1 : Int32)) hx hb0 dX6_turnSleep_42 (by decide) ?_
      refine lv_icmp_ne (tgt := 50) hx hb0 dX6_turnSleep_43 (by decide) (fun c_7 => ?_) (fun c_7 => ?_)
      · have he := he.2 c_7
        refine lv_iconst (v := (1 : Int32)) hx hb0 dX6_turnSleep_50 (by decide) ?_
        obtain ⟨v_9, he⟩ := he
        refine gx_iast hx hb0 hK hP hD hS (b1 + 11) 0 (vb_lt hb1 (by decide)) (cE_11 hb1) rfl v_9 dX6_turnSleep_51 (fun h_8 eh_8 H locs hP hD hS => ?_)
        have he := he h_8 eh_8
        refine lv_aload_n hx hb0 dX6_turnSleep_52 rfl (lv_at hl 0 rfl) ?_
        refine gx_get hx hb0 hts in_RX6 hown hK hP b1 (vb_lt0 hb1) ((cE_0 hb1) _) rfl 2 (by decide) fl_RX6_25 rfl dX6_turnSleep_53 ?_
        refine gx_get hx hb0 hts in_RX1 hown hK hP (b1 + 4) (vb_lt hb1 (by decide)) ((cE_4 hb1) _) rfl 6 (by decide) fl_RX6_119 rfl dX6_turnSleep_56 ?_
        refine lv_iload_n hx hb0 dX6_turnSleep_59 rfl (lv_at hl 1 rfl) ?_
        obtain ⟨v_10, he⟩ := he
        refine gx_iald hx hb0 hK hP (b1 + 11) 0 (vb_lt hb1 (by decide)) (cE_11 hb1) rfl v_10 dX6_turnSleep_60 ?_
        refine lv_iconst (v := (1 : Int32)) hx hb0 dX6_turnSleep_61 (by decide) ?_
        refine lv_icmp_ne (tgt := 69) hx hb0 dX6_turnSleep_62 (by decide) (fun c_11 => ?_) (fun c_11 => ?_)
        · have he := he.2 c_11
          refine lv_iconst (v := (0 : Int32)) hx hb0 dX6_turnSleep_69 (by decide) ?_
          exact gx_iret hx hb0 hr hlocks hK hP hD hS he dX6_turnSleep_70
        · have he := he.1 c_11
          refine lv_iconst (v := (1 : Int32)) hx hb0 dX6_turnSleep_65 (by decide) ?_
          refine lv_goto (tgt := 70) hx hb0 dX6_turnSleep_66 (by decide) ?_
          exact gx_iret hx hb0 hr hlocks hK hP hD hS he dX6_turnSleep_70
      · have he := he.1 c_7
        refine lv_iconst (v := (0 : Int32)) hx hb0 dX6_turnSleep_46 (by decide) ?_
        refine lv_goto (tgt := 51) hx hb0 dX6_turnSleep_47 (by decide) ?_
        obtain ⟨v_13, he⟩ := he
        refine gx_iast hx hb0 hK hP hD hS (b1 + 11) 0 (vb_lt hb1 (by decide)) (cE_11 hb1) rfl v_13 dX6_turnSleep_51 (fun h_12 eh_12 H locs hP hD hS => ?_)
        have he := he h_12 eh_12
        refine lv_aload_n hx hb0 dX6_turnSleep_52 rfl (lv_at hl 0 rfl) ?_
        refine gx_get hx hb0 hts in_RX6 hown hK hP b1 (vb_lt0 hb1) ((cE_0 hb1) _) rfl 2 (by decide) fl_RX6_25 rfl dX6_turnSleep_53 ?_
        refine gx_get hx hb0 hts in_RX1 hown hK hP (b1 + 4) (vb_lt hb1 (by decide)) ((cE_4 hb1) _) rfl 6 (by decide) fl_RX6_119 rfl dX6_turnSleep_56 ?_
        refine lv_iload_n hx hb0 dX6_turnSleep_59 rfl (lv_at hl 1 rfl) ?_
        obtain ⟨v_14, he⟩ := he
        refine gx_iald hx hb0 hK hP (b1 + 11) 0 (vb_lt hb1 (by decide)) (cE_11 hb1) rfl v_14 dX6_turnSleep_60 ?_
        refine lv_iconst (v := (1 : Int32)) hx hb0 dX6_turnSleep_61 (by decide) ?_
        refine lv_icmp_ne (tgt := 69) hx hb0 dX6_turnSleep_62 (by decide) (fun c_15 => ?_) (fun c_15 => ?_)
        · have he := he.2 c_15
          refine lv_iconst (v := (0 : Int32)) hx hb0 dX6_turnSleep_69 (by decide) ?_
          exact gx_iret hx hb0 hr hlocks hK hP hD hS he dX6_turnSleep_70
        · have he := he.1 c_15
          refine lv_iconst (v := (1 : Int32)) hx hb0 dX6_turnSleep_65 (by decide) ?_
          refine lv_goto (tgt := 70) hx hb0 dX6_turnSleep_66 (by decide) ?_
          exact gx_iret hx hb0 hr hlocks hK hP hD hS he dX6_turnSleep_70
    · have he := he.1 c_5
      refine lv_bipush (v := (-5 : Int32)) hx hb0 dX6_turnSleep_22 (by decide) ?_
      exact gx_iret hx hb0 hr hlocks hK hP hD hS he dX6_turnSleep_24
  · have he := he.1 c_3
    refine lv_iconst (v := (-1 : Int32)) hx hb0 dX6_turnSleep_7 (by decide) ?_
    exact gx_iret hx hb0 hr hlocks hK hP hD hS he dX6_turnSleep_8
theorem gm_X6_turnSleep : gMeth yX6_turnSleep cX6_turnSleep 2 (some .int) 1 := ⟨⟨by decide, by decide, by decide +kernel⟩, ini_RX6, co_yX6_turnSleep⟩
abbrev rm_X6_changeGoal : Room := { frames := 1, cells := 0, slots := 0, locals := 20 }
set_option maxHeartbeats 4000000 in
set_option maxRecDepth 100000 in
theorem c_X6_changeGoal (l : Launch) (dC : Nat → ClassId) (dI : Nat → Nat → Nat) (P : gP) (ad : Nat → Nat) (tb : Nat → Nat) (b1 : Nat) (hb1 : vb b1) (x1 : Int32) (h0 : Hp) (Q : Int32 → Hp → Prop) (he : F_X6_changeGoal b1 x1 h0 Q) : Met l yX6_changeGoal (Cond.code yX6_changeGoal cX6_changeGoal 3 (some .int) :: TB) rm_X6_changeGoal (gPc (dC, dI) vwCl (tyC P) 162 (cE P ad) ad (gKC tb (gA 162 ad)) h0 [.ref (ad b1), .int x1]) (gQi (dC, dI) vwCl (tyC P) 162 (cE P ad) ad Q) 0 0 (gA 162 ad) := by
  refine gx_start (by decide) (Nat.le_of_ble_eq_true rfl) (fun p e s m below meth c ls hx hb0 hr hlocks hml hown hts hK hk hP hD hS hl => ?_)
  have hl : lv_has ls 3 [(0, .ref (ad b1)), (1, .int x1)] := hl
  have hown : s.vm.findClass RX6 = some m.cls := hown
  unfold F_X6_changeGoal at he
  refine lv_iload_n hx hb0 dX6_changeGoal_0 rfl (lv_at hl 1 rfl) ?_
  refine gx_sn ⟨hx, hb0, hml, hown, hts⟩ (gKC_keep _ _) hk hK hP hD hS [.int x1] [] (c_X7_isOnEarth l dC dI P ad tb x1 h0 _ he) gm_X7_isOnEarth st_yX7_isOnEarth (hk.1 _ nl_RX6_81) rfl rfl ⟨Nat.le_of_ble_eq_true rfl, Nat.le_of_ble_eq_true rfl⟩ rfl hl.1 rfl (Nat.le_of_ble_eq_true rfl) dX6_changeGoal_1 ⟨Nat.zero_le _, Nat.zero_le _⟩ (fun r_1 h_2 he H locs hP hD hS => ?_)
  refine lv_if_ne (tgt := 10) hx hb0 dX6_changeGoal_4 (by decide) (fun c_3 => ?_) (fun c_3 => ?_)
  · have he := he.2 c_3
    refine lv_aload_n hx hb0 dX6_changeGoal_10 rfl (lv_at hl 0 rfl) ?_
    refine gx_get hx hb0 hts in_RX6 hown hK hP b1 (vb_lt0 hb1) ((cE_0 hb1) _) rfl 3 (by decide) fl_RX6_32 rfl dX6_changeGoal_11 ?_
    refine gx_get hx hb0 hts in_RX0 hown hK hP (b1 + 12) (crs_lt (isCrs_v hb1)) ((cE_crs (isCrs_v hb1)) _) rfl 2 (by decide) fl_RX6_122 rfl dX6_changeGoal_14 ?_
    refine lv_topi (fun x_4 ex_4 => ?_)
    have he := he x_4 ex_4
    refine lv_istore_n (lv' := [(2, .int x_4), (0, .ref (ad b1)), (1, .int x1)]) hx hb0 dX6_changeGoal_17 rfl hl (by decide) rfl (fun ls hl => ?_)
    refine lv_aload_n hx hb0 dX6_changeGoal_18 rfl (lv_at hl 1 rfl) ?_
    refine gx_get hx hb0 hts in_RX6 hown hK hP b1 (vb_lt0 hb1) ((cE_0 hb1) _) rfl 3 (by decide) fl_RX6_32 rfl dX6_changeGoal_19 ?_
    refine lv_iload_n hx hb0 dX6_changeGoal_22 rfl (lv_at hl 2 rfl) ?_
    refine gx_put hx hb0 hts in_RX0 tyX0 tyX0_ok nmX0 hown hK hP hD hS (b1 + 12) (crs_lt (isCrs_v hb1)) (cE_crs (isCrs_v hb1)) rfl 2 (by decide) fl_RX6_122 rfl (tyX0_ok 2 (by decide)) (Nat.le_of_ble_eq_true rfl) rfl dX6_changeGoal_23 (fun h_5 eh_5 H locs hP hD hS => ?_)
    have he := he h_5 eh_5
    refine lv_iload_n hx hb0 dX6_changeGoal_26 rfl (lv_at hl 0 rfl) ?_
    refine lv_sipush (v := (5400 : Int32)) hx hb0 dX6_changeGoal_27 (by decide) ?_
    refine lv_iadd hx hb0 dX6_changeGoal_30 ?_
    exact gx_iret hx hb0 hr hlocks hK hP hD hS he dX6_changeGoal_31
  · have he := he.1 c_3
    refine lv_bipush (v := (-2 : Int32)) hx hb0 dX6_changeGoal_7 (by decide) ?_
    exact gx_iret hx hb0 hr hlocks hK hP hD hS he dX6_changeGoal_9
theorem gm_X6_changeGoal : gMeth yX6_changeGoal cX6_changeGoal 3 (some .int) 1 := ⟨⟨by decide, by decide, by decide +kernel⟩, ini_RX6, co_yX6_changeGoal⟩
abbrev rm_X6_heightOf : Room := { frames := 1, cells := 0, slots := 0, locals := 14 }
set_option maxHeartbeats 4000000 in
set_option maxRecDepth 100000 in
theorem c_X6_heightOf (l : Launch) (dC : Nat → ClassId) (dI : Nat → Nat → Nat) (P : gP) (ad : Nat → Nat) (tb : Nat → Nat) (b1 : Nat) (hb1 : vb b1) (x1 : Int32) (h0 : Hp) (Q : Int32 → Hp → Prop) (he : F_X6_heightOf b1 x1 h0 Q) : Met l yX6_heightOf (Cond.code yX6_heightOf cX6_heightOf 2 (some .int) :: TB) rm_X6_heightOf (gPc (dC, dI) vwCl (tyC P) 162 (cE P ad) ad (gKC tb (gA 162 ad)) h0 [.ref (ad b1), .int x1]) (gQi (dC, dI) vwCl (tyC P) 162 (cE P ad) ad Q) 0 0 (gA 162 ad) := by
  refine gx_start (by decide) (Nat.le_of_ble_eq_true rfl) (fun p e s m below meth c ls hx hb0 hr hlocks hml hown hts hK hk hP hD hS hl => ?_)
  have hl : lv_has ls 2 [(0, .ref (ad b1)), (1, .int x1)] := hl
  have hown : s.vm.findClass RX6 = some m.cls := hown
  unfold F_X6_heightOf at he
  refine lv_sipush (v := (5400 : Int32)) hx hb0 dX6_heightOf_0 (by decide) ?_
  refine lv_aload_n hx hb0 dX6_heightOf_3 rfl (lv_at hl 0 rfl) ?_
  refine gx_get hx hb0 hts in_RX6 hown hK hP b1 (vb_lt0 hb1) ((cE_0 hb1) _) rfl 1 (by decide) fl_RX6_18 rfl dX6_heightOf_4 ?_
  refine gx_get hx hb0 hts in_RX5 hown hK hP (b1 + 2) (vb_lt hb1 (by decide)) ((cE_2 hb1) _) rfl 2 (by decide) fl_RX6_88 rfl dX6_heightOf_7 ?_
  refine lv_iload_n hx hb0 dX6_heightOf_10 rfl (lv_at hl 1 rfl) ?_
  obtain ⟨v_1, he⟩ := he
  refine gx_iald hx hb0 hK hP (b1 + 3) 0 (vb_lt hb1 (by decide)) (cE_3 hb1) rfl v_1 dX6_heightOf_11 ?_
  refine lv_aload_n hx hb0 dX6_heightOf_12 rfl (lv_at hl 0 rfl) ?_
  refine gx_get hx hb0 hts in_RX6 hown hK hP b1 (vb_lt0 hb1) ((cE_0 hb1) _) rfl 3 (by decide) fl_RX6_32 rfl dX6_heightOf_13 ?_
  refine gx_get hx hb0 hts in_RX0 hown hK hP (b1 + 12) (crs_lt (isCrs_v hb1)) ((cE_crs (isCrs_v hb1)) _) rfl 0 (by decide) fl_RX6_155 rfl dX6_heightOf_16 ?_
  refine lv_isub hx hb0 dX6_heightOf_19 ?_
  refine va_mabs hx hb0 (hml.trans hl.1.symm) hown (hts _ ml_RX6_147) (hts _ st_Lib_Math_abs_name) (hts _ ini_RJ9) (hts _ co_Lib_Math_abs_name) (Nat.le_of_ble_eq_true rfl) (Nat.le_of_ble_eq_true rfl) (Nat.zero_le _) (Nat.zero_le _) dX6_heightOf_20 ?_
  refine lv_topi (fun x_2 ex_2 => ?_)
  have he := he x_2 ex_2
  refine lv_isub hx hb0 dX6_heightOf_23 ?_
  exact gx_iret hx hb0 hr hlocks hK hP hD hS he dX6_heightOf_24
theorem gm_X6_heightOf : gMeth yX6_heightOf cX6_heightOf 2 (some .int) 1 := ⟨⟨by decide, by decide, by decide +kernel⟩, ini_RX6, co_yX6_heightOf⟩
abbrev rm_X6_reasonAgainst : Room := { frames := 2, cells := 0, slots := 0, locals := 35 }
set_option maxHeartbeats 4000000 in
set_option maxRecDepth 100000 in
theorem c_X6_reasonAgainst (l : Launch) (dC : Nat → ClassId) (dI : Nat → Nat → Nat) (P : gP) (ad : Nat → Nat) (tb : Nat → Nat) (b1 : Nat) (hb1 : vb b1) (x1 : Int32) (x2 : Int32) (h0 : Hp) (Q : Int32 → Hp → Prop) (he : F_X6_reasonAgainst b1 x1 x2 h0 Q) : Met l yX6_reasonAgainst (Cond.code yX6_reasonAgainst cX6_reasonAgainst 3 (some .int) :: TB) rm_X6_reasonAgainst (gPc (dC, dI) vwCl (tyC P) 162 (cE P ad) ad (gKC tb (gA 162 ad)) h0 [.ref (ad b1), .int x1, .int x2]) (gQi (dC, dI) vwCl (tyC P) 162 (cE P ad) ad Q) 0 0 (gA 162 ad) := by
  refine gx_start (by decide) (Nat.le_of_ble_eq_true rfl) (fun p e s m below meth c ls hx hb0 hr hlocks hml hown hts hK hk hP hD hS hl => ?_)
  have hl : lv_has ls 3 [(0, .ref (ad b1)), (1, .int x1), (2, .int x2)] := hl
  have hown : s.vm.findClass RX6 = some m.cls := hown
  unfold F_X6_reasonAgainst at he
  refine lv_iload_n hx hb0 dX6_reasonAgainst_0 rfl (lv_at hl 1 rfl) ?_
  refine gx_sn ⟨hx, hb0, hml, hown, hts⟩ (gKC_keep _ _) hk hK hP hD hS [.int x1] [] (c_X7_isNavigator l dC dI P ad tb x1 h0 _ he) gm_X7_isNavigator st_yX7_isNavigator (hk.1 _ nl_RX6_101) rfl rfl ⟨Nat.le_of_ble_eq_true rfl, Nat.le_of_ble_eq_true rfl⟩ rfl hl.1 rfl (Nat.le_of_ble_eq_true rfl) dX6_reasonAgainst_1 ⟨Nat.zero_le _, Nat.zero_le _⟩ (fun r_1 h_2 he H locs hP hD hS => ?_)
  refine lv_if_eq (tgt := 18) hx hb0 dX6_reasonAgainst_4 (by decide) (fun c_3 => ?_) (fun c_3 => ?_)
  · have he := he.1 c_3
    refine lv_iconst (v := (-1 : Int32)) hx hb0 dX6_reasonAgainst_18 (by decide) ?_
    exact gx_iret hx hb0 hr hlocks hK hP hD hS he dX6_reasonAgainst_19
  · have he := he.2 c_3
    refine lv_aload_n hx hb0 dX6_reasonAgainst_7 rfl (lv_at hl 0 rfl) ?_
    refine gx_get hx hb0 hts in_RX6 hown hK hP b1 (vb_lt0 hb1) ((cE_0 hb1) _) rfl 1 (by decide) fl_RX6_18 rfl dX6_reasonAgainst_8 ?_
    refine lv_iload_n hx hb0 dX6_reasonAgainst_11 rfl (lv_at hl 2 rfl) ?_
    refine gx_vi ⟨hx, hb0, hml, hown, hts⟩ (gKC_keep _ _) hk hK hP hD hS (b1 + 2) [.int x2] [] (c_X5_hasStar l dC dI P ad tb b1 hb1 x2 h_2 _ he) gm_X5_hasStar im_yX5_hasStar se_yX5_hasStar ml_RX6_91 (vb_lt hb1 (by decide)) ((cE_2 hb1) _) rfl rfl rfl ⟨Nat.le_of_ble_eq_true rfl, Nat.le_of_ble_eq_true rfl⟩ rfl hl.1 rfl (Nat.le_of_ble_eq_true rfl) dX6_reasonAgainst_12 ⟨Nat.zero_le _, Nat.zero_le _⟩ (fun r_4 h_5 he H locs hP hD hS => ?_)
    refine lv_if_ne (tgt := 20) hx hb0 dX6_reasonAgainst_15 (by decide) (fun c_6 => ?_) (fun c_6 => ?_)
    · have he := he.2 c_6
      refine lv_aload_n hx hb0 dX6_reasonAgainst_20 rfl (lv_at hl 0 rfl) ?_
      refine gx_get hx hb0 hts in_RX6 hown hK hP b1 (vb_lt0 hb1) ((cE_0 hb1) _) rfl 2 (by decide) fl_RX6_25 rfl dX6_reasonAgainst_21 ?_
      refine gx_get hx hb0 hts in_RX1 hown hK hP (b1 + 4) (vb_lt hb1 (by decide)) ((cE_4 hb1) _) rfl 6 (by decide) fl_RX6_119 rfl dX6_reasonAgainst_24 ?_
      refine lv_iload_n hx hb0 dX6_reasonAgainst_27 rfl (lv_at hl 1 rfl) ?_
      obtain ⟨v_7, he⟩ := he
      refine gx_iald hx hb0 hK hP (b1 + 11) 0 (vb_lt hb1 (by decide)) (cE_11 hb1) rfl v_7 dX6_reasonAgainst_28 ?_
      refine lv_iconst (v := (1 : Int32)) hx hb0 dX6_reasonAgainst_29 (by decide) ?_
      refine lv_icmp_ne (tgt := 35) hx hb0 dX6_reasonAgainst_30 (by decide) (fun c_8 => ?_) (fun c_8 => ?_)
      · have he := he.2 c_8
        refine lv_aload_n hx hb0 dX6_reasonAgainst_35 rfl (lv_at hl 0 rfl) ?_
        refine gx_get hx hb0 hts in_RX6 hown hK hP b1 (vb_lt0 hb1) ((cE_0 hb1) _) rfl 2 (by decide) fl_RX6_25 rfl dX6_reasonAgainst_36 ?_
        refine gx_get hx hb0 hts in_RX1 hown hK hP (b1 + 4) (vb_lt hb1 (by decide)) ((cE_4 hb1) _) rfl 6 (by decide) fl_RX6_119 rfl dX6_reasonAgainst_39 ?_
        refine lv_iload_n hx hb0 dX6_reasonAgainst_42 rfl (lv_at hl 1 rfl) ?_
        obtain ⟨v_9, he⟩ := he
        refine gx_iald hx hb0 hK hP (b1 + 11) 0 (vb_lt hb1 (by decide)) (cE_11 hb1) rfl v_9 dX6_reasonAgainst_43 ?_
        refine lv_iconst (v := (2 : Int32)) hx hb0 dX6_reasonAgainst_44 (by decide) ?_
        refine lv_icmp_ne (tgt := 50) hx hb0 dX6_reasonAgainst_45 (by decide) (fun c_10 => ?_) (fun c_10 => ?_)
        · have he := he.2 c_10
          refine lv_aload_n hx hb0 dX6_reasonAgainst_50 rfl (lv_at hl 0 rfl) ?_
          refine gx_get hx hb0 hts in_RX6 hown hK hP b1 (vb_lt0 hb1) ((cE_0 hb1) _) rfl 1 (by decide) fl_RX6_18 rfl dX6_reasonAgainst_51 ?_
          refine lv_iload_n hx hb0 dX6_reasonAgainst_54 rfl (lv_at hl 2 rfl) ?_
          refine gx_vi ⟨hx, hb0, hml, hown, hts⟩ (gKC_keep _ _) hk hK hP hD hS (b1 + 2) [.int x2] [] (c_X5_cloudBefore l dC dI P ad tb b1 hb1 x2 h_5 _ he) gm_X5_cloudBefore im_yX5_cloudBefore se_yX5_cloudBefore ml_RX6_97 (vb_lt hb1 (by decide)) ((cE_2 hb1) _) rfl rfl rfl ⟨Nat.le_of_ble_eq_true rfl, Nat.le_of_ble_eq_true rfl⟩ rfl hl.1 rfl (Nat.le_of_ble_eq_true rfl) dX6_reasonAgainst_55 ⟨Nat.zero_le _, Nat.zero_le _⟩ (fun r_11 h_12 he H locs hP hD hS => ?_)
          refine lv_iconst (v := (1 : Int32)) hx hb0 dX6_reasonAgainst_58 (by decide) ?_
          refine lv_icmp_ne (tgt := 64) hx hb0 dX6_reasonAgainst_59 (by decide) (fun c_13 => ?_) (fun c_13 => ?_)
          · have he := he.2 c_13
            refine lv_aload_n hx hb0 dX6_reasonAgainst_64 rfl (lv_at hl 0 rfl) ?_
            refine lv_iload_n hx hb0 dX6_reasonAgainst_65 rfl (lv_at hl 2 rfl) ?_
            refine gx_vi ⟨hx, hb0, hml, hown, hts⟩ (gKC_keep _ _) hk hK hP hD hS b1 [.int x2] [] (c_X6_heightOf l dC dI P ad tb b1 hb1 x2 h_12 _ he) gm_X6_heightOf im_yX6_heightOf se_yX6_heightOf ml_RX6_141 (vb_lt0 hb1) ((cE_0 hb1) _) rfl rfl rfl ⟨Nat.le_of_ble_eq_true rfl, Nat.le_of_ble_eq_true rfl⟩ rfl hl.1 rfl (Nat.le_of_ble_eq_true rfl) dX6_reasonAgainst_66 ⟨Nat.zero_le _, Nat.zero_le _⟩ (fun r_14 h_15 he H locs hP hD hS => ?_)
            refine lv_aload_n hx hb0 dX6_reasonAgainst_69 rfl (lv_at hl 0 rfl) ?_
            refine gx_get hx hb0 hts in_RX6 hown hK hP b1 (vb_lt0 hb1) ((cE_0 hb1) _) rfl 0 (by decide) fl_RX6_9 rfl dX6_reasonAgainst_70 ?_
            refine lv_iconst (v := (3 : Int32)) hx hb0 dX6_reasonAgainst_73 (by decide) ?_
            refine gx_ialdK hx hb0 hK hP (b1 + 1) 0 (vb_lt hb1 (by decide)) (cE_1 hb1) rfl (vp_lit (3 : Int32) (by decide) (by decide)) 3 rfl dX6_reasonAgainst_74 ?_
            refine lv_icmp_ge (tgt := 82) hx hb0 dX6_reasonAgainst_75 (by decide) (fun c_16 => ?_) (fun c_16 => ?_)
            · have he := he.1 c_16
              refine lv_iconst (v := (0 : Int32)) hx hb0 dX6_reasonAgainst_82 (by decide) ?_
              exact gx_iret hx hb0 hr hlocks hK hP hD hS he dX6_reasonAgainst_83
            · have he := he.2 c_16
              refine lv_iconst (v := (4 : Int32)) hx hb0 dX6_reasonAgainst_78 (by decide) ?_
              refine lv_goto (tgt := 83) hx hb0 dX6_reasonAgainst_79 (by decide) ?_
              exact gx_iret hx hb0 hr hlocks hK hP hD hS he dX6_reasonAgainst_83
          · have he := he.1 c_13
            refine lv_iconst (v := (3 : Int32)) hx hb0 dX6_reasonAgainst_62 (by decide) ?_
            exact gx_iret hx hb0 hr hlocks hK hP hD hS he dX6_reasonAgainst_63
        · have he := he.1 c_10
          refine lv_iconst (v := (2 : Int32)) hx hb0 dX6_reasonAgainst_48 (by decide) ?_
          exact gx_iret hx hb0 hr hlocks hK hP hD hS he dX6_reasonAgainst_49
      · have he := he.1 c_8
        refine lv_iconst (v := (1 : Int32)) hx hb0 dX6_reasonAgainst_33 (by decide) ?_
        exact gx_iret hx hb0 hr hlocks hK hP hD hS he dX6_reasonAgainst_34
    · have he := he.1 c_6
      refine lv_iconst (v := (-1 : Int32)) hx hb0 dX6_reasonAgainst_18 (by decide) ?_
      exact gx_iret hx hb0 hr hlocks hK hP hD hS he dX6_reasonAgainst_19
theorem gm_X6_reasonAgainst : gMeth yX6_reasonAgainst cX6_reasonAgainst 3 (some .int) 2 := ⟨⟨by decide, by decide, by decide +kernel⟩, ini_RX6, co_yX6_reasonAgainst⟩
abbrev rm_X6_reckon : Room := { frames := 2, cells := 0, slots := 0, locals := 35 }
set_option maxHeartbeats 4000000 in
set_option maxRecDepth 100000 in
theorem c_X6_reckon (l : Launch) (dC : Nat → ClassId) (dI : Nat → Nat → Nat) (P : gP) (ad : Nat → Nat) (tb : Nat → Nat) (b1 : Nat) (hb1 : vb b1) (x1 : Int32) (x2 : Int32) (h0 : Hp) (Q : Int32 → Hp → Prop) (he : F_X6_reckon b1 x1 x2 h0 Q) : Met l yX6_reckon (Cond.code yX6_reckon cX6_reckon 6 (some .int) :: TB) rm_X6_reckon (gPc (dC, dI) vwCl (tyC P) 162 (cE P ad) ad (gKC tb (gA 162 ad)) h0 [.ref (ad b1), .int x1, .int x2]) (gQi (dC, dI) vwCl (tyC P) 162 (cE P ad) ad Q) 0 0 (gA 162 ad) := by
  refine gx_start (by decide) (Nat.le_of_ble_eq_true rfl) (fun p e s m below meth c ls hx hb0 hr hlocks hml hown hts hK hk hP hD hS hl => ?_)
  have hl : lv_has ls 6 [(0, .ref (ad b1)), (1, .int x1), (2, .int x2)] := hl
  have hown : s.vm.findClass RX6 = some m.cls := hown
  unfold F_X6_reckon at he
  refine lv_aload_n hx hb0 dX6_reckon_0 rfl (lv_at hl 0 rfl) ?_
  refine lv_iload_n hx hb0 dX6_reckon_1 rfl (lv_at hl 2 rfl) ?_
  refine gx_vi ⟨hx, hb0, hml, hown, hts⟩ (gKC_keep _ _) hk hK hP hD hS b1 [.int x2] [] (c_X6_heightOf l dC dI P ad tb b1 hb1 x2 h0 _ he) gm_X6_heightOf im_yX6_heightOf se_yX6_heightOf ml_RX6_141 (vb_lt0 hb1) ((cE_0 hb1) _) rfl rfl rfl ⟨Nat.le_of_ble_eq_true rfl, Nat.le_of_ble_eq_true rfl⟩ rfl hl.1 rfl (Nat.le_of_ble_eq_true rfl) dX6_reckon_2 ⟨Nat.zero_le _, Nat.zero_le _⟩ (fun r_1 h_2 he H locs hP hD hS => ?_)
  refine lv_aload_n hx hb0 dX6_reckon_5 rfl (lv_at hl 0 rfl) ?_
  refine gx_get hx hb0 hts in_RX6 hown hK hP b1 (vb_lt0 hb1) ((cE_0 hb1) _) rfl 2 (by decide) fl_RX6_25 rfl dX6_reckon_6 ?_
  refine lv_iload_n hx hb0 dX6_reckon_9 rfl (lv_at hl 1 rfl) ?_
  refine gx_vi ⟨hx, hb0, hml, hown, hts⟩ (gKC_keep _ _) hk hK hP hD hS (b1 + 4) [.int x1] [.int r_1] (c_X1_errorOfNextSight l dC dI P ad tb b1 hb1 x1 h_2 _ he) gm_X1_errorOfNextSight im_yX1_errorOfNextSight se_yX1_errorOfNextSight ml_RX6_144 (vb_lt hb1 (by decide)) ((cE_4 hb1) _) rfl rfl rfl ⟨Nat.le_of_ble_eq_true rfl, Nat.le_of_ble_eq_true rfl⟩ rfl hl.1 rfl (Nat.le_of_ble_eq_true rfl) dX6_reckon_10 ⟨Nat.zero_le _, Nat.zero_le _⟩ (fun r_3 h_4 he H locs hP hD hS => ?_)
  refine lv_iadd hx hb0 dX6_reckon_13 ?_
  refine lv_topi (fun x_5 ex_5 => ?_)
  have he := he x_5 ex_5
  refine lv_istore_n (lv' := [(3, .int x_5), (0, .ref (ad b1)), (1, .int x1), (2, .int x2)]) hx hb0 dX6_reckon_14 rfl hl (by decide) rfl (fun ls hl => ?_)
  refine lv_sipush (v := (5400 : Int32)) hx hb0 dX6_reckon_15 (by decide) ?_
  refine lv_iload_n hx hb0 dX6_reckon_18 rfl (lv_at hl 0 rfl) ?_
  refine lv_isub hx hb0 dX6_reckon_19 ?_
  refine va_mabs hx hb0 (hml.trans hl.1.symm) hown (hts _ ml_RX6_147) (hts _ st_Lib_Math_abs_name) (hts _ ini_RJ9) (hts _ co_Lib_Math_abs_name) (Nat.le_of_ble_eq_true rfl) (Nat.le_of_ble_eq_true rfl) (Nat.zero_le _) (Nat.zero_le _) dX6_reckon_20 ?_
  refine lv_topi (fun x_6 ex_6 => ?_)
  have he := he x_6 ex_6
  refine lv_istore (lv' := [(4, .int x_6), (3, .int x_5), (0, .ref (ad b1)), (1, .int x1), (2, .int x2)]) hx hb0 dX6_reckon_23 hl (by decide) rfl (fun ls hl => ?_)
  refine lv_aload_n hx hb0 dX6_reckon_25 rfl (lv_at hl 2 rfl) ?_
  refine gx_get hx hb0 hts in_RX6 hown hK hP b1 (vb_lt0 hb1) ((cE_0 hb1) _) rfl 1 (by decide) fl_RX6_18 rfl dX6_reckon_26 ?_
  refine gx_get hx hb0 hts in_RX5 hown hK hP (b1 + 2) (vb_lt hb1 (by decide)) ((cE_2 hb1) _) rfl 2 (by decide) fl_RX6_88 rfl dX6_reckon_29 ?_
  refine lv_iload_n hx hb0 dX6_reckon_32 rfl (lv_at hl 4 rfl) ?_
  obtain ⟨v_7, he⟩ := he
  refine gx_iald hx hb0 hK hP (b1 + 3) 0 (vb_lt hb1 (by decide)) (cE_3 hb1) rfl v_7 dX6_reckon_33 ?_
  refine lv_topi (fun x_8 ex_8 => ?_)
  have he := he x_8 ex_8
  refine lv_istore (lv' := [(5, .int x_8), (4, .int x_6), (3, .int x_5), (0, .ref (ad b1)), (1, .int x1), (2, .int x2)]) hx hb0 dX6_reckon_34 hl (by decide) rfl (fun ls hl => ?_)
  refine lv_aload_n hx hb0 dX6_reckon_36 rfl (lv_at hl 3 rfl) ?_
  refine gx_get hx hb0 hts in_RX6 hown hK hP b1 (vb_lt0 hb1) ((cE_0 hb1) _) rfl 2 (by decide) fl_RX6_25 rfl dX6_reckon_37 ?_
  refine gx_get hx hb0 hts in_RX1 hown hK hP (b1 + 4) (vb_lt hb1 (by decide)) ((cE_4 hb1) _) rfl 2 (by decide) fl_RX6_116 rfl dX6_reckon_40 ?_
  refine lv_iload_n hx hb0 dX6_reckon_43 rfl (lv_at hl 4 rfl) ?_
  obtain ⟨v_9, he⟩ := he
  refine gx_iald hx hb0 hK hP (b1 + 7) 0 (vb_lt hb1 (by decide)) (cE_7 hb1) rfl v_9 dX6_reckon_44 ?_
  refine lv_iconst (v := (1 : Int32)) hx hb0 dX6_reckon_45 (by decide) ?_
  refine lv_icmp_ne (tgt := 57) hx hb0 dX6_reckon_46 (by decide) (fun c_10 => ?_) (fun c_10 => ?_)
  · have he := he.2 c_10
    refine lv_iload hx hb0 dX6_reckon_57 (lv_at hl 0 rfl) ?_
    refine lv_iload hx hb0 dX6_reckon_59 (lv_at hl 1 rfl) ?_
    refine lv_isub hx hb0 dX6_reckon_61 ?_
    refine gx_sn ⟨hx, hb0, hml, hown, hts⟩ (gKC_keep _ _) hk hK hP hD hS [.int (x_8 - x_6)] [] (c_X7_keptOnEarth l dC dI P ad tb (x_8 - x_6) h_4 _ he) gm_X7_keptOnEarth st_yX7_keptOnEarth (hk.1 _ nl_RX6_152) rfl rfl ⟨Nat.le_of_ble_eq_true rfl, Nat.le_of_ble_eq_true rfl⟩ rfl hl.1 rfl (Nat.le_of_ble_eq_true rfl) dX6_reckon_62 ⟨Nat.zero_le _, Nat.zero_le _⟩ (fun r_11 h_12 he H locs hP hD hS => ?_)
    exact gx_iret hx hb0 hr hlocks hK hP hD hS he dX6_reckon_65
  · have he := he.1 c_10
    refine lv_iload hx hb0 dX6_reckon_49 (lv_at hl 0 rfl) ?_
    refine lv_iload hx hb0 dX6_reckon_51 (lv_at hl 1 rfl) ?_
    refine lv_iadd hx hb0 dX6_reckon_53 ?_
    refine lv_goto (tgt := 62) hx hb0 dX6_reckon_54 (by decide) ?_
    refine gx_sn ⟨hx, hb0, hml, hown, hts⟩ (gKC_keep _ _) hk hK hP hD hS [.int (x_8 + x_6)] [] (c_X7_keptOnEarth l dC dI P ad tb (x_8 + x_6) h_4 _ he) gm_X7_keptOnEarth st_yX7_keptOnEarth (hk.1 _ nl_RX6_152) rfl rfl ⟨Nat.le_of_ble_eq_true rfl, Nat.le_of_ble_eq_true rfl⟩ rfl hl.1 rfl (Nat.le_of_ble_eq_true rfl) dX6_reckon_62 ⟨Nat.zero_le _, Nat.zero_le _⟩ (fun r_13 h_14 he H locs hP hD hS => ?_)
    exact gx_iret hx hb0 hr hlocks hK hP hD hS he dX6_reckon_65
theorem gm_X6_reckon : gMeth yX6_reckon cX6_reckon 6 (some .int) 2 := ⟨⟨by decide, by decide, by decide +kernel⟩, ini_RX6, co_yX6_reckon⟩
abbrev rm_X6_tellSight : Room := { frames := 3, cells := 0, slots := 0, locals := 60 }
set_option maxHeartbeats 4000000 in
set_option maxRecDepth 100000 in
theorem c_X6_tellSight (l : Launch) (dC : Nat → ClassId) (dI : Nat → Nat → Nat) (P : gP) (ad : Nat → Nat) (tb : Nat → Nat) (b1 : Nat) (hb1 : vb b1) (x1 : Int32) (x2 : Int32) (h0 : Hp) (Q : Int32 → Hp → Prop) (he : F_X6_tellSight b1 x1 x2 h0 Q) : Met l yX6_tellSight (Cond.code yX6_tellSight cX6_tellSight 4 (some .int) :: TB) rm_X6_tellSight (gPc (dC, dI) vwCl (tyC P) 162 (cE P ad) ad (gKC tb (gA 162 ad)) h0 [.ref (ad b1), .int x1, .int x2]) (gQi (dC, dI) vwCl (tyC P) 162 (cE P ad) ad Q) 0 0 (gA 162 ad) := by
  refine gx_start (by decide) (Nat.le_of_ble_eq_true rfl) (fun p e s m below meth c ls hx hb0 hr hlocks hml hown hts hK hk hP hD hS hl => ?_)
  have hl : lv_has ls 4 [(0, .ref (ad b1)), (1, .int x1), (2, .int x2)] := hl
  have hown : s.vm.findClass RX6 = some m.cls := hown
  unfold F_X6_tellSight at he
  refine lv_aload_n hx hb0 dX6_tellSight_0 rfl (lv_at hl 0 rfl) ?_
  refine lv_iload_n hx hb0 dX6_tellSight_1 rfl (lv_at hl 1 rfl) ?_
  refine lv_iload_n hx hb0 dX6_tellSight_2 rfl (lv_at hl 2 rfl) ?_
  refine gx_vi ⟨hx, hb0, hml, hown, hts⟩ (gKC_keep _ _) hk hK hP hD hS b1 [.int x1, .int x2] [] (c_X6_reasonAgainst l dC dI P ad tb b1 hb1 x1 x2 h0 _ he) gm_X6_reasonAgainst im_yX6_reasonAgainst se_yX6_reasonAgainst ml_RX6_135 (vb_lt0 hb1) ((cE_0 hb1) _) rfl rfl rfl ⟨Nat.le_of_ble_eq_true rfl, Nat.le_of_ble_eq_true rfl⟩ rfl hl.1 rfl (Nat.le_of_ble_eq_true rfl) dX6_tellSight_3 ⟨Nat.zero_le _, Nat.zero_le _⟩ (fun r_1 h_2 he H locs hP hD hS => ?_)
  refine lv_istore_n (lv' := [(3, .int r_1), (0, .ref (ad b1)), (1, .int x1), (2, .int x2)]) hx hb0 dX6_tellSight_6 rfl hl (by decide) rfl (fun ls hl => ?_)
  refine lv_iload_n hx hb0 dX6_tellSight_7 rfl (lv_at hl 0 rfl) ?_
  refine lv_if_ge (tgt := 13) hx hb0 dX6_tellSight_8 (by decide) (fun c_3 => ?_) (fun c_3 => ?_)
  · have he := he.1 c_3
    refine lv_iload_n hx hb0 dX6_tellSight_13 rfl (lv_at hl 0 rfl) ?_
    refine lv_if_le (tgt := 22) hx hb0 dX6_tellSight_14 (by decide) (fun c_4 => ?_) (fun c_4 => ?_)
    · have he := he.1 c_4
      refine lv_aload_n hx hb0 dX6_tellSight_22 rfl (lv_at hl 1 rfl) ?_
      refine lv_iload_n hx hb0 dX6_tellSight_23 rfl (lv_at hl 2 rfl) ?_
      refine lv_iload_n hx hb0 dX6_tellSight_24 rfl (lv_at hl 3 rfl) ?_
      refine gx_vi ⟨hx, hb0, hml, hown, hts⟩ (gKC_keep _ _) hk hK hP hD hS b1 [.int x1, .int x2] [] (c_X6_reckon l dC dI P ad tb b1 hb1 x1 x2 h_2 _ he) gm_X6_reckon im_yX6_reckon se_yX6_reckon ml_RX6_138 (vb_lt0 hb1) ((cE_0 hb1) _) rfl rfl rfl ⟨Nat.le_of_ble_eq_true rfl, Nat.le_of_ble_eq_true rfl⟩ rfl hl.1 rfl (Nat.le_of_ble_eq_true rfl) dX6_tellSight_25 ⟨Nat.zero_le _, Nat.zero_le _⟩ (fun r_5 h_6 he H locs hP hD hS => ?_)
      refine lv_sipush (v := (5400 : Int32)) hx hb0 dX6_tellSight_28 (by decide) ?_
      refine lv_iadd hx hb0 dX6_tellSight_31 ?_
      exact gx_iret hx hb0 hr hlocks hK hP hD hS he dX6_tellSight_32
    · have he := he.2 c_4
      refine lv_bipush (v := (-5 : Int32)) hx hb0 dX6_tellSight_17 (by decide) ?_
      refine lv_goto (tgt := 32) hx hb0 dX6_tellSight_19 (by decide) ?_
      exact gx_iret hx hb0 hr hlocks hK hP hD hS he dX6_tellSight_32
  · have he := he.2 c_3
    refine lv_iload_n hx hb0 dX6_tellSight_11 rfl (lv_at hl 0 rfl) ?_
    exact gx_iret hx hb0 hr hlocks hK hP hD hS he dX6_tellSight_12
theorem gm_X6_tellSight : gMeth yX6_tellSight cX6_tellSight 4 (some .int) 2 := ⟨⟨by decide, by decide, by decide +kernel⟩, ini_RX6, co_yX6_tellSight⟩
abbrev rm_X6_takeSight : Room := { frames := 4, cells := 0, slots := 0, locals := 83 }
set_option maxHeartbeats 4000000 in
set_option maxRecDepth 100000 in
theorem c_X6_takeSight (l : Launch) (dC : Nat → ClassId) (dI : Nat → Nat → Nat) (P : gP) (ad : Nat → Nat) (tb : Nat → Nat) (b1 : Nat) (hb1 : vb b1) (x1 : Int32) (x2 : Int32) (h0 : Hp) (Q : Int32 → Hp → Prop) (he : F_X6_takeSight b1 x1 x2 h0 Q) : Met l yX6_takeSight (Cond.code yX6_takeSight cX6_takeSight 4 (some .int) :: TB) rm_X6_takeSight (gPc (dC, dI) vwCl (tyC P) 162 (cE P ad) ad (gKC tb (gA 162 ad)) h0 [.ref (ad b1), .int x1, .int x2]) (gQi (dC, dI) vwCl (tyC P) 162 (cE P ad) ad Q) 0 0 (gA 162 ad) := by
  refine gx_start (by decide) (Nat.le_of_ble_eq_true rfl) (fun p e s m below meth c ls hx hb0 hr hlocks hml hown hts hK hk hP hD hS hl => ?_)
  have hl : lv_has ls 4 [(0, .ref (ad b1)), (1, .int x1), (2, .int x2)] := hl
  have hown : s.vm.findClass RX6 = some m.cls := hown
  unfold F_X6_takeSight at he
  refine lv_aload_n hx hb0 dX6_takeSight_0 rfl (lv_at hl 0 rfl) ?_
  refine lv_iload_n hx hb0 dX6_takeSight_1 rfl (lv_at hl 1 rfl) ?_
  refine lv_iload_n hx hb0 dX6_takeSight_2 rfl (lv_at hl 2 rfl) ?_
  refine gx_vi ⟨hx, hb0, hml, hown, hts⟩ (gKC_keep _ _) hk hK hP hD hS b1 [.int x1, .int x2] [] (c_X6_tellSight l dC dI P ad tb b1 hb1 x1 x2 h0 _ he) gm_X6_tellSight im_yX6_tellSight se_yX6_tellSight ml_RX6_125 (vb_lt0 hb1) ((cE_0 hb1) _) rfl rfl rfl ⟨Nat.le_of_ble_eq_true rfl, Nat.le_of_ble_eq_true rfl⟩ rfl hl.1 rfl (Nat.le_of_ble_eq_true rfl) dX6_takeSight_3 ⟨Nat.zero_le _, Nat.zero_le _⟩ (fun r_1 h_2 he H locs hP hD hS => ?_)
  refine lv_istore_n (lv' := [(3, .int r_1), (0, .ref (ad b1)), (1, .int x1), (2, .int x2)]) hx hb0 dX6_takeSight_6 rfl hl (by decide) rfl (fun ls hl => ?_)
  refine lv_iload_n hx hb0 dX6_takeSight_7 rfl (lv_at hl 0 rfl) ?_
  refine lv_if_lt (tgt := 38) hx hb0 dX6_takeSight_8 (by decide) (fun c_3 => ?_) (fun c_3 => ?_)
  · have he := he.1 c_3
    refine lv_iload_n hx hb0 dX6_takeSight_38 rfl (lv_at hl 0 rfl) ?_
    exact gx_iret hx hb0 hr hlocks hK hP hD hS he dX6_takeSight_39
  · have he := he.2 c_3
    refine lv_aload_n hx hb0 dX6_takeSight_11 rfl (lv_at hl 1 rfl) ?_
    refine gx_get hx hb0 hts in_RX6 hown hK hP b1 (vb_lt0 hb1) ((cE_0 hb1) _) rfl 2 (by decide) fl_RX6_25 rfl dX6_takeSight_12 ?_
    refine gx_get hx hb0 hts in_RX1 hown hK hP (b1 + 4) (vb_lt hb1 (by decide)) ((cE_4 hb1) _) rfl 5 (by decide) fl_RX6_129 rfl dX6_takeSight_15 ?_
    refine lv_iload_n hx hb0 dX6_takeSight_18 rfl (lv_at hl 2 rfl) ?_
    refine lv_iload_n hx hb0 dX6_takeSight_19 rfl (lv_at hl 0 rfl) ?_
    refine lv_sipush (v := (5400 : Int32)) hx hb0 dX6_takeSight_20 (by decide) ?_
    refine lv_isub hx hb0 dX6_takeSight_23 ?_
    obtain ⟨v_5, he⟩ := he
    refine gx_iast hx hb0 hK hP hD hS (b1 + 10) 0 (vb_lt hb1 (by decide)) (cE_10 hb1) rfl v_5 dX6_takeSight_24 (fun h_4 eh_4 H locs hP hD hS => ?_)
    have he := he h_4 eh_4
    refine lv_aload_n hx hb0 dX6_takeSight_25 rfl (lv_at hl 1 rfl) ?_
    refine gx_get hx hb0 hts in_RX6 hown hK hP b1 (vb_lt0 hb1) ((cE_0 hb1) _) rfl 2 (by decide) fl_RX6_25 rfl dX6_takeSight_26 ?_
    refine gx_get hx hb0 hts in_RX1 hown hK hP (b1 + 4) (vb_lt hb1 (by decide)) ((cE_4 hb1) _) rfl 4 (by decide) fl_RX6_132 rfl dX6_takeSight_29 ?_
    refine lv_iload_n hx hb0 dX6_takeSight_32 rfl (lv_at hl 2 rfl) ?_
    refine lv_dup2_11 hx hb0 dX6_takeSight_33 rfl rfl ?_
    obtain ⟨v_6, he⟩ := he
    refine gx_iald hx hb0 hK hP (b1 + 9) 0 (vb_lt hb1 (by decide)) (cE_9 hb1) rfl v_6 dX6_takeSight_34 ?_
    refine lv_iconst (v := (1 : Int32)) hx hb0 dX6_takeSight_35 (by decide) ?_
    refine lv_iadd hx hb0 dX6_takeSight_36 ?_
    obtain ⟨v_8, he⟩ := he
    refine gx_iast hx hb0 hK hP hD hS (b1 + 9) 0 (vb_lt hb1 (by decide)) (cE_9 hb1) rfl v_8 dX6_takeSight_37 (fun h_7 eh_7 H locs hP hD hS => ?_)
    have he := he h_7 eh_7
    refine lv_iload_n hx hb0 dX6_takeSight_38 rfl (lv_at hl 0 rfl) ?_
    exact gx_iret hx hb0 hr hlocks hK hP hD hS he dX6_takeSight_39
theorem gm_X6_takeSight : gMeth yX6_takeSight cX6_takeSight 4 (some .int) 2 := ⟨⟨by decide, by decide, by decide +kernel⟩, ini_RX6, co_yX6_takeSight⟩
abbrev rm_X6_agreeOnMedian : Room := { frames := 3, cells := 0, slots := 0, locals := 69 }
set_option maxHeartbeats 4000000 in
set_option maxRecDepth 100000 in
theorem c_X6_agreeOnMedian (l : Launch) (dC : Nat → ClassId) (dI : Nat → Nat → Nat) (P : gP) (ad : Nat → Nat) (tb : Nat → Nat) (b1 : Nat) (hb1 : vb b1) (h0 : Hp) (Q : Int32 → Hp → Prop) (he : F_X6_agreeOnMedian b1 h0 Q) : Met l yX6_agreeOnMedian (Cond.code yX6_agreeOnMedian cX6_agreeOnMedian 2 (some .int) :: TB) rm_X6_agreeOnMedian (gPc (dC, dI) vwCl (tyC P) 162 (cE P ad) ad (gKC tb (gA 162 ad)) h0 [.ref (ad b1)]) (gQi (dC, dI) vwCl (tyC P) 162 (cE P ad) ad Q) 0 0 (gA 162 ad) := by
  refine gx_start (by decide) (Nat.le_of_ble_eq_true rfl) (fun p e s m below meth c ls hx hb0 hr hlocks hml hown hts hK hk hP hD hS hl => ?_)
  have hl : lv_has ls 2 [(0, .ref (ad b1))] := hl
  have hown : s.vm.findClass RX6 = some m.cls := hown
  unfold F_X6_agreeOnMedian at he
  refine lv_aload_n hx hb0 dX6_agreeOnMedian_0 rfl (lv_at hl 0 rfl) ?_
  refine gx_get hx hb0 hts in_RX6 hown hK hP b1 (vb_lt0 hb1) ((cE_0 hb1) _) rfl 2 (by decide) fl_RX6_25 rfl dX6_agreeOnMedian_1 ?_
  refine lv_bipush (v := (-6 : Int32)) hx hb0 dX6_agreeOnMedian_4 (by decide) ?_
  refine gx_vi ⟨hx, hb0, hml, hown, hts⟩ (gKC_keep _ _) hk hK hP hD hS (b1 + 4) [.int (-6 : Int32)] [] (c_X1_middleWithout l dC dI P ad tb b1 hb1 (-6 : Int32) h0 _ he) gm_X1_middleWithout im_yX1_middleWithout se_yX1_middleWithout ml_RX6_158 (vb_lt hb1 (by decide)) ((cE_4 hb1) _) rfl rfl rfl ⟨Nat.le_of_ble_eq_true rfl, Nat.le_of_ble_eq_true rfl⟩ rfl hl.1 rfl (Nat.le_of_ble_eq_true rfl) dX6_agreeOnMedian_6 ⟨Nat.zero_le _, Nat.zero_le _⟩ (fun r_1 h_2 he H locs hP hD hS => ?_)
  refine lv_istore_n (lv' := [(1, .int r_1), (0, .ref (ad b1))]) hx hb0 dX6_agreeOnMedian_9 rfl hl (by decide) rfl (fun ls hl => ?_)
  refine lv_iload_n hx hb0 dX6_agreeOnMedian_10 rfl (lv_at hl 0 rfl) ?_
  refine lv_sipush (v := (9999 : Int32)) hx hb0 dX6_agreeOnMedian_11 (by decide) ?_
  refine lv_icmp_ne (tgt := 20) hx hb0 dX6_agreeOnMedian_14 (by decide) (fun c_3 => ?_) (fun c_3 => ?_)
  · have he := he.2 c_3
    refine lv_aload_n hx hb0 dX6_agreeOnMedian_20 rfl (lv_at hl 1 rfl) ?_
    refine gx_get hx hb0 hts in_RX6 hown hK hP b1 (vb_lt0 hb1) ((cE_0 hb1) _) rfl 3 (by decide) fl_RX6_32 rfl dX6_agreeOnMedian_21 ?_
    refine lv_iload_n hx hb0 dX6_agreeOnMedian_24 rfl (lv_at hl 0 rfl) ?_
    refine gx_put hx hb0 hts in_RX0 tyX0 tyX0_ok nmX0 hown hK hP hD hS (b1 + 12) (crs_lt (isCrs_v hb1)) (cE_crs (isCrs_v hb1)) rfl 1 (by decide) fl_RX6_161 rfl (tyX0_ok 1 (by decide)) (Nat.le_of_ble_eq_true rfl) rfl dX6_agreeOnMedian_25 (fun h_4 eh_4 H locs hP hD hS => ?_)
    have he := he h_4 eh_4
    refine lv_aload_n hx hb0 dX6_agreeOnMedian_28 rfl (lv_at hl 1 rfl) ?_
    refine lv_dup hx hb0 dX6_agreeOnMedian_29 rfl ?_
    refine gx_get hx hb0 hts in_RX6 hown hK hP b1 (vb_lt0 hb1) ((cE_0 hb1) _) rfl 7 (by decide) fl_RX6_50 rfl dX6_agreeOnMedian_30 ?_
    refine lv_aload_n hx hb0 dX6_agreeOnMedian_33 rfl (lv_at hl 1 rfl) ?_
    refine gx_get hx hb0 hts in_RX6 hown hK hP b1 (vb_lt0 hb1) ((cE_0 hb1) _) rfl 2 (by decide) fl_RX6_25 rfl dX6_agreeOnMedian_34 ?_
    refine lv_iload_n hx hb0 dX6_agreeOnMedian_37 rfl (lv_at hl 0 rfl) ?_
    refine lv_aload_n hx hb0 dX6_agreeOnMedian_38 rfl (lv_at hl 1 rfl) ?_
    refine gx_get hx hb0 hts in_RX6 hown hK hP b1 (vb_lt0 hb1) ((cE_0 hb1) _) rfl 0 (by decide) fl_RX6_9 rfl dX6_agreeOnMedian_39 ?_
    refine lv_iconst (v := (2 : Int32)) hx hb0 dX6_agreeOnMedian_42 (by decide) ?_
    refine gx_ialdK hx hb0 hK hP (b1 + 1) 0 (vb_lt hb1 (by decide)) (cE_1 hb1) rfl (vp_lit (2 : Int32) (by decide) (by decide)) 2 rfl dX6_agreeOnMedian_43 ?_
    refine gx_vi ⟨hx, hb0, hml, hown, hts⟩ (gKC_keep _ _) hk hK hP hD hS (b1 + 4) [.int r_1, .int (h_4 (b1 + 1) 2)] [.int (h_4 b1 7), .ref (ad b1)] (c_X1_quarrelOver l dC dI P ad tb b1 hb1 r_1 (h_4 (b1 + 1) 2) h_4 _ he) gm_X1_quarrelOver im_yX1_quarrelOver se_yX1_quarrelOver ml_RX6_164 (vb_lt hb1 (by decide)) ((cE_4 hb1) _) rfl rfl rfl ⟨Nat.le_of_ble_eq_true rfl, Nat.le_of_ble_eq_true rfl⟩ rfl hl.1 rfl (Nat.le_of_ble_eq_true rfl) dX6_agreeOnMedian_44 ⟨Nat.zero_le _, Nat.zero_le _⟩ (fun r_5 h_6 he H locs hP hD hS => ?_)
    refine lv_iadd hx hb0 dX6_agreeOnMedian_47 ?_
    refine gx_put hx hb0 hts in_RX6 tyX6 tyX6_ok nmX6 hown hK hP hD hS b1 (vb_lt0 hb1) (cE_0 hb1) rfl 7 (by decide) fl_RX6_50 rfl (tyX6_ok 7 (by decide)) (Nat.le_of_ble_eq_true rfl) rfl dX6_agreeOnMedian_48 (fun h_7 eh_7 H locs hP hD hS => ?_)
    have he := he h_7 eh_7
    refine lv_aload_n hx hb0 dX6_agreeOnMedian_51 rfl (lv_at hl 1 rfl) ?_
    refine lv_dup hx hb0 dX6_agreeOnMedian_52 rfl ?_
    refine gx_get hx hb0 hts in_RX6 hown hK hP b1 (vb_lt0 hb1) ((cE_0 hb1) _) rfl 6 (by decide) fl_RX6_47 rfl dX6_agreeOnMedian_53 ?_
    refine lv_iconst (v := (1 : Int32)) hx hb0 dX6_agreeOnMedian_56 (by decide) ?_
    refine lv_iadd hx hb0 dX6_agreeOnMedian_57 ?_
    refine gx_put hx hb0 hts in_RX6 tyX6 tyX6_ok nmX6 hown hK hP hD hS b1 (vb_lt0 hb1) (cE_0 hb1) rfl 6 (by decide) fl_RX6_47 rfl (tyX6_ok 6 (by decide)) (Nat.le_of_ble_eq_true rfl) rfl dX6_agreeOnMedian_58 (fun h_8 eh_8 H locs hP hD hS => ?_)
    have he := he h_8 eh_8
    refine lv_iload_n hx hb0 dX6_agreeOnMedian_61 rfl (lv_at hl 0 rfl) ?_
    refine lv_sipush (v := (5400 : Int32)) hx hb0 dX6_agreeOnMedian_62 (by decide) ?_
    refine lv_iadd hx hb0 dX6_agreeOnMedian_65 ?_
    exact gx_iret hx hb0 hr hlocks hK hP hD hS he dX6_agreeOnMedian_66
  · have he := he.1 c_3
    refine lv_bipush (v := (-5 : Int32)) hx hb0 dX6_agreeOnMedian_17 (by decide) ?_
    exact gx_iret hx hb0 hr hlocks hK hP hD hS he dX6_agreeOnMedian_19
theorem gm_X6_agreeOnMedian : gMeth yX6_agreeOnMedian cX6_agreeOnMedian 2 (some .int) 0 := ⟨⟨by decide, by decide, by decide +kernel⟩, ini_RX6, co_yX6_agreeOnMedian⟩
abbrev rm_X6_sailHours : Room := { frames := 3, cells := 0, slots := 0, locals := 57 }
set_option maxHeartbeats 4000000 in
set_option maxRecDepth 100000 in
theorem l_X6_sailHours_34 (l : Launch) (dC : Nat → ClassId) (dI : Nat → Nat → Nat) (P : gP) (ad : Nat → Nat) (tb : Nat → Nat) (b1 : Nat) (hb1 : vb b1) {p : Program} {e : Env} {s : State} {m : MethodId} {args : Array Value} {below : List Frame} {meth : Method} {c : Code} (hx : p.tables.exec = Jvm.exec) (hb0 : c.code = cX6_sailHours) (hr : meth.sig.returnType = (some .int)) (hlocks : meth.locks = false) (hml : c.maxLocals = 3) (hown : s.vm.findClass RX6 = some m.cls) (hts : ∀ w ∈ TB, w.before args s = true) (hK : va_K (dC, dI) vwCl (tyC P) s) (hk : (gKC tb (gA 162 ad)) s) (Q : Int32 → Hp → Prop) : ∀ (n : Nat) (y1 : Int32) (y2 : Int32) (h0 : Hp), F_X6_sailHours_L34 b1 n y1 y2 h0 Q → ∀ (H : Heap) (locs : List Loc) (ls : Array Slot), va_P (dC, dI) vwCl (gW 162 (cE P ad) ad h0) H → va_D (gA 162 ad) (gW 162 (cE P ad) ad h0) → va_S (gA 162 ad) s.heap H locs → lv_has ls 3 [(0, .ref (ad b1)), (1, .int y1), (2, .int y2)] → W p l e rm_X6_sailHours s m args below meth c H locs 0 0 (MQ below (gQi (dC, dI) vwCl (tyC P) 162 (cE P ad) ad Q) args s 0 0 (gA 162 ad)) (F0 m 34 ls []) := by
  intro n
  induction n with
  | zero =>
    intro y1 y2 h0 he
    exact he.elim
  | succ n ih =>
    intro y1 y2 h0 he H locs ls hP hD hS hl
    rw [F_X6_sailHours_L34] at he
    refine lv_iload_n hx hb0 dX6_sailHours_34 rfl (lv_at hl 2 rfl) ?_
    refine lv_iload_n hx hb0 dX6_sailHours_35 rfl (lv_at hl 1 rfl) ?_
    refine lv_icmp_ge (tgt := 64) hx hb0 dX6_sailHours_36 (by decide) (fun c_4 => ?_) (fun c_4 => ?_)
    · have he := he.1 c_4
      refine lv_aload_n hx hb0 dX6_sailHours_64 rfl (lv_at hl 0 rfl) ?_
      refine gx_get hx hb0 hts in_RX6 hown hK hP b1 (vb_lt0 hb1) ((cE_0 hb1) _) rfl 3 (by decide) fl_RX6_32 rfl dX6_sailHours_65 ?_
      refine gx_get hx hb0 hts in_RX0 hown hK hP (b1 + 12) (crs_lt (isCrs_v hb1)) ((cE_crs (isCrs_v hb1)) _) rfl 0 (by decide) fl_RX6_155 rfl dX6_sailHours_68 ?_
      refine lv_sipush (v := (5400 : Int32)) hx hb0 dX6_sailHours_71 (by decide) ?_
      refine lv_iadd hx hb0 dX6_sailHours_74 ?_
      exact gx_iret hx hb0 hr hlocks hK hP hD hS he dX6_sailHours_75
    · have he := he.2 c_4
      refine lv_aload_n hx hb0 dX6_sailHours_39 rfl (lv_at hl 0 rfl) ?_
      refine gx_get hx hb0 hts in_RX6 hown hK hP b1 (vb_lt0 hb1) ((cE_0 hb1) _) rfl 3 (by decide) fl_RX6_32 rfl dX6_sailHours_40 ?_
      refine lv_aload_n hx hb0 dX6_sailHours_43 rfl (lv_at hl 0 rfl) ?_
      refine gx_get hx hb0 hts in_RX6 hown hK hP b1 (vb_lt0 hb1) ((cE_0 hb1) _) rfl 0 (by decide) fl_RX6_9 rfl dX6_sailHours_44 ?_
      refine lv_iconst (v := (0 : Int32)) hx hb0 dX6_sailHours_47 (by decide) ?_
      refine gx_ialdK hx hb0 hK hP (b1 + 1) 0 (vb_lt hb1 (by decide)) (cE_1 hb1) rfl (vp_lit (0 : Int32) (by decide) (by decide)) 0 rfl dX6_sailHours_48 ?_
      refine lv_aload_n hx hb0 dX6_sailHours_49 rfl (lv_at hl 0 rfl) ?_
      refine gx_get hx hb0 hts in_RX6 hown hK hP b1 (vb_lt0 hb1) ((cE_0 hb1) _) rfl 0 (by decide) fl_RX6_9 rfl dX6_sailHours_50 ?_
      refine lv_iconst (v := (1 : Int32)) hx hb0 dX6_sailHours_53 (by decide) ?_
      refine gx_ialdK hx hb0 hK hP (b1 + 1) 0 (vb_lt hb1 (by decide)) (cE_1 hb1) rfl (vp_lit (1 : Int32) (by decide) (by decide)) 1 rfl dX6_sailHours_54 ?_
      refine gx_vv ⟨hx, hb0, hml, hown, hts⟩ (gKC_keep _ _) hk hK hP hD hS (b1 + 12) [.int (h0 (b1 + 1) 0), .int (h0 (b1 + 1) 1)] [] (c_X0_sailOneHour l dC dI P ad tb (b1 + 12) (isCrs_v hb1) (h0 (b1 + 1) 0) (h0 (b1 + 1) 1) h0 _ he) gm_X0_sailOneHour im_yX0_sailOneHour se_yX0_sailOneHour ml_RX6_170 (crs_lt (isCrs_v hb1)) ((cE_crs (isCrs_v hb1)) _) rfl rfl rfl ⟨Nat.le_of_ble_eq_true rfl, Nat.le_of_ble_eq_true rfl⟩ rfl hl.1 rfl (Nat.le_of_ble_eq_true rfl) dX6_sailHours_55 ⟨Nat.zero_le _, Nat.zero_le _⟩ (fun h_6 he H locs hP hD hS => ?_)
      obtain ⟨x_7, ex_7⟩ : ∃ y : Int32, y = y2 + 1 := ⟨_, rfl⟩
      have he := he x_7 ex_7
      refine lv_iinc (v := x_7) (lv' := [(2, .int x_7), (0, .ref (ad b1)), (1, .int y1)]) hx hb0 dX6_sailHours_58 hl (k := 2) rfl (by rw [ex_7]; rfl) (by decide) rfl (fun ls hl => ?_)
      refine lv_goto (tgt := 34) hx hb0 dX6_sailHours_61 (by decide) ?_
      exact ih y1 x_7 h_6 he _ _ ls hP hD hS (lv_sub hl [1, 2, 0] rfl)
set_option maxHeartbeats 4000000 in
set_option maxRecDepth 100000 in
theorem c_X6_sailHours (l : Launch) (dC : Nat → ClassId) (dI : Nat → Nat → Nat) (P : gP) (ad : Nat → Nat) (tb : Nat → Nat) (b1 : Nat) (hb1 : vb b1) (x1 : Int32) (h0 : Hp) (Q : Int32 → Hp → Prop) (he : F_X6_sailHours b1 x1 h0 Q) : Met l yX6_sailHours (Cond.code yX6_sailHours cX6_sailHours 3 (some .int) :: TB) rm_X6_sailHours (gPc (dC, dI) vwCl (tyC P) 162 (cE P ad) ad (gKC tb (gA 162 ad)) h0 [.ref (ad b1), .int x1]) (gQi (dC, dI) vwCl (tyC P) 162 (cE P ad) ad Q) 0 0 (gA 162 ad) := by
  refine gx_start (by decide) (Nat.le_of_ble_eq_true rfl) (fun p e s m below meth c ls hx hb0 hr hlocks hml hown hts hK hk hP hD hS hl => ?_)
  have hl : lv_has ls 3 [(0, .ref (ad b1)), (1, .int x1)] := hl
  have hown : s.vm.findClass RX6 = some m.cls := hown
  unfold F_X6_sailHours at he
  refine lv_iload_n hx hb0 dX6_sailHours_0 rfl (lv_at hl 1 rfl) ?_
  refine lv_iconst (v := (1 : Int32)) hx hb0 dX6_sailHours_1 (by decide) ?_
  refine lv_icmp_lt (tgt := 11) hx hb0 dX6_sailHours_2 (by decide) (fun c_1 => ?_) (fun c_1 => ?_)
  · have he := he.1 c_1
    refine lv_bipush (v := (-2 : Int32)) hx hb0 dX6_sailHours_11 (by decide) ?_
    exact gx_iret hx hb0 hr hlocks hK hP hD hS he dX6_sailHours_13
  · have he := he.2 c_1
    refine lv_iload_n hx hb0 dX6_sailHours_5 rfl (lv_at hl 1 rfl) ?_
    refine lv_bipush (v := (99 : Int32)) hx hb0 dX6_sailHours_6 (by decide) ?_
    refine lv_icmp_le (tgt := 14) hx hb0 dX6_sailHours_8 (by decide) (fun c_2 => ?_) (fun c_2 => ?_)
    · have he := he.1 c_2
      refine lv_aload_n hx hb0 dX6_sailHours_14 rfl (lv_at hl 0 rfl) ?_
      refine gx_get hx hb0 hts in_RX6 hown hK hP b1 (vb_lt0 hb1) ((cE_0 hb1) _) rfl 3 (by decide) fl_RX6_32 rfl dX6_sailHours_15 ?_
      refine gx_get hx hb0 hts in_RX0 hown hK hP (b1 + 12) (crs_lt (isCrs_v hb1)) ((cE_crs (isCrs_v hb1)) _) rfl 3 (by decide) fl_RX6_167 rfl dX6_sailHours_18 ?_
      refine lv_iload_n hx hb0 dX6_sailHours_21 rfl (lv_at hl 1 rfl) ?_
      refine lv_iadd hx hb0 dX6_sailHours_22 ?_
      refine lv_sipush (v := (9999 : Int32)) hx hb0 dX6_sailHours_23 (by decide) ?_
      refine lv_icmp_le (tgt := 32) hx hb0 dX6_sailHours_26 (by decide) (fun c_3 => ?_) (fun c_3 => ?_)
      · have he := he.1 c_3
        refine lv_iconst (v := (0 : Int32)) hx hb0 dX6_sailHours_32 (by decide) ?_
        refine lv_istore_n (lv' := [(2, .int (0 : Int32)), (0, .ref (ad b1)), (1, .int x1)]) hx hb0 dX6_sailHours_33 rfl hl (by decide) rfl (fun ls hl => ?_)
        obtain ⟨n_8, he⟩ := he
        exact l_X6_sailHours_34 l dC dI P ad tb b1 hb1 hx hb0 hr hlocks hml hown hts hK hk Q n_8 x1 (0 : Int32) h0 he _ _ ls hP hD hS (lv_sub hl [1, 2, 0] rfl)
      · have he := he.2 c_3
        refine lv_bipush (v := (-5 : Int32)) hx hb0 dX6_sailHours_29 (by decide) ?_
        exact gx_iret hx hb0 hr hlocks hK hP hD hS he dX6_sailHours_31
    · have he := he.2 c_2
      refine lv_bipush (v := (-2 : Int32)) hx hb0 dX6_sailHours_11 (by decide) ?_
      exact gx_iret hx hb0 hr hlocks hK hP hD hS he dX6_sailHours_13
theorem gm_X6_sailHours : gMeth yX6_sailHours cX6_sailHours 3 (some .int) 1 := ⟨⟨by decide, by decide, by decide +kernel⟩, ini_RX6, co_yX6_sailHours⟩
abbrev rm_X6_endNight : Room := { frames := 1, cells := 0, slots := 0, locals := 25 }
set_option maxHeartbeats 4000000 in
set_option maxRecDepth 100000 in
theorem c_X6_endNight (l : Launch) (dC : Nat → ClassId) (dI : Nat → Nat → Nat) (P : gP) (ad : Nat → Nat) (tb : Nat → Nat) (b1 : Nat) (hb1 : vb b1) (h0 : Hp) (Q : Int32 → Hp → Prop) (he : F_X6_endNight b1 h0 Q) : Met l yX6_endNight (Cond.code yX6_endNight cX6_endNight 1 (some .int) :: TB) rm_X6_endNight (gPc (dC, dI) vwCl (tyC P) 162 (cE P ad) ad (gKC tb (gA 162 ad)) h0 [.ref (ad b1)]) (gQi (dC, dI) vwCl (tyC P) 162 (cE P ad) ad Q) 0 0 (gA 162 ad) := by
  refine gx_start (by decide) (Nat.le_of_ble_eq_true rfl) (fun p e s m below meth c ls hx hb0 hr hlocks hml hown hts hK hk hP hD hS hl => ?_)
  have hl : lv_has ls 1 [(0, .ref (ad b1))] := hl
  have hown : s.vm.findClass RX6 = some m.cls := hown
  unfold F_X6_endNight at he
  refine lv_aload_n hx hb0 dX6_endNight_0 rfl (lv_at hl 0 rfl) ?_
  refine gx_get hx hb0 hts in_RX6 hown hK hP b1 (vb_lt0 hb1) ((cE_0 hb1) _) rfl 5 (by decide) fl_RX6_43 rfl dX6_endNight_1 ?_
  refine lv_sipush (v := (999 : Int32)) hx hb0 dX6_endNight_4 (by decide) ?_
  refine lv_icmp_lt (tgt := 13) hx hb0 dX6_endNight_7 (by decide) (fun c_1 => ?_) (fun c_1 => ?_)
  · have he := he.1 c_1
    refine lv_aload_n hx hb0 dX6_endNight_13 rfl (lv_at hl 0 rfl) ?_
    refine gx_get hx hb0 hts in_RX6 hown hK hP b1 (vb_lt0 hb1) ((cE_0 hb1) _) rfl 4 (by decide) fl_RX6_39 rfl dX6_endNight_14 ?_
    refine lv_aload_n hx hb0 dX6_endNight_17 rfl (lv_at hl 0 rfl) ?_
    refine gx_get hx hb0 hts in_RX6 hown hK hP b1 (vb_lt0 hb1) ((cE_0 hb1) _) rfl 5 (by decide) fl_RX6_43 rfl dX6_endNight_18 ?_
    refine lv_aload_n hx hb0 dX6_endNight_21 rfl (lv_at hl 0 rfl) ?_
    refine gx_get hx hb0 hts in_RX6 hown hK hP b1 (vb_lt0 hb1) ((cE_0 hb1) _) rfl 3 (by decide) fl_RX6_32 rfl dX6_endNight_22 ?_
    refine gx_get hx hb0 hts in_RX0 hown hK hP (b1 + 12) (crs_lt (isCrs_v hb1)) ((cE_crs (isCrs_v hb1)) _) rfl 0 (by decide) fl_RX6_155 rfl dX6_endNight_25 ?_
    refine lv_sipush (v := (5400 : Int32)) hx hb0 dX6_endNight_28 (by decide) ?_
    refine lv_iadd hx hb0 dX6_endNight_31 ?_
    refine lv_aload_n hx hb0 dX6_endNight_32 rfl (lv_at hl 0 rfl) ?_
    refine gx_get hx hb0 hts in_RX6 hown hK hP b1 (vb_lt0 hb1) ((cE_0 hb1) _) rfl 3 (by decide) fl_RX6_32 rfl dX6_endNight_33 ?_
    refine gx_get hx hb0 hts in_RX0 hown hK hP (b1 + 12) (crs_lt (isCrs_v hb1)) ((cE_crs (isCrs_v hb1)) _) rfl 1 (by decide) fl_RX6_161 rfl dX6_endNight_36 ?_
    refine gx_sn ⟨hx, hb0, hml, hown, hts⟩ (gKC_keep _ _) hk hK hP hD hS [.int (h0 (b1 + 12) 1)] [.int ((h0 (b1 + 12) 0) + (5400 : Int32)), .int (h0 b1 5), .ref (ad (b1 + 13))] (c_X7_toldLatitude l dC dI P ad tb (h0 (b1 + 12) 1) h0 _ he) gm_X7_toldLatitude st_yX7_toldLatitude (hk.1 _ nl_RX6_174) rfl rfl ⟨Nat.le_of_ble_eq_true rfl, Nat.le_of_ble_eq_true rfl⟩ rfl hl.1 rfl (Nat.le_of_ble_eq_true rfl) dX6_endNight_39 ⟨Nat.zero_le _, Nat.zero_le _⟩ (fun r_2 h_3 he H locs hP hD hS => ?_)
    refine lv_aload_n hx hb0 dX6_endNight_42 rfl (lv_at hl 0 rfl) ?_
    refine gx_get hx hb0 hts in_RX6 hown hK hP b1 (vb_lt0 hb1) ((cE_0 hb1) _) rfl 7 (by decide) fl_RX6_50 rfl dX6_endNight_43 ?_
    refine gx_vv ⟨hx, hb0, hml, hown, hts⟩ (gKC_keep _ _) hk hK hP hD hS (b1 + 13) [.int (h0 b1 5), .int ((h0 (b1 + 12) 0) + (5400 : Int32)), .int r_2, .int (h_3 b1 7)] [] (c_X3_write l dC dI P ad tb b1 hb1 (h0 b1 5) ((h0 (b1 + 12) 0) + (5400 : Int32)) r_2 (h_3 b1 7) h_3 _ he) gm_X3_write im_yX3_write se_yX3_write ml_RX6_177 (vb_lt hb1 (by decide)) ((cE_13 hb1) _) rfl rfl rfl ⟨Nat.le_of_ble_eq_true rfl, Nat.le_of_ble_eq_true rfl⟩ rfl hl.1 rfl (Nat.le_of_ble_eq_true rfl) dX6_endNight_46 ⟨Nat.zero_le _, Nat.zero_le _⟩ (fun h_5 he H locs hP hD hS => ?_)
    refine lv_aload_n hx hb0 dX6_endNight_49 rfl (lv_at hl 0 rfl) ?_
    refine gx_get hx hb0 hts in_RX6 hown hK hP b1 (vb_lt0 hb1) ((cE_0 hb1) _) rfl 2 (by decide) fl_RX6_25 rfl dX6_endNight_50 ?_
    refine gx_vv ⟨hx, hb0, hml, hown, hts⟩ (gKC_keep _ _) hk hK hP hD hS (b1 + 4) [] [] (c_X1_endNight l dC dI P ad tb b1 hb1 h_5 _ he) gm_X1_endNight im_yX1_endNight se_yX1_endNight ml_RX6_181 (vb_lt hb1 (by decide)) ((cE_4 hb1) _) rfl rfl rfl ⟨Nat.le_of_ble_eq_true rfl, Nat.le_of_ble_eq_true rfl⟩ rfl hl.1 rfl (Nat.le_of_ble_eq_true rfl) dX6_endNight_53 ⟨Nat.zero_le _, Nat.zero_le _⟩ (fun h_7 he H locs hP hD hS => ?_)
    refine lv_aload_n hx hb0 dX6_endNight_56 rfl (lv_at hl 0 rfl) ?_
    refine lv_iconst (v := (0 : Int32)) hx hb0 dX6_endNight_57 (by decide) ?_
    refine gx_put hx hb0 hts in_RX6 tyX6 tyX6_ok nmX6 hown hK hP hD hS b1 (vb_lt0 hb1) (cE_0 hb1) rfl 7 (by decide) fl_RX6_50 rfl (tyX6_ok 7 (by decide)) (Nat.le_of_ble_eq_true rfl) rfl dX6_endNight_58 (fun h_8 eh_8 H locs hP hD hS => ?_)
    have he := he h_8 eh_8
    refine lv_aload_n hx hb0 dX6_endNight_61 rfl (lv_at hl 0 rfl) ?_
    refine lv_dup hx hb0 dX6_endNight_62 rfl ?_
    refine gx_get hx hb0 hts in_RX6 hown hK hP b1 (vb_lt0 hb1) ((cE_0 hb1) _) rfl 5 (by decide) fl_RX6_43 rfl dX6_endNight_63 ?_
    refine lv_iconst (v := (1 : Int32)) hx hb0 dX6_endNight_66 (by decide) ?_
    refine lv_iadd hx hb0 dX6_endNight_67 ?_
    refine gx_put hx hb0 hts in_RX6 tyX6 tyX6_ok nmX6 hown hK hP hD hS b1 (vb_lt0 hb1) (cE_0 hb1) rfl 5 (by decide) fl_RX6_43 rfl (tyX6_ok 5 (by decide)) (Nat.le_of_ble_eq_true rfl) rfl dX6_endNight_68 (fun h_9 eh_9 H locs hP hD hS => ?_)
    have he := he h_9 eh_9
    refine lv_aload_n hx hb0 dX6_endNight_71 rfl (lv_at hl 0 rfl) ?_
    refine gx_get hx hb0 hts in_RX6 hown hK hP b1 (vb_lt0 hb1) ((cE_0 hb1) _) rfl 5 (by decide) fl_RX6_43 rfl dX6_endNight_72 ?_
    exact gx_iret hx hb0 hr hlocks hK hP hD hS he dX6_endNight_75
  · have he := he.2 c_1
    refine lv_bipush (v := (-5 : Int32)) hx hb0 dX6_endNight_10 (by decide) ?_
    exact gx_iret hx hb0 hr hlocks hK hP hD hS he dX6_endNight_12
theorem gm_X6_endNight : gMeth yX6_endNight cX6_endNight 1 (some .int) 0 := ⟨⟨by decide, by decide, by decide +kernel⟩, ini_RX6, co_yX6_endNight⟩
abbrev rm_X6_thoseWhoCanSight : Room := { frames := 3, cells := 0, slots := 0, locals := 57 }
set_option maxHeartbeats 4000000 in
set_option maxRecDepth 100000 in
theorem l_X6_thoseWhoCanSight_4 (l : Launch) (dC : Nat → ClassId) (dI : Nat → Nat → Nat) (P : gP) (ad : Nat → Nat) (tb : Nat → Nat) (b1 : Nat) (hb1 : vb b1) {p : Program} {e : Env} {s : State} {m : MethodId} {args : Array Value} {below : List Frame} {meth : Method} {c : Code} (hx : p.tables.exec = Jvm.exec) (hb0 : c.code = cX6_thoseWhoCanSight) (hr : meth.sig.returnType = (some .int)) (hlocks : meth.locks = false) (hml : c.maxLocals = 4) (hown : s.vm.findClass RX6 = some m.cls) (hts : ∀ w ∈ TB, w.before args s = true) (hK : va_K (dC, dI) vwCl (tyC P) s) (hk : (gKC tb (gA 162 ad)) s) (Q : Int32 → Hp → Prop) : ∀ (n : Nat) (y1 : Int32) (y2 : Int32) (y3 : Int32) (h0 : Hp), F_X6_thoseWhoCanSight_L4 b1 n y1 y2 y3 h0 Q → ∀ (H : Heap) (locs : List Loc) (ls : Array Slot), va_P (dC, dI) vwCl (gW 162 (cE P ad) ad h0) H → va_D (gA 162 ad) (gW 162 (cE P ad) ad h0) → va_S (gA 162 ad) s.heap H locs → lv_has ls 4 [(0, .ref (ad b1)), (1, .int y1), (2, .int y2), (3, .int y3)] → W p l e rm_X6_thoseWhoCanSight s m args below meth c H locs 0 0 (MQ below (gQi (dC, dI) vwCl (tyC P) 162 (cE P ad) ad Q) args s 0 0 (gA 162 ad)) (F0 m 4 ls []) := by
  intro n
  induction n with
  | zero =>
    intro y1 y2 y3 h0 he
    exact he.elim
  | succ n ih =>
    intro y1 y2 y3 h0 he H locs ls hP hD hS hl
    rw [F_X6_thoseWhoCanSight_L4] at he
    refine lv_iload_n hx hb0 dX6_thoseWhoCanSight_4 rfl (lv_at hl 3 rfl) ?_
    refine lv_bipush (v := (7 : Int32)) hx hb0 dX6_thoseWhoCanSight_5 (by decide) ?_
    refine lv_icmp_ge (tgt := 31) hx hb0 dX6_thoseWhoCanSight_7 (by decide) (fun c_1 => ?_) (fun c_1 => ?_)
    · have he := he.1 c_1
      refine lv_iload_n hx hb0 dX6_thoseWhoCanSight_31 rfl (lv_at hl 2 rfl) ?_
      exact gx_iret hx hb0 hr hlocks hK hP hD hS he dX6_thoseWhoCanSight_32
    · have he := he.2 c_1
      refine lv_aload_n hx hb0 dX6_thoseWhoCanSight_10 rfl (lv_at hl 0 rfl) ?_
      refine lv_iload_n hx hb0 dX6_thoseWhoCanSight_11 rfl (lv_at hl 3 rfl) ?_
      refine lv_iload_n hx hb0 dX6_thoseWhoCanSight_12 rfl (lv_at hl 1 rfl) ?_
      refine gx_vi ⟨hx, hb0, hml, hown, hts⟩ (gKC_keep _ _) hk hK hP hD hS b1 [.int y3, .int y1] [] (c_X6_reasonAgainst l dC dI P ad tb b1 hb1 y3 y1 h0 _ he) gm_X6_reasonAgainst im_yX6_reasonAgainst se_yX6_reasonAgainst ml_RX6_135 (vb_lt0 hb1) ((cE_0 hb1) _) rfl rfl rfl ⟨Nat.le_of_ble_eq_true rfl, Nat.le_of_ble_eq_true rfl⟩ rfl hl.1 rfl (Nat.le_of_ble_eq_true rfl) dX6_thoseWhoCanSight_13 ⟨Nat.zero_le _, Nat.zero_le _⟩ (fun r_2 h_3 he H locs hP hD hS => ?_)
      refine lv_if_ne (tgt := 25) hx hb0 dX6_thoseWhoCanSight_16 (by decide) (fun c_4 => ?_) (fun c_4 => ?_)
      · have he := he.2 c_4
        obtain ⟨x_5, ex_5⟩ : ∃ y : Int32, y = y3 + 1 := ⟨_, rfl⟩
        have he := he x_5 ex_5
        refine lv_iinc (v := x_5) (lv' := [(3, .int x_5), (0, .ref (ad b1)), (1, .int y1), (2, .int y2)]) hx hb0 dX6_thoseWhoCanSight_25 hl (k := 3) rfl (by rw [ex_5]; rfl) (by decide) rfl (fun ls hl => ?_)
        refine lv_goto (tgt := 4) hx hb0 dX6_thoseWhoCanSight_28 (by decide) ?_
        exact ih y1 y2 x_5 h_3 he _ _ ls hP hD hS (lv_sub hl [1, 2, 3, 0] rfl)
      · have he := he.1 c_4
        refine lv_iload_n hx hb0 dX6_thoseWhoCanSight_19 rfl (lv_at hl 2 rfl) ?_
        refine lv_iconst (v := (1 : Int32)) hx hb0 dX6_thoseWhoCanSight_20 (by decide) ?_
        refine lv_iload_n hx hb0 dX6_thoseWhoCanSight_21 rfl (lv_at hl 3 rfl) ?_
        refine lv_ishl hx hb0 dX6_thoseWhoCanSight_22 ?_
        refine lv_ior hx hb0 dX6_thoseWhoCanSight_23 ?_
        refine lv_topi (fun x_6 ex_6 => ?_)
        have he := he x_6 ex_6
        refine lv_istore_n (lv' := [(2, .int x_6), (0, .ref (ad b1)), (1, .int y1), (3, .int y3)]) hx hb0 dX6_thoseWhoCanSight_24 rfl hl (by decide) rfl (fun ls hl => ?_)
        obtain ⟨x_7, ex_7⟩ : ∃ y : Int32, y = y3 + 1 := ⟨_, rfl⟩
        have he := he x_7 ex_7
        refine lv_iinc (v := x_7) (lv' := [(3, .int x_7), (2, .int x_6), (0, .ref (ad b1)), (1, .int y1)]) hx hb0 dX6_thoseWhoCanSight_25 hl (k := 3) rfl (by rw [ex_7]; rfl) (by decide) rfl (fun ls hl => ?_)
        refine lv_goto (tgt := 4) hx hb0 dX6_thoseWhoCanSight_28 (by decide) ?_
        exact ih y1 x_6 x_7 h_3 he _ _ ls hP hD hS (lv_sub hl [2, 3, 1, 0] rfl)
set_option maxHeartbeats 4000000 in
set_option maxRecDepth 100000 in
theorem c_X6_thoseWhoCanSight (l : Launch) (dC : Nat → ClassId) (dI : Nat → Nat → Nat) (P : gP) (ad : Nat → Nat) (tb : Nat → Nat) (b1 : Nat) (hb1 : vb b1) (x1 : Int32) (h0 : Hp) (Q : Int32 → Hp → Prop) (he : F_X6_thoseWhoCanSight b1 x1 h0 Q) : Met l yX6_thoseWhoCanSight (Cond.code yX6_thoseWhoCanSight cX6_thoseWhoCanSight 4 (some .int) :: TB) rm_X6_thoseWhoCanSight (gPc (dC, dI) vwCl (tyC P) 162 (cE P ad) ad (gKC tb (gA 162 ad)) h0 [.ref (ad b1), .int x1]) (gQi (dC, dI) vwCl (tyC P) 162 (cE P ad) ad Q) 0 0 (gA 162 ad) := by
  refine gx_start (by decide) (Nat.le_of_ble_eq_true rfl) (fun p e s m below meth c ls hx hb0 hr hlocks hml hown hts hK hk hP hD hS hl => ?_)
  have hl : lv_has ls 4 [(0, .ref (ad b1)), (1, .int x1)] := hl
  have hown : s.vm.findClass RX6 = some m.cls := hown
  unfold F_X6_thoseWhoCanSight at he
  refine lv_iconst (v := (0 : Int32)) hx hb0 dX6_thoseWhoCanSight_0 (by decide) ?_
  refine lv_istore_n (lv' := [(2, .int (0 : Int32)), (0, .ref (ad b1)), (1, .int x1)]) hx hb0 dX6_thoseWhoCanSight_1 rfl hl (by decide) rfl (fun ls hl => ?_)
  refine lv_iconst (v := (0 : Int32)) hx hb0 dX6_thoseWhoCanSight_2 (by decide) ?_
  refine lv_istore_n (lv' := [(3, .int (0 : Int32)), (2, .int (0 : Int32)), (0, .ref (ad b1)), (1, .int x1)]) hx hb0 dX6_thoseWhoCanSight_3 rfl hl (by decide) rfl (fun ls hl => ?_)
  obtain ⟨n_8, he⟩ := he
  exact l_X6_thoseWhoCanSight_4 l dC dI P ad tb b1 hb1 hx hb0 hr hlocks hml hown hts hK hk Q n_8 x1 (0 : Int32) (0 : Int32) h0 he _ _ ls hP hD hS (lv_sub hl [2, 3, 1, 0] rfl)
theorem gm_X6_thoseWhoCanSight : gMeth yX6_thoseWhoCanSight cX6_thoseWhoCanSight 4 (some .int) 1 := ⟨⟨by decide, by decide, by decide +kernel⟩, ini_RX6, co_yX6_thoseWhoCanSight⟩
abbrev rm_X6_factOfStar : Room := { frames := 4, cells := 0, slots := 0, locals := 80 }
set_option maxHeartbeats 4000000 in
set_option maxRecDepth 100000 in
theorem c_X6_factOfStar (l : Launch) (dC : Nat → ClassId) (dI : Nat → Nat → Nat) (P : gP) (ad : Nat → Nat) (tb : Nat → Nat) (b1 : Nat) (hb1 : vb b1) (x1 : Int32) (x2 : Int32) (h0 : Hp) (Q : Int32 → Hp → Prop) (he : F_X6_factOfStar b1 x1 x2 h0 Q) : Met l yX6_factOfStar (Cond.code yX6_factOfStar cX6_factOfStar 3 (some .int) :: TB) rm_X6_factOfStar (gPc (dC, dI) vwCl (tyC P) 162 (cE P ad) ad (gKC tb (gA 162 ad)) h0 [.ref (ad b1), .int x1, .int x2]) (gQi (dC, dI) vwCl (tyC P) 162 (cE P ad) ad Q) 0 0 (gA 162 ad) := by
  refine gx_start (by decide) (Nat.le_of_ble_eq_true rfl) (fun p e s m below meth c ls hx hb0 hr hlocks hml hown hts hK hk hP hD hS hl => ?_)
  have hl : lv_has ls 3 [(0, .ref (ad b1)), (1, .int x1), (2, .int x2)] := hl
  have hown : s.vm.findClass RX6 = some m.cls := hown
  unfold F_X6_factOfStar at he
  refine lv_iload_n hx hb0 dX6_factOfStar_0 rfl (lv_at hl 2 rfl) ?_
  by_cases c_1 : x2 = 0
  · have he := he.1 c_1
    refine lv_tableIn (off := 31) (tgt := 32) hx hb0 dX6_factOfStar_1 (by rw [c_1]; decide) (by rw [c_1]; decide) (by rw [c_1]; rfl) (by decide) ?_
    refine lv_aload_n hx hb0 dX6_factOfStar_32 rfl (lv_at hl 0 rfl) ?_
    refine gx_get hx hb0 hts in_RX6 hown hK hP b1 (vb_lt0 hb1) ((cE_0 hb1) _) rfl 1 (by decide) fl_RX6_18 rfl dX6_factOfStar_33 ?_
    refine gx_get hx hb0 hts in_RX5 hown hK hP (b1 + 2) (vb_lt hb1 (by decide)) ((cE_2 hb1) _) rfl 2 (by decide) fl_RX6_88 rfl dX6_factOfStar_36 ?_
    refine lv_iload_n hx hb0 dX6_factOfStar_39 rfl (lv_at hl 1 rfl) ?_
    obtain ⟨v_2, he⟩ := he
    refine gx_iald hx hb0 hK hP (b1 + 3) 0 (vb_lt hb1 (by decide)) (cE_3 hb1) rfl v_2 dX6_factOfStar_40 ?_
    refine lv_sipush (v := (5400 : Int32)) hx hb0 dX6_factOfStar_41 (by decide) ?_
    refine lv_iadd hx hb0 dX6_factOfStar_44 ?_
    exact gx_iret hx hb0 hr hlocks hK hP hD hS he dX6_factOfStar_45
  have he := he.2 c_1
  by_cases c_3 : x2 = 1
  · have he := he.1 c_3
    refine lv_tableIn (off := 45) (tgt := 46) hx hb0 dX6_factOfStar_1 (by rw [c_3]; decide) (by rw [c_3]; decide) (by rw [c_3]; rfl) (by decide) ?_
    refine lv_aload_n hx hb0 dX6_factOfStar_46 rfl (lv_at hl 0 rfl) ?_
    refine gx_get hx hb0 hts in_RX6 hown hK hP b1 (vb_lt0 hb1) ((cE_0 hb1) _) rfl 1 (by decide) fl_RX6_18 rfl dX6_factOfStar_47 ?_
    refine lv_iload_n hx hb0 dX6_factOfStar_50 rfl (lv_at hl 1 rfl) ?_
    refine gx_vi ⟨hx, hb0, hml, hown, hts⟩ (gKC_keep _ _) hk hK hP hD hS (b1 + 2) [.int x1] [] (c_X5_cloudBefore l dC dI P ad tb b1 hb1 x1 h0 _ he) gm_X5_cloudBefore im_yX5_cloudBefore se_yX5_cloudBefore ml_RX6_97 (vb_lt hb1 (by decide)) ((cE_2 hb1) _) rfl rfl rfl ⟨Nat.le_of_ble_eq_true rfl, Nat.le_of_ble_eq_true rfl⟩ rfl hl.1 rfl (Nat.le_of_ble_eq_true rfl) dX6_factOfStar_51 ⟨Nat.zero_le _, Nat.zero_le _⟩ (fun r_4 h_5 he H locs hP hD hS => ?_)
    exact gx_iret hx hb0 hr hlocks hK hP hD hS he dX6_factOfStar_54
  have he := he.2 c_3
  by_cases c_6 : x2 = 2
  · have he := he.1 c_6
    refine lv_tableIn (off := 54) (tgt := 55) hx hb0 dX6_factOfStar_1 (by rw [c_6]; decide) (by rw [c_6]; decide) (by rw [c_6]; rfl) (by decide) ?_
    refine lv_aload_n hx hb0 dX6_factOfStar_55 rfl (lv_at hl 0 rfl) ?_
    refine lv_iload_n hx hb0 dX6_factOfStar_56 rfl (lv_at hl 1 rfl) ?_
    refine gx_vi ⟨hx, hb0, hml, hown, hts⟩ (gKC_keep _ _) hk hK hP hD hS b1 [.int x1] [] (c_X6_heightOf l dC dI P ad tb b1 hb1 x1 h0 _ he) gm_X6_heightOf im_yX6_heightOf se_yX6_heightOf ml_RX6_141 (vb_lt0 hb1) ((cE_0 hb1) _) rfl rfl rfl ⟨Nat.le_of_ble_eq_true rfl, Nat.le_of_ble_eq_true rfl⟩ rfl hl.1 rfl (Nat.le_of_ble_eq_true rfl) dX6_factOfStar_57 ⟨Nat.zero_le _, Nat.zero_le _⟩ (fun r_7 h_8 he H locs hP hD hS => ?_)
    refine lv_sipush (v := (5400 : Int32)) hx hb0 dX6_factOfStar_60 (by decide) ?_
    refine lv_iadd hx hb0 dX6_factOfStar_63 ?_
    exact gx_iret hx hb0 hr hlocks hK hP hD hS he dX6_factOfStar_64
  have he := he.2 c_6
  by_cases c_9 : x2 = 3
  · have he := he.1 c_9
    refine lv_tableIn (off := 64) (tgt := 65) hx hb0 dX6_factOfStar_1 (by rw [c_9]; decide) (by rw [c_9]; decide) (by rw [c_9]; rfl) (by decide) ?_
    refine lv_aload_n hx hb0 dX6_factOfStar_65 rfl (lv_at hl 0 rfl) ?_
    refine lv_iload_n hx hb0 dX6_factOfStar_66 rfl (lv_at hl 1 rfl) ?_
    refine gx_vi ⟨hx, hb0, hml, hown, hts⟩ (gKC_keep _ _) hk hK hP hD hS b1 [.int x1] [] (c_X6_thoseWhoCanSight l dC dI P ad tb b1 hb1 x1 h0 _ he) gm_X6_thoseWhoCanSight im_yX6_thoseWhoCanSight se_yX6_thoseWhoCanSight ml_RX6_184 (vb_lt0 hb1) ((cE_0 hb1) _) rfl rfl rfl ⟨Nat.le_of_ble_eq_true rfl, Nat.le_of_ble_eq_true rfl⟩ rfl hl.1 rfl (Nat.le_of_ble_eq_true rfl) dX6_factOfStar_67 ⟨Nat.zero_le _, Nat.zero_le _⟩ (fun r_10 h_11 he H locs hP hD hS => ?_)
    exact gx_iret hx hb0 hr hlocks hK hP hD hS he dX6_factOfStar_70
  have he := he.2 c_9
  refine lv_tableOut (tgt := 71) hx hb0 dX6_factOfStar_1 (by have z0 := lv_neT c_1 (a := 0) rfl; have z1 := lv_neT c_3 (a := 1) rfl; have z2 := lv_neT c_6 (a := 2) rfl; have z3 := lv_neT c_9 (a := 3) rfl; omega) (by decide) ?_
  refine lv_bipush (v := (-2 : Int32)) hx hb0 dX6_factOfStar_71 (by decide) ?_
  exact gx_iret hx hb0 hr hlocks hK hP hD hS he dX6_factOfStar_73
theorem gm_X6_factOfStar : gMeth yX6_factOfStar cX6_factOfStar 3 (some .int) 2 := ⟨⟨by decide, by decide, by decide +kernel⟩, ini_RX6, co_yX6_factOfStar⟩
abbrev rm_X6_factOfLog : Room := { frames := 1, cells := 0, slots := 0, locals := 22 }
set_option maxHeartbeats 4000000 in
set_option maxRecDepth 100000 in
theorem c_X6_factOfLog (l : Launch) (dC : Nat → ClassId) (dI : Nat → Nat → Nat) (P : gP) (ad : Nat → Nat) (tb : Nat → Nat) (b1 : Nat) (hb1 : vb b1) (x1 : Int32) (x2 : Int32) (h0 : Hp) (Q : Int32 → Hp → Prop) (he : F_X6_factOfLog b1 x1 x2 h0 Q) : Met l yX6_factOfLog (Cond.code yX6_factOfLog cX6_factOfLog 3 (some .int) :: TB) rm_X6_factOfLog (gPc (dC, dI) vwCl (tyC P) 162 (cE P ad) ad (gKC tb (gA 162 ad)) h0 [.ref (ad b1), .int x1, .int x2]) (gQi (dC, dI) vwCl (tyC P) 162 (cE P ad) ad Q) 0 0 (gA 162 ad) := by
  refine gx_start (by decide) (Nat.le_of_ble_eq_true rfl) (fun p e s m below meth c ls hx hb0 hr hlocks hml hown hts hK hk hP hD hS hl => ?_)
  have hl : lv_has ls 3 [(0, .ref (ad b1)), (1, .int x1), (2, .int x2)] := hl
  have hown : s.vm.findClass RX6 = some m.cls := hown
  unfold F_X6_factOfLog at he
  refine lv_iload_n hx hb0 dX6_factOfLog_0 rfl (lv_at hl 1 rfl) ?_
  refine lv_if_lt (tgt := 17) hx hb0 dX6_factOfLog_1 (by decide) (fun c_1 => ?_) (fun c_1 => ?_)
  · have he := he.1 c_1
    refine lv_iconst (v := (-1 : Int32)) hx hb0 dX6_factOfLog_17 (by decide) ?_
    exact gx_iret hx hb0 hr hlocks hK hP hD hS he dX6_factOfLog_18
  · have he := he.2 c_1
    refine lv_iload_n hx hb0 dX6_factOfLog_4 rfl (lv_at hl 1 rfl) ?_
    refine lv_aload_n hx hb0 dX6_factOfLog_5 rfl (lv_at hl 0 rfl) ?_
    refine gx_get hx hb0 hts in_RX6 hown hK hP b1 (vb_lt0 hb1) ((cE_0 hb1) _) rfl 5 (by decide) fl_RX6_43 rfl dX6_factOfLog_6 ?_
    refine lv_bipush (v := (8 : Int32)) hx hb0 dX6_factOfLog_9 (by decide) ?_
    refine va_mmin hx hb0 (hml.trans hl.1.symm) hown (hts _ ml_RX6_187) (hts _ st_Lib_Math_min_name) (hts _ ini_RJ9) (hts _ co_Lib_Math_min_name) (Nat.le_of_ble_eq_true rfl) (Nat.le_of_ble_eq_true rfl) (Nat.zero_le _) (Nat.zero_le _) dX6_factOfLog_11 ?_
    refine lv_topi (fun x_2 ex_2 => ?_)
    have he := he x_2 ex_2
    refine lv_icmp_lt (tgt := 19) hx hb0 dX6_factOfLog_14 (by decide) (fun c_3 => ?_) (fun c_3 => ?_)
    · have he := he.1 c_3
      refine lv_iload_n hx hb0 dX6_factOfLog_19 rfl (lv_at hl 2 rfl) ?_
      refine lv_if_lt (tgt := 28) hx hb0 dX6_factOfLog_20 (by decide) (fun c_4 => ?_) (fun c_4 => ?_)
      · have he := he.1 c_4
        refine lv_bipush (v := (-2 : Int32)) hx hb0 dX6_factOfLog_28 (by decide) ?_
        exact gx_iret hx hb0 hr hlocks hK hP hD hS he dX6_factOfLog_30
      · have he := he.2 c_4
        refine lv_iload_n hx hb0 dX6_factOfLog_23 rfl (lv_at hl 2 rfl) ?_
        refine lv_iconst (v := (4 : Int32)) hx hb0 dX6_factOfLog_24 (by decide) ?_
        refine lv_icmp_lt (tgt := 31) hx hb0 dX6_factOfLog_25 (by decide) (fun c_5 => ?_) (fun c_5 => ?_)
        · have he := he.1 c_5
          refine lv_aload_n hx hb0 dX6_factOfLog_31 rfl (lv_at hl 0 rfl) ?_
          refine gx_get hx hb0 hts in_RX6 hown hK hP b1 (vb_lt0 hb1) ((cE_0 hb1) _) rfl 4 (by decide) fl_RX6_39 rfl dX6_factOfLog_32 ?_
          refine lv_aload_n hx hb0 dX6_factOfLog_35 rfl (lv_at hl 0 rfl) ?_
          refine gx_get hx hb0 hts in_RX6 hown hK hP b1 (vb_lt0 hb1) ((cE_0 hb1) _) rfl 5 (by decide) fl_RX6_43 rfl dX6_factOfLog_36 ?_
          refine lv_iconst (v := (1 : Int32)) hx hb0 dX6_factOfLog_39 (by decide) ?_
          refine lv_isub hx hb0 dX6_factOfLog_40 ?_
          refine lv_iload_n hx hb0 dX6_factOfLog_41 rfl (lv_at hl 1 rfl) ?_
          refine lv_isub hx hb0 dX6_factOfLog_42 ?_
          refine lv_iload_n hx hb0 dX6_factOfLog_43 rfl (lv_at hl 2 rfl) ?_
          refine gx_vi ⟨hx, hb0, hml, hown, hts⟩ (gKC_keep _ _) hk hK hP hD hS (b1 + 13) [.int (((h0 b1 5) - (1 : Int32)) - x1), .int x2] [] (c_X3_read l dC dI P ad tb b1 hb1 (((h0 b1 5) - (1 : Int32)) - x1) x2 h0 _ he) gm_X3_read im_yX3_read se_yX3_read ml_RX6_190 (vb_lt hb1 (by decide)) ((cE_13 hb1) _) rfl rfl rfl ⟨Nat.le_of_ble_eq_true rfl, Nat.le_of_ble_eq_true rfl⟩ rfl hl.1 rfl (Nat.le_of_ble_eq_true rfl) dX6_factOfLog_44 ⟨Nat.zero_le _, Nat.zero_le _⟩ (fun r_6 h_7 he H locs hP hD hS => ?_)
          exact gx_iret hx hb0 hr hlocks hK hP hD hS he dX6_factOfLog_47
        · have he := he.2 c_5
          refine lv_bipush (v := (-2 : Int32)) hx hb0 dX6_factOfLog_28 (by decide) ?_
          exact gx_iret hx hb0 hr hlocks hK hP hD hS he dX6_factOfLog_30
    · have he := he.2 c_3
      refine lv_iconst (v := (-1 : Int32)) hx hb0 dX6_factOfLog_17 (by decide) ?_
      exact gx_iret hx hb0 hr hlocks hK hP hD hS he dX6_factOfLog_18
theorem gm_X6_factOfLog : gMeth yX6_factOfLog cX6_factOfLog 3 (some .int) 2 := ⟨⟨by decide, by decide, by decide +kernel⟩, ini_RX6, co_yX6_factOfLog⟩
abbrev rm_X6_numberOf : Room := { frames := 2, cells := 0, slots := 0, locals := 33 }
set_option maxHeartbeats 4000000 in
set_option maxRecDepth 100000 in
theorem c_X6_numberOf (l : Launch) (dC : Nat → ClassId) (dI : Nat → Nat → Nat) (P : gP) (ad : Nat → Nat) (tb : Nat → Nat) (b1 : Nat) (hb1 : vb b1) (x1 : Int32) (h0 : Hp) (Q : Int32 → Hp → Prop) (he : F_X6_numberOf b1 x1 h0 Q) : Met l yX6_numberOf (Cond.code yX6_numberOf cX6_numberOf 2 (some .int) :: TB) rm_X6_numberOf (gPc (dC, dI) vwCl (tyC P) 162 (cE P ad) ad (gKC tb (gA 162 ad)) h0 [.ref (ad b1), .int x1]) (gQi (dC, dI) vwCl (tyC P) 162 (cE P ad) ad Q) 0 0 (gA 162 ad) := by
  refine gx_start (by decide) (Nat.le_of_ble_eq_true rfl) (fun p e s m below meth c ls hx hb0 hr hlocks hml hown hts hK hk hP hD hS hl => ?_)
  have hl : lv_has ls 2 [(0, .ref (ad b1)), (1, .int x1)] := hl
  have hown : s.vm.findClass RX6 = some m.cls := hown
  unfold F_X6_numberOf at he
  refine lv_iload_n hx hb0 dX6_numberOf_0 rfl (lv_at hl 1 rfl) ?_
  by_cases c_1 : x1 = 0
  · have he := he.1 c_1
    refine lv_tableIn (off := 75) (tgt := 76) hx hb0 dX6_numberOf_1 (by rw [c_1]; decide) (by rw [c_1]; decide) (by rw [c_1]; rfl) (by decide) ?_
    refine lv_aload_n hx hb0 dX6_numberOf_76 rfl (lv_at hl 0 rfl) ?_
    refine gx_get hx hb0 hts in_RX6 hown hK hP b1 (vb_lt0 hb1) ((cE_0 hb1) _) rfl 3 (by decide) fl_RX6_32 rfl dX6_numberOf_77 ?_
    refine gx_get hx hb0 hts in_RX0 hown hK hP (b1 + 12) (crs_lt (isCrs_v hb1)) ((cE_crs (isCrs_v hb1)) _) rfl 0 (by decide) fl_RX6_155 rfl dX6_numberOf_80 ?_
    refine lv_sipush (v := (5400 : Int32)) hx hb0 dX6_numberOf_83 (by decide) ?_
    refine lv_iadd hx hb0 dX6_numberOf_86 ?_
    exact gx_iret hx hb0 hr hlocks hK hP hD hS he dX6_numberOf_87
  have he := he.2 c_1
  by_cases c_2 : x1 = 1
  · have he := he.1 c_2
    refine lv_tableIn (off := 87) (tgt := 88) hx hb0 dX6_numberOf_1 (by rw [c_2]; decide) (by rw [c_2]; decide) (by rw [c_2]; rfl) (by decide) ?_
    refine lv_aload_n hx hb0 dX6_numberOf_88 rfl (lv_at hl 0 rfl) ?_
    refine gx_get hx hb0 hts in_RX6 hown hK hP b1 (vb_lt0 hb1) ((cE_0 hb1) _) rfl 3 (by decide) fl_RX6_32 rfl dX6_numberOf_89 ?_
    refine gx_get hx hb0 hts in_RX0 hown hK hP (b1 + 12) (crs_lt (isCrs_v hb1)) ((cE_crs (isCrs_v hb1)) _) rfl 1 (by decide) fl_RX6_161 rfl dX6_numberOf_92 ?_
    refine gx_sn ⟨hx, hb0, hml, hown, hts⟩ (gKC_keep _ _) hk hK hP hD hS [.int (h0 (b1 + 12) 1)] [] (c_X7_toldLatitude l dC dI P ad tb (h0 (b1 + 12) 1) h0 _ he) gm_X7_toldLatitude st_yX7_toldLatitude (hk.1 _ nl_RX6_174) rfl rfl ⟨Nat.le_of_ble_eq_true rfl, Nat.le_of_ble_eq_true rfl⟩ rfl hl.1 rfl (Nat.le_of_ble_eq_true rfl) dX6_numberOf_95 ⟨Nat.zero_le _, Nat.zero_le _⟩ (fun r_3 h_4 he H locs hP hD hS => ?_)
    exact gx_iret hx hb0 hr hlocks hK hP hD hS he dX6_numberOf_98
  have he := he.2 c_2
  by_cases c_5 : x1 = 2
  · have he := he.1 c_5
    refine lv_tableIn (off := 98) (tgt := 99) hx hb0 dX6_numberOf_1 (by rw [c_5]; decide) (by rw [c_5]; decide) (by rw [c_5]; rfl) (by decide) ?_
    refine lv_aload_n hx hb0 dX6_numberOf_99 rfl (lv_at hl 0 rfl) ?_
    refine gx_get hx hb0 hts in_RX6 hown hK hP b1 (vb_lt0 hb1) ((cE_0 hb1) _) rfl 3 (by decide) fl_RX6_32 rfl dX6_numberOf_100 ?_
    refine gx_get hx hb0 hts in_RX0 hown hK hP (b1 + 12) (crs_lt (isCrs_v hb1)) ((cE_crs (isCrs_v hb1)) _) rfl 2 (by decide) fl_RX6_122 rfl dX6_numberOf_103 ?_
    refine lv_sipush (v := (5400 : Int32)) hx hb0 dX6_numberOf_106 (by decide) ?_
    refine lv_iadd hx hb0 dX6_numberOf_109 ?_
    exact gx_iret hx hb0 hr hlocks hK hP hD hS he dX6_numberOf_110
  have he := he.2 c_5
  by_cases c_6 : x1 = 3
  · have he := he.1 c_6
    refine lv_tableIn (off := 110) (tgt := 111) hx hb0 dX6_numberOf_1 (by rw [c_6]; decide) (by rw [c_6]; decide) (by rw [c_6]; rfl) (by decide) ?_
    refine lv_aload_n hx hb0 dX6_numberOf_111 rfl (lv_at hl 0 rfl) ?_
    refine gx_get hx hb0 hts in_RX6 hown hK hP b1 (vb_lt0 hb1) ((cE_0 hb1) _) rfl 3 (by decide) fl_RX6_32 rfl dX6_numberOf_112 ?_
    refine gx_get hx hb0 hts in_RX0 hown hK hP (b1 + 12) (crs_lt (isCrs_v hb1)) ((cE_crs (isCrs_v hb1)) _) rfl 3 (by decide) fl_RX6_167 rfl dX6_numberOf_115 ?_
    exact gx_iret hx hb0 hr hlocks hK hP hD hS he dX6_numberOf_118
  have he := he.2 c_6
  by_cases c_7 : x1 = 4
  · have he := he.1 c_7
    refine lv_tableIn (off := 118) (tgt := 119) hx hb0 dX6_numberOf_1 (by rw [c_7]; decide) (by rw [c_7]; decide) (by rw [c_7]; rfl) (by decide) ?_
    refine lv_aload_n hx hb0 dX6_numberOf_119 rfl (lv_at hl 0 rfl) ?_
    refine gx_get hx hb0 hts in_RX6 hown hK hP b1 (vb_lt0 hb1) ((cE_0 hb1) _) rfl 5 (by decide) fl_RX6_43 rfl dX6_numberOf_120 ?_
    exact gx_iret hx hb0 hr hlocks hK hP hD hS he dX6_numberOf_123
  have he := he.2 c_7
  by_cases c_8 : x1 = 5
  · have he := he.1 c_8
    refine lv_tableIn (off := 123) (tgt := 124) hx hb0 dX6_numberOf_1 (by rw [c_8]; decide) (by rw [c_8]; decide) (by rw [c_8]; rfl) (by decide) ?_
    refine lv_aload_n hx hb0 dX6_numberOf_124 rfl (lv_at hl 0 rfl) ?_
    refine gx_get hx hb0 hts in_RX6 hown hK hP b1 (vb_lt0 hb1) ((cE_0 hb1) _) rfl 2 (by decide) fl_RX6_25 rfl dX6_numberOf_125 ?_
    refine gx_vi ⟨hx, hb0, hml, hown, hts⟩ (gKC_keep _ _) hk hK hP hD hS (b1 + 4) [] [] (c_X1_sightsOfAll l dC dI P ad tb b1 hb1 h0 _ he) gm_X1_sightsOfAll im_yX1_sightsOfAll se_yX1_sightsOfAll ml_RX6_193 (vb_lt hb1 (by decide)) ((cE_4 hb1) _) rfl rfl rfl ⟨Nat.le_of_ble_eq_true rfl, Nat.le_of_ble_eq_true rfl⟩ rfl hl.1 rfl (Nat.le_of_ble_eq_true rfl) dX6_numberOf_128 ⟨Nat.zero_le _, Nat.zero_le _⟩ (fun r_9 h_10 he H locs hP hD hS => ?_)
    exact gx_iret hx hb0 hr hlocks hK hP hD hS he dX6_numberOf_131
  have he := he.2 c_8
  by_cases c_11 : x1 = 6
  · have he := he.1 c_11
    refine lv_tableIn (off := 131) (tgt := 132) hx hb0 dX6_numberOf_1 (by rw [c_11]; decide) (by rw [c_11]; decide) (by rw [c_11]; rfl) (by decide) ?_
    refine lv_aload_n hx hb0 dX6_numberOf_132 rfl (lv_at hl 0 rfl) ?_
    refine gx_get hx hb0 hts in_RX6 hown hK hP b1 (vb_lt0 hb1) ((cE_0 hb1) _) rfl 6 (by decide) fl_RX6_47 rfl dX6_numberOf_133 ?_
    exact gx_iret hx hb0 hr hlocks hK hP hD hS he dX6_numberOf_136
  have he := he.2 c_11
  by_cases c_12 : x1 = 7
  · have he := he.1 c_12
    refine lv_tableIn (off := 136) (tgt := 137) hx hb0 dX6_numberOf_1 (by rw [c_12]; decide) (by rw [c_12]; decide) (by rw [c_12]; rfl) (by decide) ?_
    refine lv_aload_n hx hb0 dX6_numberOf_137 rfl (lv_at hl 0 rfl) ?_
    refine gx_get hx hb0 hts in_RX6 hown hK hP b1 (vb_lt0 hb1) ((cE_0 hb1) _) rfl 7 (by decide) fl_RX6_50 rfl dX6_numberOf_138 ?_
    exact gx_iret hx hb0 hr hlocks hK hP hD hS he dX6_numberOf_141
  have he := he.2 c_12
  by_cases c_13 : x1 = 8
  · have he := he.1 c_13
    refine lv_tableIn (off := 141) (tgt := 142) hx hb0 dX6_numberOf_1 (by rw [c_13]; decide) (by rw [c_13]; decide) (by rw [c_13]; rfl) (by decide) ?_
    refine lv_aload_n hx hb0 dX6_numberOf_142 rfl (lv_at hl 0 rfl) ?_
    refine gx_get hx hb0 hts in_RX6 hown hK hP b1 (vb_lt0 hb1) ((cE_0 hb1) _) rfl 2 (by decide) fl_RX6_25 rfl dX6_numberOf_143 ?_
    refine gx_vi ⟨hx, hb0, hml, hown, hts⟩ (gKC_keep _ _) hk hK hP hD hS (b1 + 4) [] [] (c_X1_thoseWithEstimate l dC dI P ad tb b1 hb1 h0 _ he) gm_X1_thoseWithEstimate im_yX1_thoseWithEstimate se_yX1_thoseWithEstimate ml_RX6_197 (vb_lt hb1 (by decide)) ((cE_4 hb1) _) rfl rfl rfl ⟨Nat.le_of_ble_eq_true rfl, Nat.le_of_ble_eq_true rfl⟩ rfl hl.1 rfl (Nat.le_of_ble_eq_true rfl) dX6_numberOf_146 ⟨Nat.zero_le _, Nat.zero_le _⟩ (fun r_14 h_15 he H locs hP hD hS => ?_)
    exact gx_iret hx hb0 hr hlocks hK hP hD hS he dX6_numberOf_149
  have he := he.2 c_13
  by_cases c_16 : x1 = 9
  · have he := he.1 c_16
    refine lv_tableIn (off := 149) (tgt := 150) hx hb0 dX6_numberOf_1 (by rw [c_16]; decide) (by rw [c_16]; decide) (by rw [c_16]; rfl) (by decide) ?_
    refine lv_aload_n hx hb0 dX6_numberOf_150 rfl (lv_at hl 0 rfl) ?_
    refine gx_get hx hb0 hts in_RX6 hown hK hP b1 (vb_lt0 hb1) ((cE_0 hb1) _) rfl 2 (by decide) fl_RX6_25 rfl dX6_numberOf_151 ?_
    refine gx_vi ⟨hx, hb0, hml, hown, hts⟩ (gKC_keep _ _) hk hK hP hD hS (b1 + 4) [] [] (c_X1_thoseWhoSulk l dC dI P ad tb b1 hb1 h0 _ he) gm_X1_thoseWhoSulk im_yX1_thoseWhoSulk se_yX1_thoseWhoSulk ml_RX6_200 (vb_lt hb1 (by decide)) ((cE_4 hb1) _) rfl rfl rfl ⟨Nat.le_of_ble_eq_true rfl, Nat.le_of_ble_eq_true rfl⟩ rfl hl.1 rfl (Nat.le_of_ble_eq_true rfl) dX6_numberOf_154 ⟨Nat.zero_le _, Nat.zero_le _⟩ (fun r_17 h_18 he H locs hP hD hS => ?_)
    exact gx_iret hx hb0 hr hlocks hK hP hD hS he dX6_numberOf_157
  have he := he.2 c_16
  by_cases c_19 : x1 = 10
  · have he := he.1 c_19
    refine lv_tableIn (off := 157) (tgt := 158) hx hb0 dX6_numberOf_1 (by rw [c_19]; decide) (by rw [c_19]; decide) (by rw [c_19]; rfl) (by decide) ?_
    refine lv_aload_n hx hb0 dX6_numberOf_158 rfl (lv_at hl 0 rfl) ?_
    refine gx_get hx hb0 hts in_RX6 hown hK hP b1 (vb_lt0 hb1) ((cE_0 hb1) _) rfl 3 (by decide) fl_RX6_32 rfl dX6_numberOf_159 ?_
    refine gx_vi ⟨hx, hb0, hml, hown, hts⟩ (gKC_keep _ _) hk hK hP hD hS (b1 + 12) [] [] (c_X0_mistake l dC dI P ad tb (b1 + 12) (isCrs_v hb1) h0 _ he) gm_X0_mistake im_yX0_mistake se_yX0_mistake ml_RX6_203 (crs_lt (isCrs_v hb1)) ((cE_crs (isCrs_v hb1)) _) rfl rfl rfl ⟨Nat.le_of_ble_eq_true rfl, Nat.le_of_ble_eq_true rfl⟩ rfl hl.1 rfl (Nat.le_of_ble_eq_true rfl) dX6_numberOf_162 ⟨Nat.zero_le _, Nat.zero_le _⟩ (fun r_20 h_21 he H locs hP hD hS => ?_)
    exact gx_iret hx hb0 hr hlocks hK hP hD hS he dX6_numberOf_165
  have he := he.2 c_19
  by_cases c_22 : x1 = 11
  · have he := he.1 c_22
    refine lv_tableIn (off := 165) (tgt := 166) hx hb0 dX6_numberOf_1 (by rw [c_22]; decide) (by rw [c_22]; decide) (by rw [c_22]; rfl) (by decide) ?_
    refine lv_aload_n hx hb0 dX6_numberOf_166 rfl (lv_at hl 0 rfl) ?_
    refine gx_get hx hb0 hts in_RX6 hown hK hP b1 (vb_lt0 hb1) ((cE_0 hb1) _) rfl 0 (by decide) fl_RX6_9 rfl dX6_numberOf_167 ?_
    refine lv_iconst (v := (0 : Int32)) hx hb0 dX6_numberOf_170 (by decide) ?_
    refine gx_ialdK hx hb0 hK hP (b1 + 1) 0 (vb_lt hb1 (by decide)) (cE_1 hb1) rfl (vp_lit (0 : Int32) (by decide) (by decide)) 0 rfl dX6_numberOf_171 ?_
    refine lv_bipush (v := (30 : Int32)) hx hb0 dX6_numberOf_172 (by decide) ?_
    refine lv_iadd hx hb0 dX6_numberOf_174 ?_
    exact gx_iret hx hb0 hr hlocks hK hP hD hS he dX6_numberOf_175
  have he := he.2 c_22
  by_cases c_23 : x1 = 12
  · have he := he.1 c_23
    refine lv_tableIn (off := 175) (tgt := 176) hx hb0 dX6_numberOf_1 (by rw [c_23]; decide) (by rw [c_23]; decide) (by rw [c_23]; rfl) (by decide) ?_
    refine lv_aload_n hx hb0 dX6_numberOf_176 rfl (lv_at hl 0 rfl) ?_
    refine gx_get hx hb0 hts in_RX6 hown hK hP b1 (vb_lt0 hb1) ((cE_0 hb1) _) rfl 0 (by decide) fl_RX6_9 rfl dX6_numberOf_177 ?_
    refine lv_iconst (v := (1 : Int32)) hx hb0 dX6_numberOf_180 (by decide) ?_
    refine gx_ialdK hx hb0 hK hP (b1 + 1) 0 (vb_lt hb1 (by decide)) (cE_1 hb1) rfl (vp_lit (1 : Int32) (by decide) (by decide)) 1 rfl dX6_numberOf_181 ?_
    exact gx_iret hx hb0 hr hlocks hK hP hD hS he dX6_numberOf_182
  have he := he.2 c_23
  by_cases c_24 : x1 = 13
  · have he := he.1 c_24
    refine lv_tableIn (off := 182) (tgt := 183) hx hb0 dX6_numberOf_1 (by rw [c_24]; decide) (by rw [c_24]; decide) (by rw [c_24]; rfl) (by decide) ?_
    refine lv_aload_n hx hb0 dX6_numberOf_183 rfl (lv_at hl 0 rfl) ?_
    refine gx_get hx hb0 hts in_RX6 hown hK hP b1 (vb_lt0 hb1) ((cE_0 hb1) _) rfl 0 (by decide) fl_RX6_9 rfl dX6_numberOf_184 ?_
    refine lv_iconst (v := (2 : Int32)) hx hb0 dX6_numberOf_187 (by decide) ?_
    refine gx_ialdK hx hb0 hK hP (b1 + 1) 0 (vb_lt hb1 (by decide)) (cE_1 hb1) rfl (vp_lit (2 : Int32) (by decide) (by decide)) 2 rfl dX6_numberOf_188 ?_
    exact gx_iret hx hb0 hr hlocks hK hP hD hS he dX6_numberOf_189
  have he := he.2 c_24
  by_cases c_25 : x1 = 14
  · have he := he.1 c_25
    refine lv_tableIn (off := 189) (tgt := 190) hx hb0 dX6_numberOf_1 (by rw [c_25]; decide) (by rw [c_25]; decide) (by rw [c_25]; rfl) (by decide) ?_
    refine lv_aload_n hx hb0 dX6_numberOf_190 rfl (lv_at hl 0 rfl) ?_
    refine gx_get hx hb0 hts in_RX6 hown hK hP b1 (vb_lt0 hb1) ((cE_0 hb1) _) rfl 0 (by decide) fl_RX6_9 rfl dX6_numberOf_191 ?_
    refine lv_iconst (v := (3 : Int32)) hx hb0 dX6_numberOf_194 (by decide) ?_
    refine gx_ialdK hx hb0 hK hP (b1 + 1) 0 (vb_lt hb1 (by decide)) (cE_1 hb1) rfl (vp_lit (3 : Int32) (by decide) (by decide)) 3 rfl dX6_numberOf_195 ?_
    exact gx_iret hx hb0 hr hlocks hK hP hD hS he dX6_numberOf_196
  have he := he.2 c_25
  refine lv_tableOut (tgt := 197) hx hb0 dX6_numberOf_1 (by have z0 := lv_neT c_1 (a := 0) rfl; have z1 := lv_neT c_2 (a := 1) rfl; have z2 := lv_neT c_5 (a := 2) rfl; have z3 := lv_neT c_6 (a := 3) rfl; have z4 := lv_neT c_7 (a := 4) rfl; have z5 := lv_neT c_8 (a := 5) rfl; have z6 := lv_neT c_11 (a := 6) rfl; have z7 := lv_neT c_12 (a := 7) rfl; have z8 := lv_neT c_13 (a := 8) rfl; have z9 := lv_neT c_16 (a := 9) rfl; have z10 := lv_neT c_19 (a := 10) rfl; have z11 := lv_neT c_22 (a := 11) rfl; have z12 := lv_neT c_23 (a := 12) rfl; have z13 := lv_neT c_24 (a := 13) rfl; have z14 := lv_neT c_25 (a := 14) rfl; omega) (by decide) ?_
  refine lv_bipush (v := (-2 : Int32)) hx hb0 dX6_numberOf_197 (by decide) ?_
  exact gx_iret hx hb0 hr hlocks hK hP hD hS he dX6_numberOf_199
theorem gm_X6_numberOf : gMeth yX6_numberOf cX6_numberOf 2 (some .int) 1 := ⟨⟨by decide, by decide, by decide +kernel⟩, ini_RX6, co_yX6_numberOf⟩
abbrev rm_X6_highestStar : Room := { frames := 2, cells := 0, slots := 0, locals := 35 }
set_option maxHeartbeats 4000000 in
set_option maxRecDepth 100000 in
theorem l_X6_highestStar_5 (l : Launch) (dC : Nat → ClassId) (dI : Nat → Nat → Nat) (P : gP) (ad : Nat → Nat) (tb : Nat → Nat) (b1 : Nat) (hb1 : vb b1) {p : Program} {e : Env} {s : State} {m : MethodId} {args : Array Value} {below : List Frame} {meth : Method} {c : Code} (hx : p.tables.exec = Jvm.exec) (hb0 : c.code = cX6_highestStar) (hr : meth.sig.returnType = (some .int)) (hlocks : meth.locks = false) (hml : c.maxLocals = 4) (hown : s.vm.findClass RX6 = some m.cls) (hts : ∀ w ∈ TB, w.before args s = true) (hK : va_K (dC, dI) vwCl (tyC P) s) (hk : (gKC tb (gA 162 ad)) s) (Q : Int32 → Hp → Prop) : ∀ (n : Nat) (y1 : Int32) (y2 : Int32) (h0 : Hp), F_X6_highestStar_L5 b1 n y1 y2 h0 Q → ∀ (H : Heap) (locs : List Loc) (ls : Array Slot), va_P (dC, dI) vwCl (gW 162 (cE P ad) ad h0) H → va_D (gA 162 ad) (gW 162 (cE P ad) ad h0) → va_S (gA 162 ad) s.heap H locs → lv_has ls 4 [(0, .ref (ad b1)), (1, .int y1), (2, .int y2)] → W p l e rm_X6_highestStar s m args below meth c H locs 0 0 (MQ below (gQi (dC, dI) vwCl (tyC P) 162 (cE P ad) ad Q) args s 0 0 (gA 162 ad)) (F0 m 5 ls []) := by
  intro n
  induction n with
  | zero =>
    intro y1 y2 h0 he
    exact he.elim
  | succ n ih =>
    intro y1 y2 h0 he H locs ls hP hD hS hl
    rw [F_X6_highestStar_L5] at he
    refine lv_iload_n hx hb0 dX6_highestStar_5 rfl (lv_at hl 2 rfl) ?_
    refine lv_aload_n hx hb0 dX6_highestStar_6 rfl (lv_at hl 0 rfl) ?_
    refine gx_get hx hb0 hts in_RX6 hown hK hP b1 (vb_lt0 hb1) ((cE_0 hb1) _) rfl 1 (by decide) fl_RX6_18 rfl dX6_highestStar_7 ?_
    refine gx_get hx hb0 hts in_RX5 hown hK hP (b1 + 2) (vb_lt hb1 (by decide)) ((cE_2 hb1) _) rfl 0 (by decide) fl_RX6_85 rfl dX6_highestStar_10 ?_
    refine lv_icmp_ge (tgt := 78) hx hb0 dX6_highestStar_13 (by decide) (fun c_1 => ?_) (fun c_1 => ?_)
    · have he := he.1 c_1
      refine lv_iload_n hx hb0 dX6_highestStar_78 rfl (lv_at hl 1 rfl) ?_
      exact gx_iret hx hb0 hr hlocks hK hP hD hS he dX6_highestStar_79
    · have he := he.2 c_1
      refine lv_aload_n hx hb0 dX6_highestStar_16 rfl (lv_at hl 0 rfl) ?_
      refine gx_get hx hb0 hts in_RX6 hown hK hP b1 (vb_lt0 hb1) ((cE_0 hb1) _) rfl 1 (by decide) fl_RX6_18 rfl dX6_highestStar_17 ?_
      refine lv_iload_n hx hb0 dX6_highestStar_20 rfl (lv_at hl 2 rfl) ?_
      refine gx_vi ⟨hx, hb0, hml, hown, hts⟩ (gKC_keep _ _) hk hK hP hD hS (b1 + 2) [.int y2] [] (c_X5_cloudBefore l dC dI P ad tb b1 hb1 y2 h0 _ he) gm_X5_cloudBefore im_yX5_cloudBefore se_yX5_cloudBefore ml_RX6_97 (vb_lt hb1 (by decide)) ((cE_2 hb1) _) rfl rfl rfl ⟨Nat.le_of_ble_eq_true rfl, Nat.le_of_ble_eq_true rfl⟩ rfl hl.1 rfl (Nat.le_of_ble_eq_true rfl) dX6_highestStar_21 ⟨Nat.zero_le _, Nat.zero_le _⟩ (fun r_2 h_3 he H locs hP hD hS => ?_)
      refine lv_if_ne (tgt := 45) hx hb0 dX6_highestStar_24 (by decide) (fun c_4 => ?_) (fun c_4 => ?_)
      · have he := he.2 c_4
        refine lv_iconst (v := (0 : Int32)) hx hb0 dX6_highestStar_45 (by decide) ?_
        refine lv_istore_n (lv' := [(3, .int (0 : Int32)), (0, .ref (ad b1)), (1, .int y1), (2, .int y2)]) hx hb0 dX6_highestStar_46 rfl hl (by decide) rfl (fun ls hl => ?_)
        refine lv_iload_n hx hb0 dX6_highestStar_47 rfl (lv_at hl 0 rfl) ?_
        refine lv_if_eq (tgt := 72) hx hb0 dX6_highestStar_48 (by decide) (fun c_5 => ?_) (fun c_5 => ?_)
        · obtain ⟨x_6, ex_6⟩ : ∃ y : Int32, y = y2 + 1 := ⟨_, rfl⟩
          have he := he x_6 ex_6
          refine lv_iinc (v := x_6) (lv' := [(2, .int x_6), (3, .int (0 : Int32)), (0, .ref (ad b1)), (1, .int y1)]) hx hb0 dX6_highestStar_72 hl (k := 3) rfl (by rw [ex_6]; rfl) (by decide) rfl (fun ls hl => ?_)
          refine lv_goto (tgt := 5) hx hb0 dX6_highestStar_75 (by decide) ?_
          exact ih y1 x_6 h_3 he _ _ ls hP hD hS (lv_sub hl [2, 3, 0] rfl)
        · exact absurd c_5 (by decide)
      · have he := he.1 c_4
        refine lv_aload_n hx hb0 dX6_highestStar_27 rfl (lv_at hl 0 rfl) ?_
        refine lv_iload_n hx hb0 dX6_highestStar_28 rfl (lv_at hl 2 rfl) ?_
        refine gx_vi ⟨hx, hb0, hml, hown, hts⟩ (gKC_keep _ _) hk hK hP hD hS b1 [.int y2] [] (c_X6_heightOf l dC dI P ad tb b1 hb1 y2 h_3 _ he) gm_X6_heightOf im_yX6_heightOf se_yX6_heightOf ml_RX6_141 (vb_lt0 hb1) ((cE_0 hb1) _) rfl rfl rfl ⟨Nat.le_of_ble_eq_true rfl, Nat.le_of_ble_eq_true rfl⟩ rfl hl.1 rfl (Nat.le_of_ble_eq_true rfl) dX6_highestStar_29 ⟨Nat.zero_le _, Nat.zero_le _⟩ (fun r_7 h_8 he H locs hP hD hS => ?_)
        refine lv_aload_n hx hb0 dX6_highestStar_32 rfl (lv_at hl 0 rfl) ?_
        refine gx_get hx hb0 hts in_RX6 hown hK hP b1 (vb_lt0 hb1) ((cE_0 hb1) _) rfl 0 (by decide) fl_RX6_9 rfl dX6_highestStar_33 ?_
        refine lv_iconst (v := (3 : Int32)) hx hb0 dX6_highestStar_36 (by decide) ?_
        refine gx_ialdK hx hb0 hK hP (b1 + 1) 0 (vb_lt hb1 (by decide)) (cE_1 hb1) rfl (vp_lit (3 : Int32) (by decide) (by decide)) 3 rfl dX6_highestStar_37 ?_
        refine lv_icmp_lt (tgt := 45) hx hb0 dX6_highestStar_38 (by decide) (fun c_9 => ?_) (fun c_9 => ?_)
        · have he := he.1 c_9
          refine lv_iconst (v := (0 : Int32)) hx hb0 dX6_highestStar_45 (by decide) ?_
          refine lv_istore_n (lv' := [(3, .int (0 : Int32)), (0, .ref (ad b1)), (1, .int y1), (2, .int y2)]) hx hb0 dX6_highestStar_46 rfl hl (by decide) rfl (fun ls hl => ?_)
          refine lv_iload_n hx hb0 dX6_highestStar_47 rfl (lv_at hl 0 rfl) ?_
          refine lv_if_eq (tgt := 72) hx hb0 dX6_highestStar_48 (by decide) (fun c_10 => ?_) (fun c_10 => ?_)
          · obtain ⟨x_11, ex_11⟩ : ∃ y : Int32, y = y2 + 1 := ⟨_, rfl⟩
            have he := he x_11 ex_11
            refine lv_iinc (v := x_11) (lv' := [(2, .int x_11), (3, .int (0 : Int32)), (0, .ref (ad b1)), (1, .int y1)]) hx hb0 dX6_highestStar_72 hl (k := 3) rfl (by rw [ex_11]; rfl) (by decide) rfl (fun ls hl => ?_)
            refine lv_goto (tgt := 5) hx hb0 dX6_highestStar_75 (by decide) ?_
            exact ih y1 x_11 h_8 he _ _ ls hP hD hS (lv_sub hl [2, 3, 0] rfl)
          · exact absurd c_10 (by decide)
        · have he := he.2 c_9
          refine lv_iconst (v := (1 : Int32)) hx hb0 dX6_highestStar_41 (by decide) ?_
          refine lv_goto (tgt := 46) hx hb0 dX6_highestStar_42 (by decide) ?_
          refine lv_istore_n (lv' := [(3, .int (1 : Int32)), (0, .ref (ad b1)), (1, .int y1), (2, .int y2)]) hx hb0 dX6_highestStar_46 rfl hl (by decide) rfl (fun ls hl => ?_)
          refine lv_iload_n hx hb0 dX6_highestStar_47 rfl (lv_at hl 0 rfl) ?_
          refine lv_if_eq (tgt := 72) hx hb0 dX6_highestStar_48 (by decide) (fun c_12 => ?_) (fun c_12 => ?_)
          · exact absurd c_12 (by decide)
          · refine lv_iload_n hx hb0 dX6_highestStar_51 rfl (lv_at hl 2 rfl) ?_
            refine lv_bipush (v := (-6 : Int32)) hx hb0 dX6_highestStar_52 (by decide) ?_
            refine lv_icmp_eq (tgt := 70) hx hb0 dX6_highestStar_54 (by decide) (fun c_13 => ?_) (fun c_13 => ?_)
            · have he := he.1 c_13
              refine lv_iload_n hx hb0 dX6_highestStar_70 rfl (lv_at hl 3 rfl) ?_
              refine lv_istore_n (lv' := [(1, .int y2), (3, .int (1 : Int32)), (0, .ref (ad b1)), (2, .int y2)]) hx hb0 dX6_highestStar_71 rfl hl (by decide) rfl (fun ls hl => ?_)
              obtain ⟨x_14, ex_14⟩ : ∃ y : Int32, y = y2 + 1 := ⟨_, rfl⟩
              have he := he x_14 ex_14
              refine lv_iinc (v := x_14) (lv' := [(2, .int x_14), (1, .int y2), (3, .int (1 : Int32)), (0, .ref (ad b1))]) hx hb0 dX6_highestStar_72 hl (k := 3) rfl (by rw [ex_14]; rfl) (by decide) rfl (fun ls hl => ?_)
              refine lv_goto (tgt := 5) hx hb0 dX6_highestStar_75 (by decide) ?_
              exact ih y2 x_14 h_8 he _ _ ls hP hD hS (lv_sub hl [3, 1, 0] rfl)
            · have he := he.2 c_13
              refine lv_aload_n hx hb0 dX6_highestStar_57 rfl (lv_at hl 1 rfl) ?_
              refine lv_iload_n hx hb0 dX6_highestStar_58 rfl (lv_at hl 3 rfl) ?_
              refine gx_vi ⟨hx, hb0, hml, hown, hts⟩ (gKC_keep _ _) hk hK hP hD hS b1 [.int y2] [] (c_X6_heightOf l dC dI P ad tb b1 hb1 y2 h_8 _ he) gm_X6_heightOf im_yX6_heightOf se_yX6_heightOf ml_RX6_141 (vb_lt0 hb1) ((cE_0 hb1) _) rfl rfl rfl ⟨Nat.le_of_ble_eq_true rfl, Nat.le_of_ble_eq_true rfl⟩ rfl hl.1 rfl (Nat.le_of_ble_eq_true rfl) dX6_highestStar_59 ⟨Nat.zero_le _, Nat.zero_le _⟩ (fun r_15 h_16 he H locs hP hD hS => ?_)
              refine lv_aload_n hx hb0 dX6_highestStar_62 rfl (lv_at hl 1 rfl) ?_
              refine lv_iload_n hx hb0 dX6_highestStar_63 rfl (lv_at hl 2 rfl) ?_
              refine gx_vi ⟨hx, hb0, hml, hown, hts⟩ (gKC_keep _ _) hk hK hP hD hS b1 [.int y1] [.int r_15] (c_X6_heightOf l dC dI P ad tb b1 hb1 y1 h_16 _ he) gm_X6_heightOf im_yX6_heightOf se_yX6_heightOf ml_RX6_141 (vb_lt0 hb1) ((cE_0 hb1) _) rfl rfl rfl ⟨Nat.le_of_ble_eq_true rfl, Nat.le_of_ble_eq_true rfl⟩ rfl hl.1 rfl (Nat.le_of_ble_eq_true rfl) dX6_highestStar_64 ⟨Nat.zero_le _, Nat.zero_le _⟩ (fun r_17 h_18 he H locs hP hD hS => ?_)
              refine lv_icmp_le (tgt := 72) hx hb0 dX6_highestStar_67 (by decide) (fun c_19 => ?_) (fun c_19 => ?_)
              · have he := he.1 c_19
                obtain ⟨x_20, ex_20⟩ : ∃ y : Int32, y = y2 + 1 := ⟨_, rfl⟩
                have he := he x_20 ex_20
                refine lv_iinc (v := x_20) (lv' := [(2, .int x_20), (3, .int (1 : Int32)), (0, .ref (ad b1)), (1, .int y1)]) hx hb0 dX6_highestStar_72 hl (k := 3) rfl (by rw [ex_20]; rfl) (by decide) rfl (fun ls hl => ?_)
                refine lv_goto (tgt := 5) hx hb0 dX6_highestStar_75 (by decide) ?_
                exact ih y1 x_20 h_18 he _ _ ls hP hD hS (lv_sub hl [2, 3, 0] rfl)
              · have he := he.2 c_19
                refine lv_iload_n hx hb0 dX6_highestStar_70 rfl (lv_at hl 3 rfl) ?_
                refine lv_istore_n (lv' := [(1, .int y2), (3, .int (1 : Int32)), (0, .ref (ad b1)), (2, .int y2)]) hx hb0 dX6_highestStar_71 rfl hl (by decide) rfl (fun ls hl => ?_)
                obtain ⟨x_21, ex_21⟩ : ∃ y : Int32, y = y2 + 1 := ⟨_, rfl⟩
                have he := he x_21 ex_21
                refine lv_iinc (v := x_21) (lv' := [(2, .int x_21), (1, .int y2), (3, .int (1 : Int32)), (0, .ref (ad b1))]) hx hb0 dX6_highestStar_72 hl (k := 3) rfl (by rw [ex_21]; rfl) (by decide) rfl (fun ls hl => ?_)
                refine lv_goto (tgt := 5) hx hb0 dX6_highestStar_75 (by decide) ?_
                exact ih y2 x_21 h_18 he _ _ ls hP hD hS (lv_sub hl [3, 1, 0] rfl)
set_option maxHeartbeats 4000000 in
set_option maxRecDepth 100000 in
theorem c_X6_highestStar (l : Launch) (dC : Nat → ClassId) (dI : Nat → Nat → Nat) (P : gP) (ad : Nat → Nat) (tb : Nat → Nat) (b1 : Nat) (hb1 : vb b1) (h0 : Hp) (Q : Int32 → Hp → Prop) (he : F_X6_highestStar b1 h0 Q) : Met l yX6_highestStar (Cond.code yX6_highestStar cX6_highestStar 4 (some .int) :: TB) rm_X6_highestStar (gPc (dC, dI) vwCl (tyC P) 162 (cE P ad) ad (gKC tb (gA 162 ad)) h0 [.ref (ad b1)]) (gQi (dC, dI) vwCl (tyC P) 162 (cE P ad) ad Q) 0 0 (gA 162 ad) := by
  refine gx_start (by decide) (Nat.le_of_ble_eq_true rfl) (fun p e s m below meth c ls hx hb0 hr hlocks hml hown hts hK hk hP hD hS hl => ?_)
  have hl : lv_has ls 4 [(0, .ref (ad b1))] := hl
  have hown : s.vm.findClass RX6 = some m.cls := hown
  unfold F_X6_highestStar at he
  refine lv_bipush (v := (-6 : Int32)) hx hb0 dX6_highestStar_0 (by decide) ?_
  refine lv_istore_n (lv' := [(1, .int (-6 : Int32)), (0, .ref (ad b1))]) hx hb0 dX6_highestStar_2 rfl hl (by decide) rfl (fun ls hl => ?_)
  refine lv_iconst (v := (0 : Int32)) hx hb0 dX6_highestStar_3 (by decide) ?_
  refine lv_istore_n (lv' := [(2, .int (0 : Int32)), (1, .int (-6 : Int32)), (0, .ref (ad b1))]) hx hb0 dX6_highestStar_4 rfl hl (by decide) rfl (fun ls hl => ?_)
  obtain ⟨n_22, he⟩ := he
  exact l_X6_highestStar_5 l dC dI P ad tb b1 hb1 hx hb0 hr hlocks hml hown hts hK hk Q n_22 (-6 : Int32) (0 : Int32) h0 he _ _ ls hP hD hS (lv_sub hl [2, 1, 0] rfl)
theorem gm_X6_highestStar : gMeth yX6_highestStar cX6_highestStar 4 (some .int) 0 := ⟨⟨by decide, by decide, by decide +kernel⟩, ini_RX6, co_yX6_highestStar⟩
abbrev rm_X6_nearestNavigator : Room := { frames := 1, cells := 0, slots := 0, locals := 13 }
set_option maxHeartbeats 4000000 in
set_option maxRecDepth 100000 in
theorem l_X6_nearestNavigator_21 (l : Launch) (dC : Nat → ClassId) (dI : Nat → Nat → Nat) (P : gP) (ad : Nat → Nat) (tb : Nat → Nat) (b1 : Nat) (hb1 : vb b1) {p : Program} {e : Env} {s : State} {m : MethodId} {args : Array Value} {below : List Frame} {meth : Method} {c : Code} (hx : p.tables.exec = Jvm.exec) (hb0 : c.code = cX6_nearestNavigator) (hr : meth.sig.returnType = (some .int)) (hlocks : meth.locks = false) (hml : c.maxLocals = 6) (hown : s.vm.findClass RX6 = some m.cls) (hts : ∀ w ∈ TB, w.before args s = true) (hK : va_K (dC, dI) vwCl (tyC P) s) (hk : (gKC tb (gA 162 ad)) s) (Q : Int32 → Hp → Prop) : ∀ (n : Nat) (y1 : Int32) (y2 : Int32) (y3 : Int32) (y4 : Int32) (h0 : Hp), F_X6_nearestNavigator_L21 b1 n y1 y2 y3 y4 h0 Q → ∀ (H : Heap) (locs : List Loc) (ls : Array Slot), va_P (dC, dI) vwCl (gW 162 (cE P ad) ad h0) H → va_D (gA 162 ad) (gW 162 (cE P ad) ad h0) → va_S (gA 162 ad) s.heap H locs → lv_has ls 6 [(0, .ref (ad b1)), (1, .int y1), (2, .int y2), (3, .int y3), (4, .int y4)] → W p l e rm_X6_nearestNavigator s m args below meth c H locs 0 0 (MQ below (gQi (dC, dI) vwCl (tyC P) 162 (cE P ad) ad Q) args s 0 0 (gA 162 ad)) (F0 m 21 ls []) := by
  intro n
  induction n with
  | zero =>
    intro y1 y2 y3 y4 h0 he
    exact he.elim
  | succ n ih =>
    intro y1 y2 y3 y4 h0 he H locs ls hP hD hS hl
    rw [F_X6_nearestNavigator_L21] at he
    refine lv_iload hx hb0 dX6_nearestNavigator_21 (lv_at hl 4 rfl) ?_
    refine lv_bipush (v := (7 : Int32)) hx hb0 dX6_nearestNavigator_23 (by decide) ?_
    refine lv_icmp_ge (tgt := 91) hx hb0 dX6_nearestNavigator_25 (by decide) (fun c_2 => ?_) (fun c_2 => ?_)
    · have he := he.1 c_2
      refine lv_iload_n hx hb0 dX6_nearestNavigator_91 rfl (lv_at hl 1 rfl) ?_
      refine lv_if_ne (tgt := 99) hx hb0 dX6_nearestNavigator_92 (by decide) (fun c_3 => ?_) (fun c_3 => ?_)
      · have he := he.2 c_3
        refine lv_iload_n hx hb0 dX6_nearestNavigator_99 rfl (lv_at hl 3 rfl) ?_
        exact gx_iret hx hb0 hr hlocks hK hP hD hS he dX6_nearestNavigator_100
      · have he := he.1 c_3
        refine lv_iload_n hx hb0 dX6_nearestNavigator_95 rfl (lv_at hl 2 rfl) ?_
        refine lv_goto (tgt := 100) hx hb0 dX6_nearestNavigator_96 (by decide) ?_
        exact gx_iret hx hb0 hr hlocks hK hP hD hS he dX6_nearestNavigator_100
    · have he := he.2 c_2
      refine lv_aload_n hx hb0 dX6_nearestNavigator_28 rfl (lv_at hl 0 rfl) ?_
      refine gx_get hx hb0 hts in_RX6 hown hK hP b1 (vb_lt0 hb1) ((cE_0 hb1) _) rfl 2 (by decide) fl_RX6_25 rfl dX6_nearestNavigator_29 ?_
      refine gx_get hx hb0 hts in_RX1 hown hK hP (b1 + 4) (vb_lt hb1 (by decide)) ((cE_4 hb1) _) rfl 5 (by decide) fl_RX6_129 rfl dX6_nearestNavigator_32 ?_
      refine lv_iload hx hb0 dX6_nearestNavigator_35 (lv_at hl 4 rfl) ?_
      obtain ⟨v_4, he⟩ := he
      refine gx_iald hx hb0 hK hP (b1 + 10) 0 (vb_lt hb1 (by decide)) (cE_10 hb1) rfl v_4 dX6_nearestNavigator_37 ?_
      refine lv_sipush (v := (9999 : Int32)) hx hb0 dX6_nearestNavigator_38 (by decide) ?_
      refine lv_icmp_eq (tgt := 85) hx hb0 dX6_nearestNavigator_41 (by decide) (fun c_5 => ?_) (fun c_5 => ?_)
      · have he := he.1 c_5
        obtain ⟨x_6, ex_6⟩ : ∃ y : Int32, y = y4 + 1 := ⟨_, rfl⟩
        have he := he x_6 ex_6
        refine lv_iinc (v := x_6) (lv' := [(4, .int x_6), (0, .ref (ad b1)), (1, .int y1), (2, .int y2), (3, .int y3)]) hx hb0 dX6_nearestNavigator_85 hl (k := 4) rfl (by rw [ex_6]; rfl) (by decide) rfl (fun ls hl => ?_)
        refine lv_goto (tgt := 21) hx hb0 dX6_nearestNavigator_88 (by decide) ?_
        exact ih y1 y2 y3 x_6 h0 he _ _ ls hP hD hS (lv_sub hl [1, 2, 3, 4, 0] rfl)
      · have he := he.2 c_5
        refine lv_aload_n hx hb0 dX6_nearestNavigator_44 rfl (lv_at hl 0 rfl) ?_
        refine gx_get hx hb0 hts in_RX6 hown hK hP b1 (vb_lt0 hb1) ((cE_0 hb1) _) rfl 2 (by decide) fl_RX6_25 rfl dX6_nearestNavigator_45 ?_
        refine gx_get hx hb0 hts in_RX1 hown hK hP (b1 + 4) (vb_lt hb1 (by decide)) ((cE_4 hb1) _) rfl 5 (by decide) fl_RX6_129 rfl dX6_nearestNavigator_48 ?_
        refine lv_iload hx hb0 dX6_nearestNavigator_51 (lv_at hl 4 rfl) ?_
        obtain ⟨v_7, he⟩ := he
        refine gx_iald hx hb0 hK hP (b1 + 10) 0 (vb_lt hb1 (by decide)) (cE_10 hb1) rfl v_7 dX6_nearestNavigator_53 ?_
        refine lv_aload_n hx hb0 dX6_nearestNavigator_54 rfl (lv_at hl 0 rfl) ?_
        refine gx_get hx hb0 hts in_RX6 hown hK hP b1 (vb_lt0 hb1) ((cE_0 hb1) _) rfl 3 (by decide) fl_RX6_32 rfl dX6_nearestNavigator_55 ?_
        refine gx_get hx hb0 hts in_RX0 hown hK hP (b1 + 12) (crs_lt (isCrs_v hb1)) ((cE_crs (isCrs_v hb1)) _) rfl 0 (by decide) fl_RX6_155 rfl dX6_nearestNavigator_58 ?_
        refine lv_isub hx hb0 dX6_nearestNavigator_61 ?_
        refine va_mabs hx hb0 (hml.trans hl.1.symm) hown (hts _ ml_RX6_147) (hts _ st_Lib_Math_abs_name) (hts _ ini_RJ9) (hts _ co_Lib_Math_abs_name) (Nat.le_of_ble_eq_true rfl) (Nat.le_of_ble_eq_true rfl) (Nat.zero_le _) (Nat.zero_le _) dX6_nearestNavigator_62 ?_
        refine lv_topi (fun x_8 ex_8 => ?_)
        have he := he x_8 ex_8
        refine lv_istore (lv' := [(5, .int x_8), (0, .ref (ad b1)), (1, .int y1), (2, .int y2), (3, .int y3), (4, .int y4)]) hx hb0 dX6_nearestNavigator_65 hl (by decide) rfl (fun ls hl => ?_)
        refine lv_iload_n hx hb0 dX6_nearestNavigator_67 rfl (lv_at hl 3 rfl) ?_
        refine lv_bipush (v := (-6 : Int32)) hx hb0 dX6_nearestNavigator_68 (by decide) ?_
        refine lv_icmp_eq (tgt := 79) hx hb0 dX6_nearestNavigator_70 (by decide) (fun c_9 => ?_) (fun c_9 => ?_)
        · have he := he.1 c_9
          refine lv_iload hx hb0 dX6_nearestNavigator_79 (lv_at hl 5 rfl) ?_
          refine lv_istore_n (lv' := [(2, .int y4), (5, .int x_8), (0, .ref (ad b1)), (1, .int y1), (3, .int y3), (4, .int y4)]) hx hb0 dX6_nearestNavigator_81 rfl hl (by decide) rfl (fun ls hl => ?_)
          refine lv_iload hx hb0 dX6_nearestNavigator_82 (lv_at hl 1 rfl) ?_
          refine lv_istore_n (lv' := [(3, .int x_8), (2, .int y4), (5, .int x_8), (0, .ref (ad b1)), (1, .int y1), (4, .int y4)]) hx hb0 dX6_nearestNavigator_84 rfl hl (by decide) rfl (fun ls hl => ?_)
          obtain ⟨x_10, ex_10⟩ : ∃ y : Int32, y = y4 + 1 := ⟨_, rfl⟩
          have he := he x_10 ex_10
          refine lv_iinc (v := x_10) (lv' := [(4, .int x_10), (3, .int x_8), (2, .int y4), (5, .int x_8), (0, .ref (ad b1)), (1, .int y1)]) hx hb0 dX6_nearestNavigator_85 hl (k := 5) rfl (by rw [ex_10]; rfl) (by decide) rfl (fun ls hl => ?_)
          refine lv_goto (tgt := 21) hx hb0 dX6_nearestNavigator_88 (by decide) ?_
          exact ih y1 y4 x_8 x_10 h0 he _ _ ls hP hD hS (lv_sub hl [4, 5, 2, 1, 0] rfl)
        · have he := he.2 c_9
          refine lv_iload hx hb0 dX6_nearestNavigator_73 (lv_at hl 0 rfl) ?_
          refine lv_iload_n hx hb0 dX6_nearestNavigator_75 rfl (lv_at hl 4 rfl) ?_
          refine lv_icmp_ge (tgt := 85) hx hb0 dX6_nearestNavigator_76 (by decide) (fun c_11 => ?_) (fun c_11 => ?_)
          · have he := he.1 c_11
            obtain ⟨x_12, ex_12⟩ : ∃ y : Int32, y = y4 + 1 := ⟨_, rfl⟩
            have he := he x_12 ex_12
            refine lv_iinc (v := x_12) (lv' := [(4, .int x_12), (5, .int x_8), (0, .ref (ad b1)), (1, .int y1), (2, .int y2), (3, .int y3)]) hx hb0 dX6_nearestNavigator_85 hl (k := 5) rfl (by rw [ex_12]; rfl) (by decide) rfl (fun ls hl => ?_)
            refine lv_goto (tgt := 21) hx hb0 dX6_nearestNavigator_88 (by decide) ?_
            exact ih y1 y2 y3 x_12 h0 he _ _ ls hP hD hS (lv_sub hl [2, 3, 4, 5, 0] rfl)
          · have he := he.2 c_11
            refine lv_iload hx hb0 dX6_nearestNavigator_79 (lv_at hl 5 rfl) ?_
            refine lv_istore_n (lv' := [(2, .int y4), (5, .int x_8), (0, .ref (ad b1)), (1, .int y1), (3, .int y3), (4, .int y4)]) hx hb0 dX6_nearestNavigator_81 rfl hl (by decide) rfl (fun ls hl => ?_)
            refine lv_iload hx hb0 dX6_nearestNavigator_82 (lv_at hl 1 rfl) ?_
            refine lv_istore_n (lv' := [(3, .int x_8), (2, .int y4), (5, .int x_8), (0, .ref (ad b1)), (1, .int y1), (4, .int y4)]) hx hb0 dX6_nearestNavigator_84 rfl hl (by decide) rfl (fun ls hl => ?_)
            obtain ⟨x_13, ex_13⟩ : ∃ y : Int32, y = y4 + 1 := ⟨_, rfl⟩
            have he := he x_13 ex_13
            refine lv_iinc (v := x_13) (lv' := [(4, .int x_13), (3, .int x_8), (2, .int y4), (5, .int x_8), (0, .ref (ad b1)), (1, .int y1)]) hx hb0 dX6_nearestNavigator_85 hl (k := 5) rfl (by rw [ex_13]; rfl) (by decide) rfl (fun ls hl => ?_)
            refine lv_goto (tgt := 21) hx hb0 dX6_nearestNavigator_88 (by decide) ?_
            exact ih y1 y4 x_8 x_13 h0 he _ _ ls hP hD hS (lv_sub hl [4, 5, 2, 1, 0] rfl)
set_option maxHeartbeats 4000000 in
set_option maxRecDepth 100000 in
theorem c_X6_nearestNavigator (l : Launch) (dC : Nat → ClassId) (dI : Nat → Nat → Nat) (P : gP) (ad : Nat → Nat) (tb : Nat → Nat) (b1 : Nat) (hb1 : vb b1) (x1 : Int32) (h0 : Hp) (Q : Int32 → Hp → Prop) (he : F_X6_nearestNavigator b1 x1 h0 Q) : Met l yX6_nearestNavigator (Cond.code yX6_nearestNavigator cX6_nearestNavigator 6 (some .int) :: TB) rm_X6_nearestNavigator (gPc (dC, dI) vwCl (tyC P) 162 (cE P ad) ad (gKC tb (gA 162 ad)) h0 [.ref (ad b1), .int x1]) (gQi (dC, dI) vwCl (tyC P) 162 (cE P ad) ad Q) 0 0 (gA 162 ad) := by
  refine gx_start (by decide) (Nat.le_of_ble_eq_true rfl) (fun p e s m below meth c ls hx hb0 hr hlocks hml hown hts hK hk hP hD hS hl => ?_)
  have hl : lv_has ls 6 [(0, .ref (ad b1)), (1, .int x1)] := hl
  have hown : s.vm.findClass RX6 = some m.cls := hown
  unfold F_X6_nearestNavigator at he
  refine lv_iload_n hx hb0 dX6_nearestNavigator_0 rfl (lv_at hl 1 rfl) ?_
  refine lv_if_eq (tgt := 12) hx hb0 dX6_nearestNavigator_1 (by decide) (fun c_1 => ?_) (fun c_1 => ?_)
  · have he := he.1 c_1
    refine lv_bipush (v := (-6 : Int32)) hx hb0 dX6_nearestNavigator_12 (by decide) ?_
    refine lv_istore_n (lv' := [(2, .int (-6 : Int32)), (0, .ref (ad b1)), (1, .int x1)]) hx hb0 dX6_nearestNavigator_14 rfl hl (by decide) rfl (fun ls hl => ?_)
    refine lv_bipush (v := (-6 : Int32)) hx hb0 dX6_nearestNavigator_15 (by decide) ?_
    refine lv_istore_n (lv' := [(3, .int (-6 : Int32)), (2, .int (-6 : Int32)), (0, .ref (ad b1)), (1, .int x1)]) hx hb0 dX6_nearestNavigator_17 rfl hl (by decide) rfl (fun ls hl => ?_)
    refine lv_iconst (v := (0 : Int32)) hx hb0 dX6_nearestNavigator_18 (by decide) ?_
    refine lv_istore (lv' := [(4, .int (0 : Int32)), (3, .int (-6 : Int32)), (2, .int (-6 : Int32)), (0, .ref (ad b1)), (1, .int x1)]) hx hb0 dX6_nearestNavigator_19 hl (by decide) rfl (fun ls hl => ?_)
    obtain ⟨n_14, he⟩ := he
    exact l_X6_nearestNavigator_21 l dC dI P ad tb b1 hb1 hx hb0 hr hlocks hml hown hts hK hk Q n_14 x1 (-6 : Int32) (-6 : Int32) (0 : Int32) h0 he _ _ ls hP hD hS (lv_sub hl [3, 4, 2, 1, 0] rfl)
  · have he := he.2 c_1
    refine lv_iload_n hx hb0 dX6_nearestNavigator_4 rfl (lv_at hl 1 rfl) ?_
    refine lv_iconst (v := (1 : Int32)) hx hb0 dX6_nearestNavigator_5 (by decide) ?_
    refine lv_icmp_eq (tgt := 12) hx hb0 dX6_nearestNavigator_6 (by decide) (fun c_15 => ?_) (fun c_15 => ?_)
    · have he := he.1 c_15
      refine lv_bipush (v := (-6 : Int32)) hx hb0 dX6_nearestNavigator_12 (by decide) ?_
      refine lv_istore_n (lv' := [(2, .int (-6 : Int32)), (0, .ref (ad b1)), (1, .int x1)]) hx hb0 dX6_nearestNavigator_14 rfl hl (by decide) rfl (fun ls hl => ?_)
      refine lv_bipush (v := (-6 : Int32)) hx hb0 dX6_nearestNavigator_15 (by decide) ?_
      refine lv_istore_n (lv' := [(3, .int (-6 : Int32)), (2, .int (-6 : Int32)), (0, .ref (ad b1)), (1, .int x1)]) hx hb0 dX6_nearestNavigator_17 rfl hl (by decide) rfl (fun ls hl => ?_)
      refine lv_iconst (v := (0 : Int32)) hx hb0 dX6_nearestNavigator_18 (by decide) ?_
      refine lv_istore (lv' := [(4, .int (0 : Int32)), (3, .int (-6 : Int32)), (2, .int (-6 : Int32)), (0, .ref (ad b1)), (1, .int x1)]) hx hb0 dX6_nearestNavigator_19 hl (by decide) rfl (fun ls hl => ?_)
      obtain ⟨n_16, he⟩ := he
      exact l_X6_nearestNavigator_21 l dC dI P ad tb b1 hb1 hx hb0 hr hlocks hml hown hts hK hk Q n_16 x1 (-6 : Int32) (-6 : Int32) (0 : Int32) h0 he _ _ ls hP hD hS (lv_sub hl [3, 4, 2, 1, 0] rfl)
    · have he := he.2 c_15
      refine lv_bipush (v := (-2 : Int32)) hx hb0 dX6_nearestNavigator_9 (by decide) ?_
      exact gx_iret hx hb0 hr hlocks hK hP hD hS he dX6_nearestNavigator_11
theorem gm_X6_nearestNavigator : gMeth yX6_nearestNavigator cX6_nearestNavigator 6 (some .int) 1 := ⟨⟨by decide, by decide, by decide +kernel⟩, ini_RX6, co_yX6_nearestNavigator⟩
