abbrev rm_X0_copyFrom : Room := { frames := 0, cells := 0, slots := 0, locals := 0 }
set_option maxHeartbeats 4000000 in
set_option maxRecDepth 100000 in
theorem c_X0_copyFrom (l : Launch) (dC : Nat → ClassId) (dI : Nat → Nat → Nat) (P : gP) (ad : Nat → Nat) (tb : Nat → Nat) (k1 : Nat) (hk1 : isCrs k1) (k2 : Nat) (hk2 : isCrs k2) (h0 : Hp) (Q : Hp → Prop) (he : F_X0_copyFrom k1 k2 h0 Q) : Met l yX0_copyFrom (Cond.code yX0_copyFrom cX0_copyFrom 2 none :: TB) rm_X0_copyFrom (gPc (dC, dI) vwCl (tyC P) 162 (cE P ad) ad (gKC tb (gA 162 ad)) h0 [.ref (ad k1), .ref (ad k2)]) (gQv (dC, dI) vwCl (tyC P) 162 (cE P ad) ad Q) 0 0 (gA 162 ad) := by
  refine gx_start (by decide) (Nat.le_of_ble_eq_true rfl) (fun p e s m below meth c ls hx hb0 hr hlocks hml hown hts hK hk hP hD hS hl => ?_)
  have hl : lv_has ls 2 [(0, .ref (ad k1)), (1, .ref (ad k2))] := hl
  have hown : s.vm.findClass RX0 = some m.cls := hown
  unfold F_X0_copyFrom at he
  refine lv_aload_n hx hb0 dX0_copyFrom_0 rfl (lv_at hl 0 rfl) ?_
  refine lv_aload_n hx hb0 dX0_copyFrom_1 rfl (lv_at hl 1 rfl) ?_
  refine gx_get hx hb0 hts in_RX0 hown hK hP k2 (crs_lt hk2) ((cE_crs hk2) _) rfl 0 (by decide) fl_RX0_9 rfl dX0_copyFrom_2 ?_
  refine gx_put hx hb0 hts in_RX0 tyX0 tyX0_ok nmX0 hown hK hP hD hS k1 (crs_lt hk1) (cE_crs hk1) rfl 0 (by decide) fl_RX0_9 rfl (tyX0_ok 0 (by decide)) (Nat.le_of_ble_eq_true rfl) rfl dX0_copyFrom_5 (fun h_1 eh_1 H locs hP hD hS => ?_)
  have he := he h_1 eh_1
  refine lv_aload_n hx hb0 dX0_copyFrom_8 rfl (lv_at hl 0 rfl) ?_
  refine lv_aload_n hx hb0 dX0_copyFrom_9 rfl (lv_at hl 1 rfl) ?_
  refine gx_get hx hb0 hts in_RX0 hown hK hP k2 (crs_lt hk2) ((cE_crs hk2) _) rfl 1 (by decide) fl_RX0_15 rfl dX0_copyFrom_10 ?_
  refine gx_put hx hb0 hts in_RX0 tyX0 tyX0_ok nmX0 hown hK hP hD hS k1 (crs_lt hk1) (cE_crs hk1) rfl 1 (by decide) fl_RX0_15 rfl (tyX0_ok 1 (by decide)) (Nat.le_of_ble_eq_true rfl) rfl dX0_copyFrom_13 (fun h_2 eh_2 H locs hP hD hS => ?_)
  have he := he h_2 eh_2
  refine lv_aload_n hx hb0 dX0_copyFrom_16 rfl (lv_at hl 0 rfl) ?_
  refine lv_aload_n hx hb0 dX0_copyFrom_17 rfl (lv_at hl 1 rfl) ?_
  refine gx_get hx hb0 hts in_RX0 hown hK hP k2 (crs_lt hk2) ((cE_crs hk2) _) rfl 2 (by decide) fl_RX0_18 rfl dX0_copyFrom_18 ?_
  refine gx_put hx hb0 hts in_RX0 tyX0 tyX0_ok nmX0 hown hK hP hD hS k1 (crs_lt hk1) (cE_crs hk1) rfl 2 (by decide) fl_RX0_18 rfl (tyX0_ok 2 (by decide)) (Nat.le_of_ble_eq_true rfl) rfl dX0_copyFrom_21 (fun h_3 eh_3 H locs hP hD hS => ?_)
  have he := he h_3 eh_3
  refine lv_aload_n hx hb0 dX0_copyFrom_24 rfl (lv_at hl 0 rfl) ?_
  refine lv_aload_n hx hb0 dX0_copyFrom_25 rfl (lv_at hl 1 rfl) ?_
  refine gx_get hx hb0 hts in_RX0 hown hK hP k2 (crs_lt hk2) ((cE_crs hk2) _) rfl 3 (by decide) fl_RX0_21 rfl dX0_copyFrom_26 ?_
  refine gx_put hx hb0 hts in_RX0 tyX0 tyX0_ok nmX0 hown hK hP hD hS k1 (crs_lt hk1) (cE_crs hk1) rfl 3 (by decide) fl_RX0_21 rfl (tyX0_ok 3 (by decide)) (Nat.le_of_ble_eq_true rfl) rfl dX0_copyFrom_29 (fun h_4 eh_4 H locs hP hD hS => ?_)
  have he := he h_4 eh_4
  exact gx_vret hx hb0 hr hlocks hK hP hD hS he dX0_copyFrom_32
theorem gm_X0_copyFrom : gMeth yX0_copyFrom cX0_copyFrom 2 none 1 := ⟨⟨by decide, by decide, by decide +kernel⟩, ini_RX0, co_yX0_copyFrom⟩
abbrev rm_X0_sailOneHour : Room := { frames := 2, cells := 0, slots := 0, locals := 34 }
set_option maxHeartbeats 4000000 in
set_option maxRecDepth 100000 in
theorem c_X0_sailOneHour (l : Launch) (dC : Nat → ClassId) (dI : Nat → Nat → Nat) (P : gP) (ad : Nat → Nat) (tb : Nat → Nat) (k1 : Nat) (hk1 : isCrs k1) (x1 : Int32) (x2 : Int32) (h0 : Hp) (Q : Hp → Prop) (he : F_X0_sailOneHour k1 x1 x2 h0 Q) : Met l yX0_sailOneHour (Cond.code yX0_sailOneHour cX0_sailOneHour 4 none :: TB) rm_X0_sailOneHour (gPc (dC, dI) vwCl (tyC P) 162 (cE P ad) ad (gKC tb (gA 162 ad)) h0 [.ref (ad k1), .int x1, .int x2]) (gQv (dC, dI) vwCl (tyC P) 162 (cE P ad) ad Q) 0 0 (gA 162 ad) := by
  refine gx_start (by decide) (Nat.le_of_ble_eq_true rfl) (fun p e s m below meth c ls hx hb0 hr hlocks hml hown hts hK hk hP hD hS hl => ?_)
  have hl : lv_has ls 4 [(0, .ref (ad k1)), (1, .int x1), (2, .int x2)] := hl
  have hown : s.vm.findClass RX0 = some m.cls := hown
  unfold F_X0_sailOneHour at he
  refine lv_aload_n hx hb0 dX0_sailOneHour_0 rfl (lv_at hl 0 rfl) ?_
  refine gx_get hx hb0 hts in_RX0 hown hK hP k1 (crs_lt hk1) ((cE_crs hk1) _) rfl 1 (by decide) fl_RX0_15 rfl dX0_sailOneHour_1 ?_
  refine lv_sipush (v := (9999 : Int32)) hx hb0 dX0_sailOneHour_4 (by decide) ?_
  refine lv_icmp_eq (tgt := 55) hx hb0 dX0_sailOneHour_7 (by decide) (fun c_1 => ?_) (fun c_1 => ?_)
  · have he := he.1 c_1
    refine lv_aload_n hx hb0 dX0_sailOneHour_55 rfl (lv_at hl 0 rfl) ?_
    refine lv_aload_n hx hb0 dX0_sailOneHour_56 rfl (lv_at hl 0 rfl) ?_
    refine gx_get hx hb0 hts in_RX0 hown hK hP k1 (crs_lt hk1) ((cE_crs hk1) _) rfl 0 (by decide) fl_RX0_9 rfl dX0_sailOneHour_57 ?_
    refine lv_iload_n hx hb0 dX0_sailOneHour_60 rfl (lv_at hl 1 rfl) ?_
    refine lv_iadd hx hb0 dX0_sailOneHour_61 ?_
    refine gx_sn ⟨hx, hb0, hml, hown, hts⟩ (gKC_keep _ _) hk hK hP hD hS [.int ((h0 k1 0) + x1)] [.ref (ad k1)] (c_X7_keptOnEarth l dC dI P ad tb ((h0 k1 0) + x1) h0 _ he) gm_X7_keptOnEarth st_yX7_keptOnEarth (hk.1 _ nl_RX0_33) rfl rfl ⟨Nat.le_of_ble_eq_true rfl, Nat.le_of_ble_eq_true rfl⟩ rfl hl.1 rfl (Nat.le_of_ble_eq_true rfl) dX0_sailOneHour_62 ⟨Nat.zero_le _, Nat.zero_le _⟩ (fun r_2 h_3 he H locs hP hD hS => ?_)
    refine gx_put hx hb0 hts in_RX0 tyX0 tyX0_ok nmX0 hown hK hP hD hS k1 (crs_lt hk1) (cE_crs hk1) rfl 0 (by decide) fl_RX0_9 rfl (tyX0_ok 0 (by decide)) (Nat.le_of_ble_eq_true rfl) rfl dX0_sailOneHour_65 (fun h_4 eh_4 H locs hP hD hS => ?_)
    have he := he h_4 eh_4
    refine lv_aload_n hx hb0 dX0_sailOneHour_68 rfl (lv_at hl 0 rfl) ?_
    refine lv_dup hx hb0 dX0_sailOneHour_69 rfl ?_
    refine gx_get hx hb0 hts in_RX0 hown hK hP k1 (crs_lt hk1) ((cE_crs hk1) _) rfl 3 (by decide) fl_RX0_21 rfl dX0_sailOneHour_70 ?_
    refine lv_iconst (v := (1 : Int32)) hx hb0 dX0_sailOneHour_73 (by decide) ?_
    refine lv_iadd hx hb0 dX0_sailOneHour_74 ?_
    refine gx_put hx hb0 hts in_RX0 tyX0 tyX0_ok nmX0 hown hK hP hD hS k1 (crs_lt hk1) (cE_crs hk1) rfl 3 (by decide) fl_RX0_21 rfl (tyX0_ok 3 (by decide)) (Nat.le_of_ble_eq_true rfl) rfl dX0_sailOneHour_75 (fun h_5 eh_5 H locs hP hD hS => ?_)
    have he := he h_5 eh_5
    exact gx_vret hx hb0 hr hlocks hK hP hD hS he dX0_sailOneHour_78
  · have he := he.2 c_1
    refine lv_iload_n hx hb0 dX0_sailOneHour_10 rfl (lv_at hl 2 rfl) ?_
    refine lv_ineg hx hb0 dX0_sailOneHour_11 ?_
    refine lv_iload_n hx hb0 dX0_sailOneHour_12 rfl (lv_at hl 2 rfl) ?_
    refine lv_aload_n hx hb0 dX0_sailOneHour_13 rfl (lv_at hl 0 rfl) ?_
    refine gx_get hx hb0 hts in_RX0 hown hK hP k1 (crs_lt hk1) ((cE_crs hk1) _) rfl 2 (by decide) fl_RX0_18 rfl dX0_sailOneHour_14 ?_
    refine lv_aload_n hx hb0 dX0_sailOneHour_17 rfl (lv_at hl 0 rfl) ?_
    refine gx_get hx hb0 hts in_RX0 hown hK hP k1 (crs_lt hk1) ((cE_crs hk1) _) rfl 1 (by decide) fl_RX0_15 rfl dX0_sailOneHour_18 ?_
    refine lv_isub hx hb0 dX0_sailOneHour_21 ?_
    refine va_mmin hx hb0 (hml.trans hl.1.symm) hown (hts _ ml_RX0_24) (hts _ st_Lib_Math_min_name) (hts _ ini_RJ9) (hts _ co_Lib_Math_min_name) (Nat.le_of_ble_eq_true rfl) (Nat.le_of_ble_eq_true rfl) (Nat.zero_le _) (Nat.zero_le _) dX0_sailOneHour_22 ?_
    refine lv_topi (fun x_6 ex_6 => ?_)
    have he := he x_6 ex_6
    refine va_mmax hx hb0 (hml.trans hl.1.symm) hown (hts _ ml_RX0_30) (hts _ st_Lib_Math_max_name) (hts _ ini_RJ9) (hts _ co_Lib_Math_max_name) (Nat.le_of_ble_eq_true rfl) (Nat.le_of_ble_eq_true rfl) (Nat.zero_le _) (Nat.zero_le _) dX0_sailOneHour_25 ?_
    refine lv_topi (fun x_7 ex_7 => ?_)
    have he := he x_7 ex_7
    refine lv_istore_n (lv' := [(3, .int x_7), (0, .ref (ad k1)), (1, .int x1), (2, .int x2)]) hx hb0 dX0_sailOneHour_28 rfl hl (by decide) rfl (fun ls hl => ?_)
    refine lv_aload_n hx hb0 dX0_sailOneHour_29 rfl (lv_at hl 1 rfl) ?_
    refine lv_aload_n hx hb0 dX0_sailOneHour_30 rfl (lv_at hl 1 rfl) ?_
    refine gx_get hx hb0 hts in_RX0 hown hK hP k1 (crs_lt hk1) ((cE_crs hk1) _) rfl 0 (by decide) fl_RX0_9 rfl dX0_sailOneHour_31 ?_
    refine lv_iload_n hx hb0 dX0_sailOneHour_34 rfl (lv_at hl 0 rfl) ?_
    refine lv_iadd hx hb0 dX0_sailOneHour_35 ?_
    refine gx_sn ⟨hx, hb0, hml, hown, hts⟩ (gKC_keep _ _) hk hK hP hD hS [.int ((h0 k1 0) + x_7)] [.ref (ad k1)] (c_X7_keptOnEarth l dC dI P ad tb ((h0 k1 0) + x_7) h0 _ he) gm_X7_keptOnEarth st_yX7_keptOnEarth (hk.1 _ nl_RX0_33) rfl rfl ⟨Nat.le_of_ble_eq_true rfl, Nat.le_of_ble_eq_true rfl⟩ rfl hl.1 rfl (Nat.le_of_ble_eq_true rfl) dX0_sailOneHour_36 ⟨Nat.zero_le _, Nat.zero_le _⟩ (fun r_8 h_9 he H locs hP hD hS => ?_)
    refine gx_put hx hb0 hts in_RX0 tyX0 tyX0_ok nmX0 hown hK hP hD hS k1 (crs_lt hk1) (cE_crs hk1) rfl 0 (by decide) fl_RX0_9 rfl (tyX0_ok 0 (by decide)) (Nat.le_of_ble_eq_true rfl) rfl dX0_sailOneHour_39 (fun h_10 eh_10 H locs hP hD hS => ?_)
    have he := he h_10 eh_10
    refine lv_aload_n hx hb0 dX0_sailOneHour_42 rfl (lv_at hl 1 rfl) ?_
    refine lv_aload_n hx hb0 dX0_sailOneHour_43 rfl (lv_at hl 1 rfl) ?_
    refine gx_get hx hb0 hts in_RX0 hown hK hP k1 (crs_lt hk1) ((cE_crs hk1) _) rfl 1 (by decide) fl_RX0_15 rfl dX0_sailOneHour_44 ?_
    refine lv_iload_n hx hb0 dX0_sailOneHour_47 rfl (lv_at hl 0 rfl) ?_
    refine lv_iadd hx hb0 dX0_sailOneHour_48 ?_
    refine gx_sn ⟨hx, hb0, hml, hown, hts⟩ (gKC_keep _ _) hk hK hP hD hS [.int ((h_10 k1 1) + x_7)] [.ref (ad k1)] (c_X7_keptOnEarth l dC dI P ad tb ((h_10 k1 1) + x_7) h_10 _ he) gm_X7_keptOnEarth st_yX7_keptOnEarth (hk.1 _ nl_RX0_33) rfl rfl ⟨Nat.le_of_ble_eq_true rfl, Nat.le_of_ble_eq_true rfl⟩ rfl hl.1 rfl (Nat.le_of_ble_eq_true rfl) dX0_sailOneHour_49 ⟨Nat.zero_le _, Nat.zero_le _⟩ (fun r_11 h_12 he H locs hP hD hS => ?_)
    refine gx_put hx hb0 hts in_RX0 tyX0 tyX0_ok nmX0 hown hK hP hD hS k1 (crs_lt hk1) (cE_crs hk1) rfl 1 (by decide) fl_RX0_15 rfl (tyX0_ok 1 (by decide)) (Nat.le_of_ble_eq_true rfl) rfl dX0_sailOneHour_52 (fun h_13 eh_13 H locs hP hD hS => ?_)
    have he := he h_13 eh_13
    refine lv_aload_n hx hb0 dX0_sailOneHour_55 rfl (lv_at hl 1 rfl) ?_
    refine lv_aload_n hx hb0 dX0_sailOneHour_56 rfl (lv_at hl 1 rfl) ?_
    refine gx_get hx hb0 hts in_RX0 hown hK hP k1 (crs_lt hk1) ((cE_crs hk1) _) rfl 0 (by decide) fl_RX0_9 rfl dX0_sailOneHour_57 ?_
    refine lv_iload_n hx hb0 dX0_sailOneHour_60 rfl (lv_at hl 2 rfl) ?_
    refine lv_iadd hx hb0 dX0_sailOneHour_61 ?_
    refine gx_sn ⟨hx, hb0, hml, hown, hts⟩ (gKC_keep _ _) hk hK hP hD hS [.int ((h_13 k1 0) + x1)] [.ref (ad k1)] (c_X7_keptOnEarth l dC dI P ad tb ((h_13 k1 0) + x1) h_13 _ he) gm_X7_keptOnEarth st_yX7_keptOnEarth (hk.1 _ nl_RX0_33) rfl rfl ⟨Nat.le_of_ble_eq_true rfl, Nat.le_of_ble_eq_true rfl⟩ rfl hl.1 rfl (Nat.le_of_ble_eq_true rfl) dX0_sailOneHour_62 ⟨Nat.zero_le _, Nat.zero_le _⟩ (fun r_14 h_15 he H locs hP hD hS => ?_)
    refine gx_put hx hb0 hts in_RX0 tyX0 tyX0_ok nmX0 hown hK hP hD hS k1 (crs_lt hk1) (cE_crs hk1) rfl 0 (by decide) fl_RX0_9 rfl (tyX0_ok 0 (by decide)) (Nat.le_of_ble_eq_true rfl) rfl dX0_sailOneHour_65 (fun h_16 eh_16 H locs hP hD hS => ?_)
    have he := he h_16 eh_16
    refine lv_aload_n hx hb0 dX0_sailOneHour_68 rfl (lv_at hl 1 rfl) ?_
    refine lv_dup hx hb0 dX0_sailOneHour_69 rfl ?_
    refine gx_get hx hb0 hts in_RX0 hown hK hP k1 (crs_lt hk1) ((cE_crs hk1) _) rfl 3 (by decide) fl_RX0_21 rfl dX0_sailOneHour_70 ?_
    refine lv_iconst (v := (1 : Int32)) hx hb0 dX0_sailOneHour_73 (by decide) ?_
    refine lv_iadd hx hb0 dX0_sailOneHour_74 ?_
    refine gx_put hx hb0 hts in_RX0 tyX0 tyX0_ok nmX0 hown hK hP hD hS k1 (crs_lt hk1) (cE_crs hk1) rfl 3 (by decide) fl_RX0_21 rfl (tyX0_ok 3 (by decide)) (Nat.le_of_ble_eq_true rfl) rfl dX0_sailOneHour_75 (fun h_17 eh_17 H locs hP hD hS => ?_)
    have he := he h_17 eh_17
    exact gx_vret hx hb0 hr hlocks hK hP hD hS he dX0_sailOneHour_78
theorem gm_X0_sailOneHour : gMeth yX0_sailOneHour cX0_sailOneHour 4 none 2 := ⟨⟨by decide, by decide, by decide +kernel⟩, ini_RX0, co_yX0_sailOneHour⟩
abbrev rm_X0_mistake : Room := { frames := 1, cells := 0, slots := 0, locals := 13 }
set_option maxHeartbeats 4000000 in
set_option maxRecDepth 100000 in
theorem c_X0_mistake (l : Launch) (dC : Nat → ClassId) (dI : Nat → Nat → Nat) (P : gP) (ad : Nat → Nat) (tb : Nat → Nat) (k1 : Nat) (hk1 : isCrs k1) (h0 : Hp) (Q : Int32 → Hp → Prop) (he : F_X0_mistake k1 h0 Q) : Met l yX0_mistake (Cond.code yX0_mistake cX0_mistake 1 (some .int) :: TB) rm_X0_mistake (gPc (dC, dI) vwCl (tyC P) 162 (cE P ad) ad (gKC tb (gA 162 ad)) h0 [.ref (ad k1)]) (gQi (dC, dI) vwCl (tyC P) 162 (cE P ad) ad Q) 0 0 (gA 162 ad) := by
  refine gx_start (by decide) (Nat.le_of_ble_eq_true rfl) (fun p e s m below meth c ls hx hb0 hr hlocks hml hown hts hK hk hP hD hS hl => ?_)
  have hl : lv_has ls 1 [(0, .ref (ad k1))] := hl
  have hown : s.vm.findClass RX0 = some m.cls := hown
  unfold F_X0_mistake at he
  refine lv_aload_n hx hb0 dX0_mistake_0 rfl (lv_at hl 0 rfl) ?_
  refine gx_get hx hb0 hts in_RX0 hown hK hP k1 (crs_lt hk1) ((cE_crs hk1) _) rfl 1 (by decide) fl_RX0_15 rfl dX0_mistake_1 ?_
  refine lv_sipush (v := (9999 : Int32)) hx hb0 dX0_mistake_4 (by decide) ?_
  refine lv_icmp_ne (tgt := 15) hx hb0 dX0_mistake_7 (by decide) (fun c_1 => ?_) (fun c_1 => ?_)
  · have he := he.2 c_1
    refine lv_aload_n hx hb0 dX0_mistake_15 rfl (lv_at hl 0 rfl) ?_
    refine gx_get hx hb0 hts in_RX0 hown hK hP k1 (crs_lt hk1) ((cE_crs hk1) _) rfl 1 (by decide) fl_RX0_15 rfl dX0_mistake_16 ?_
    refine lv_aload_n hx hb0 dX0_mistake_19 rfl (lv_at hl 0 rfl) ?_
    refine gx_get hx hb0 hts in_RX0 hown hK hP k1 (crs_lt hk1) ((cE_crs hk1) _) rfl 0 (by decide) fl_RX0_9 rfl dX0_mistake_20 ?_
    refine lv_isub hx hb0 dX0_mistake_23 ?_
    refine va_mabs hx hb0 (hml.trans hl.1.symm) hown (hts _ ml_RX0_37) (hts _ st_Lib_Math_abs_name) (hts _ ini_RJ9) (hts _ co_Lib_Math_abs_name) (Nat.le_of_ble_eq_true rfl) (Nat.le_of_ble_eq_true rfl) (Nat.zero_le _) (Nat.zero_le _) dX0_mistake_24 ?_
    refine lv_topi (fun x_2 ex_2 => ?_)
    have he := he x_2 ex_2
    exact gx_iret hx hb0 hr hlocks hK hP hD hS he dX0_mistake_27
  · have he := he.1 c_1
    refine lv_bipush (v := (-6 : Int32)) hx hb0 dX0_mistake_10 (by decide) ?_
    refine lv_goto (tgt := 27) hx hb0 dX0_mistake_12 (by decide) ?_
    exact gx_iret hx hb0 hr hlocks hK hP hD hS he dX0_mistake_27
theorem gm_X0_mistake : gMeth yX0_mistake cX0_mistake 1 (some .int) 0 := ⟨⟨by decide, by decide, by decide +kernel⟩, ini_RX0, co_yX0_mistake⟩
