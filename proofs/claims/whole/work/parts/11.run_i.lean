abbrev rm_X7_set : Room := { frames := 4, cells := 0, slots := 0, locals := 81 }
set_option maxHeartbeats 4000000 in
set_option maxRecDepth 100000 in
theorem c_X7_set (l : Launch) (dC : Nat → ClassId) (dI : Nat → Nat → Nat) (P : gP) (ad : Nat → Nat) (tb : Nat → Nat) (x1 : Int32) (x2 : Int32) (h0 : Hp) (Q : Int32 → Hp → Prop) (he : F_X7_set x1 x2 h0 Q) : Met l yX7_set (Cond.code yX7_set cX7_set 3 (some .int) :: TB) rm_X7_set (gPc (dC, dI) vwCl (tyC P) 158 (cE P ad) ad (gKC tb (gA 158 ad)) h0 [.ref (ad 0), .int x1, .int x2]) (gQi (dC, dI) vwCl (tyC P) 158 (cE P ad) ad Q) 0 0 (gA 158 ad) := by
  refine gx_start (by decide) (Nat.le_of_ble_eq_true rfl) (fun p e s m below meth c ls hx hb0 hr hlocks hml hown hts hK hk hP hD hS hl => ?_)
  have hl : lv_has ls 3 [(0, .ref (ad 0)), (1, .int x1), (2, .int x2)] := hl
  have hown : s.vm.findClass RX7 = some m.cls := hown
  unfold F_X7_set at he
  refine lv_aload_n hx hb0 dX7_set_0 rfl (lv_at hl 0 rfl) ?_
  refine gx_get hx hb0 hts in_RX7 hown hK hP 0 (by decide) (cE_t0 _) rfl 1 (by decide) fl_RX7_19 rfl dX7_set_1 ?_
  refine lv_aload_n hx hb0 dX7_set_4 rfl (lv_at hl 0 rfl) ?_
  refine gx_get hx hb0 hts in_RX7 hown hK hP 0 (by decide) (cE_t0 _) rfl 0 (by decide) fl_RX7_10 rfl dX7_set_5 ?_
  refine gx_vv ⟨hx, hb0, hml, hown, hts⟩ (gKC_keep _ _) hk hK hP hD hS 1 [.ref (ad 8)] [] (c_X2_hold l dC dI P ad tb 8 vb_8 h0 _ he) gm_X2_hold im_yX2_hold se_yX2_hold ml_RX7_45 (by decide) (cE_t1 _) rfl rfl rfl ⟨Nat.le_of_ble_eq_true rfl, Nat.le_of_ble_eq_true rfl⟩ rfl hl.1 rfl (Nat.le_of_ble_eq_true rfl) dX7_set_8 ⟨Nat.zero_le _, Nat.zero_le _⟩ (fun h_2 he H locs hP hD hS => ?_)
  refine lv_aload_n hx hb0 dX7_set_11 rfl (lv_at hl 0 rfl) ?_
  refine gx_get hx hb0 hts in_RX7 hown hK hP 0 (by decide) (cE_t0 _) rfl 1 (by decide) fl_RX7_19 rfl dX7_set_12 ?_
  refine lv_aload_n hx hb0 dX7_set_15 rfl (lv_at hl 0 rfl) ?_
  refine gx_get hx hb0 hts in_RX7 hown hK hP 0 (by decide) (cE_t0 _) rfl 0 (by decide) fl_RX7_10 rfl dX7_set_16 ?_
  refine lv_iload_n hx hb0 dX7_set_19 rfl (lv_at hl 1 rfl) ?_
  refine lv_iload_n hx hb0 dX7_set_20 rfl (lv_at hl 2 rfl) ?_
  refine gx_vi ⟨hx, hb0, hml, hown, hts⟩ (gKC_keep _ _) hk hK hP hD hS 8 [.int x1, .int x2] [.ref (ad 1)] (c_X6_changeSetting l dC dI P ad tb 8 vb_8 x1 x2 h_2 _ he) gm_X6_changeSetting im_yX6_changeSetting se_yX6_changeSetting ml_RX7_49 (vb_lt0 vb_8) ((cE_0 vb_8) _) rfl rfl rfl ⟨Nat.le_of_ble_eq_true rfl, Nat.le_of_ble_eq_true rfl⟩ rfl hl.1 rfl (Nat.le_of_ble_eq_true rfl) dX7_set_21 ⟨Nat.zero_le _, Nat.zero_le _⟩ (fun r_3 h_4 he H locs hP hD hS => ?_)
  refine gx_vi ⟨hx, hb0, hml, hown, hts⟩ (gKC_keep _ _) hk hK hP hD hS 1 [.int r_3] [] (c_X2_keepUnlessError l dC dI P ad tb r_3 h_4 _ he) gm_X2_keepUnlessError im_yX2_keepUnlessError se_yX2_keepUnlessError ml_RX7_53 (by decide) (cE_t1 _) rfl rfl rfl ⟨Nat.le_of_ble_eq_true rfl, Nat.le_of_ble_eq_true rfl⟩ rfl hl.1 rfl (Nat.le_of_ble_eq_true rfl) dX7_set_24 ⟨Nat.zero_le _, Nat.zero_le _⟩ (fun r_5 h_6 he H locs hP hD hS => ?_)
  exact gx_iret hx hb0 hr hlocks hK hP hD hS he dX7_set_27
theorem gm_X7_set : gMeth yX7_set cX7_set 3 (some .int) 2 := ⟨⟨by decide, by decide, by decide +kernel⟩, ini_RX7, co_yX7_set⟩
abbrev rm_X7_star : Room := { frames := 4, cells := 0, slots := 0, locals := 81 }
set_option maxHeartbeats 4000000 in
set_option maxRecDepth 100000 in
theorem c_X7_star (l : Launch) (dC : Nat → ClassId) (dI : Nat → Nat → Nat) (P : gP) (ad : Nat → Nat) (tb : Nat → Nat) (x1 : Int32) (h0 : Hp) (Q : Int32 → Hp → Prop) (he : F_X7_star x1 h0 Q) : Met l yX7_star (Cond.code yX7_star cX7_star 2 (some .int) :: TB) rm_X7_star (gPc (dC, dI) vwCl (tyC P) 158 (cE P ad) ad (gKC tb (gA 158 ad)) h0 [.ref (ad 0), .int x1]) (gQi (dC, dI) vwCl (tyC P) 158 (cE P ad) ad Q) 0 0 (gA 158 ad) := by
  refine gx_start (by decide) (Nat.le_of_ble_eq_true rfl) (fun p e s m below meth c ls hx hb0 hr hlocks hml hown hts hK hk hP hD hS hl => ?_)
  have hl : lv_has ls 2 [(0, .ref (ad 0)), (1, .int x1)] := hl
  have hown : s.vm.findClass RX7 = some m.cls := hown
  unfold F_X7_star at he
  refine lv_aload_n hx hb0 dX7_star_0 rfl (lv_at hl 0 rfl) ?_
  refine gx_get hx hb0 hts in_RX7 hown hK hP 0 (by decide) (cE_t0 _) rfl 1 (by decide) fl_RX7_19 rfl dX7_star_1 ?_
  refine lv_aload_n hx hb0 dX7_star_4 rfl (lv_at hl 0 rfl) ?_
  refine gx_get hx hb0 hts in_RX7 hown hK hP 0 (by decide) (cE_t0 _) rfl 0 (by decide) fl_RX7_10 rfl dX7_star_5 ?_
  refine gx_vv ⟨hx, hb0, hml, hown, hts⟩ (gKC_keep _ _) hk hK hP hD hS 1 [.ref (ad 8)] [] (c_X2_hold l dC dI P ad tb 8 vb_8 h0 _ he) gm_X2_hold im_yX2_hold se_yX2_hold ml_RX7_45 (by decide) (cE_t1 _) rfl rfl rfl ⟨Nat.le_of_ble_eq_true rfl, Nat.le_of_ble_eq_true rfl⟩ rfl hl.1 rfl (Nat.le_of_ble_eq_true rfl) dX7_star_8 ⟨Nat.zero_le _, Nat.zero_le _⟩ (fun h_2 he H locs hP hD hS => ?_)
  refine lv_aload_n hx hb0 dX7_star_11 rfl (lv_at hl 0 rfl) ?_
  refine gx_get hx hb0 hts in_RX7 hown hK hP 0 (by decide) (cE_t0 _) rfl 1 (by decide) fl_RX7_19 rfl dX7_star_12 ?_
  refine lv_aload_n hx hb0 dX7_star_15 rfl (lv_at hl 0 rfl) ?_
  refine gx_get hx hb0 hts in_RX7 hown hK hP 0 (by decide) (cE_t0 _) rfl 0 (by decide) fl_RX7_10 rfl dX7_star_16 ?_
  refine lv_iload_n hx hb0 dX7_star_19 rfl (lv_at hl 1 rfl) ?_
  refine gx_vi ⟨hx, hb0, hml, hown, hts⟩ (gKC_keep _ _) hk hK hP hD hS 8 [.int x1] [.ref (ad 1)] (c_X6_addStar l dC dI P ad tb 8 vb_8 x1 h_2 _ he) gm_X6_addStar im_yX6_addStar se_yX6_addStar ml_RX7_57 (vb_lt0 vb_8) ((cE_0 vb_8) _) rfl rfl rfl ⟨Nat.le_of_ble_eq_true rfl, Nat.le_of_ble_eq_true rfl⟩ rfl hl.1 rfl (Nat.le_of_ble_eq_true rfl) dX7_star_20 ⟨Nat.zero_le _, Nat.zero_le _⟩ (fun r_3 h_4 he H locs hP hD hS => ?_)
  refine gx_vi ⟨hx, hb0, hml, hown, hts⟩ (gKC_keep _ _) hk hK hP hD hS 1 [.int r_3] [] (c_X2_keepUnlessError l dC dI P ad tb r_3 h_4 _ he) gm_X2_keepUnlessError im_yX2_keepUnlessError se_yX2_keepUnlessError ml_RX7_53 (by decide) (cE_t1 _) rfl rfl rfl ⟨Nat.le_of_ble_eq_true rfl, Nat.le_of_ble_eq_true rfl⟩ rfl hl.1 rfl (Nat.le_of_ble_eq_true rfl) dX7_star_23 ⟨Nat.zero_le _, Nat.zero_le _⟩ (fun r_5 h_6 he H locs hP hD hS => ?_)
  exact gx_iret hx hb0 hr hlocks hK hP hD hS he dX7_star_26
theorem gm_X7_star : gMeth yX7_star cX7_star 2 (some .int) 1 := ⟨⟨by decide, by decide, by decide +kernel⟩, ini_RX7, co_yX7_star⟩
abbrev rm_X7_cloud : Room := { frames := 4, cells := 0, slots := 0, locals := 81 }
set_option maxHeartbeats 4000000 in
set_option maxRecDepth 100000 in
theorem c_X7_cloud (l : Launch) (dC : Nat → ClassId) (dI : Nat → Nat → Nat) (P : gP) (ad : Nat → Nat) (tb : Nat → Nat) (x1 : Int32) (h0 : Hp) (Q : Int32 → Hp → Prop) (he : F_X7_cloud x1 h0 Q) : Met l yX7_cloud (Cond.code yX7_cloud cX7_cloud 2 (some .int) :: TB) rm_X7_cloud (gPc (dC, dI) vwCl (tyC P) 158 (cE P ad) ad (gKC tb (gA 158 ad)) h0 [.ref (ad 0), .int x1]) (gQi (dC, dI) vwCl (tyC P) 158 (cE P ad) ad Q) 0 0 (gA 158 ad) := by
  refine gx_start (by decide) (Nat.le_of_ble_eq_true rfl) (fun p e s m below meth c ls hx hb0 hr hlocks hml hown hts hK hk hP hD hS hl => ?_)
  have hl : lv_has ls 2 [(0, .ref (ad 0)), (1, .int x1)] := hl
  have hown : s.vm.findClass RX7 = some m.cls := hown
  unfold F_X7_cloud at he
  refine lv_aload_n hx hb0 dX7_cloud_0 rfl (lv_at hl 0 rfl) ?_
  refine gx_get hx hb0 hts in_RX7 hown hK hP 0 (by decide) (cE_t0 _) rfl 1 (by decide) fl_RX7_19 rfl dX7_cloud_1 ?_
  refine lv_aload_n hx hb0 dX7_cloud_4 rfl (lv_at hl 0 rfl) ?_
  refine gx_get hx hb0 hts in_RX7 hown hK hP 0 (by decide) (cE_t0 _) rfl 0 (by decide) fl_RX7_10 rfl dX7_cloud_5 ?_
  refine gx_vv ⟨hx, hb0, hml, hown, hts⟩ (gKC_keep _ _) hk hK hP hD hS 1 [.ref (ad 8)] [] (c_X2_hold l dC dI P ad tb 8 vb_8 h0 _ he) gm_X2_hold im_yX2_hold se_yX2_hold ml_RX7_45 (by decide) (cE_t1 _) rfl rfl rfl ⟨Nat.le_of_ble_eq_true rfl, Nat.le_of_ble_eq_true rfl⟩ rfl hl.1 rfl (Nat.le_of_ble_eq_true rfl) dX7_cloud_8 ⟨Nat.zero_le _, Nat.zero_le _⟩ (fun h_2 he H locs hP hD hS => ?_)
  refine lv_aload_n hx hb0 dX7_cloud_11 rfl (lv_at hl 0 rfl) ?_
  refine gx_get hx hb0 hts in_RX7 hown hK hP 0 (by decide) (cE_t0 _) rfl 1 (by decide) fl_RX7_19 rfl dX7_cloud_12 ?_
  refine lv_aload_n hx hb0 dX7_cloud_15 rfl (lv_at hl 0 rfl) ?_
  refine gx_get hx hb0 hts in_RX7 hown hK hP 0 (by decide) (cE_t0 _) rfl 0 (by decide) fl_RX7_10 rfl dX7_cloud_16 ?_
  refine lv_iload_n hx hb0 dX7_cloud_19 rfl (lv_at hl 1 rfl) ?_
  refine gx_vi ⟨hx, hb0, hml, hown, hts⟩ (gKC_keep _ _) hk hK hP hD hS 8 [.int x1] [.ref (ad 1)] (c_X6_turnCloud l dC dI P ad tb 8 vb_8 x1 h_2 _ he) gm_X6_turnCloud im_yX6_turnCloud se_yX6_turnCloud ml_RX7_60 (vb_lt0 vb_8) ((cE_0 vb_8) _) rfl rfl rfl ⟨Nat.le_of_ble_eq_true rfl, Nat.le_of_ble_eq_true rfl⟩ rfl hl.1 rfl (Nat.le_of_ble_eq_true rfl) dX7_cloud_20 ⟨Nat.zero_le _, Nat.zero_le _⟩ (fun r_3 h_4 he H locs hP hD hS => ?_)
  refine gx_vi ⟨hx, hb0, hml, hown, hts⟩ (gKC_keep _ _) hk hK hP hD hS 1 [.int r_3] [] (c_X2_keepUnlessError l dC dI P ad tb r_3 h_4 _ he) gm_X2_keepUnlessError im_yX2_keepUnlessError se_yX2_keepUnlessError ml_RX7_53 (by decide) (cE_t1 _) rfl rfl rfl ⟨Nat.le_of_ble_eq_true rfl, Nat.le_of_ble_eq_true rfl⟩ rfl hl.1 rfl (Nat.le_of_ble_eq_true rfl) dX7_cloud_23 ⟨Nat.zero_le _, Nat.zero_le _⟩ (fun r_5 h_6 he H locs hP hD hS => ?_)
  exact gx_iret hx hb0 hr hlocks hK hP hD hS he dX7_cloud_26
theorem gm_X7_cloud : gMeth yX7_cloud cX7_cloud 2 (some .int) 1 := ⟨⟨by decide, by decide, by decide +kernel⟩, ini_RX7, co_yX7_cloud⟩
abbrev rm_X7_navigator : Room := { frames := 4, cells := 0, slots := 0, locals := 81 }
set_option maxHeartbeats 4000000 in
set_option maxRecDepth 100000 in
theorem c_X7_navigator (l : Launch) (dC : Nat → ClassId) (dI : Nat → Nat → Nat) (P : gP) (ad : Nat → Nat) (tb : Nat → Nat) (x1 : Int32) (x2 : Int32) (x3 : Int32) (h0 : Hp) (Q : Int32 → Hp → Prop) (he : F_X7_navigator x1 x2 x3 h0 Q) : Met l yX7_navigator (Cond.code yX7_navigator cX7_navigator 4 (some .int) :: TB) rm_X7_navigator (gPc (dC, dI) vwCl (tyC P) 158 (cE P ad) ad (gKC tb (gA 158 ad)) h0 [.ref (ad 0), .int x1, .int x2, .int x3]) (gQi (dC, dI) vwCl (tyC P) 158 (cE P ad) ad Q) 0 0 (gA 158 ad) := by
  refine gx_start (by decide) (Nat.le_of_ble_eq_true rfl) (fun p e s m below meth c ls hx hb0 hr hlocks hml hown hts hK hk hP hD hS hl => ?_)
  have hl : lv_has ls 4 [(0, .ref (ad 0)), (1, .int x1), (2, .int x2), (3, .int x3)] := hl
  have hown : s.vm.findClass RX7 = some m.cls := hown
  unfold F_X7_navigator at he
  refine lv_aload_n hx hb0 dX7_navigator_0 rfl (lv_at hl 0 rfl) ?_
  refine gx_get hx hb0 hts in_RX7 hown hK hP 0 (by decide) (cE_t0 _) rfl 1 (by decide) fl_RX7_19 rfl dX7_navigator_1 ?_
  refine lv_aload_n hx hb0 dX7_navigator_4 rfl (lv_at hl 0 rfl) ?_
  refine gx_get hx hb0 hts in_RX7 hown hK hP 0 (by decide) (cE_t0 _) rfl 0 (by decide) fl_RX7_10 rfl dX7_navigator_5 ?_
  refine gx_vv ⟨hx, hb0, hml, hown, hts⟩ (gKC_keep _ _) hk hK hP hD hS 1 [.ref (ad 8)] [] (c_X2_hold l dC dI P ad tb 8 vb_8 h0 _ he) gm_X2_hold im_yX2_hold se_yX2_hold ml_RX7_45 (by decide) (cE_t1 _) rfl rfl rfl ⟨Nat.le_of_ble_eq_true rfl, Nat.le_of_ble_eq_true rfl⟩ rfl hl.1 rfl (Nat.le_of_ble_eq_true rfl) dX7_navigator_8 ⟨Nat.zero_le _, Nat.zero_le _⟩ (fun h_2 he H locs hP hD hS => ?_)
  refine lv_aload_n hx hb0 dX7_navigator_11 rfl (lv_at hl 0 rfl) ?_
  refine gx_get hx hb0 hts in_RX7 hown hK hP 0 (by decide) (cE_t0 _) rfl 1 (by decide) fl_RX7_19 rfl dX7_navigator_12 ?_
  refine lv_aload_n hx hb0 dX7_navigator_15 rfl (lv_at hl 0 rfl) ?_
  refine gx_get hx hb0 hts in_RX7 hown hK hP 0 (by decide) (cE_t0 _) rfl 0 (by decide) fl_RX7_10 rfl dX7_navigator_16 ?_
  refine lv_iload_n hx hb0 dX7_navigator_19 rfl (lv_at hl 1 rfl) ?_
  refine lv_iload_n hx hb0 dX7_navigator_20 rfl (lv_at hl 2 rfl) ?_
  refine lv_iload_n hx hb0 dX7_navigator_21 rfl (lv_at hl 3 rfl) ?_
  refine gx_vi ⟨hx, hb0, hml, hown, hts⟩ (gKC_keep _ _) hk hK hP hD hS 8 [.int x1, .int x2, .int x3] [.ref (ad 1)] (c_X6_changeNavigator l dC dI P ad tb 8 vb_8 x1 x2 x3 h_2 _ he) gm_X6_changeNavigator im_yX6_changeNavigator se_yX6_changeNavigator ml_RX7_63 (vb_lt0 vb_8) ((cE_0 vb_8) _) rfl rfl rfl ⟨Nat.le_of_ble_eq_true rfl, Nat.le_of_ble_eq_true rfl⟩ rfl hl.1 rfl (Nat.le_of_ble_eq_true rfl) dX7_navigator_22 ⟨Nat.zero_le _, Nat.zero_le _⟩ (fun r_3 h_4 he H locs hP hD hS => ?_)
  refine gx_vi ⟨hx, hb0, hml, hown, hts⟩ (gKC_keep _ _) hk hK hP hD hS 1 [.int r_3] [] (c_X2_keepUnlessError l dC dI P ad tb r_3 h_4 _ he) gm_X2_keepUnlessError im_yX2_keepUnlessError se_yX2_keepUnlessError ml_RX7_53 (by decide) (cE_t1 _) rfl rfl rfl ⟨Nat.le_of_ble_eq_true rfl, Nat.le_of_ble_eq_true rfl⟩ rfl hl.1 rfl (Nat.le_of_ble_eq_true rfl) dX7_navigator_25 ⟨Nat.zero_le _, Nat.zero_le _⟩ (fun r_5 h_6 he H locs hP hD hS => ?_)
  exact gx_iret hx hb0 hr hlocks hK hP hD hS he dX7_navigator_28
theorem gm_X7_navigator : gMeth yX7_navigator cX7_navigator 4 (some .int) 3 := ⟨⟨by decide, by decide, by decide +kernel⟩, ini_RX7, co_yX7_navigator⟩
abbrev rm_X7_sleep : Room := { frames := 4, cells := 0, slots := 0, locals := 81 }
set_option maxHeartbeats 4000000 in
set_option maxRecDepth 100000 in
theorem c_X7_sleep (l : Launch) (dC : Nat → ClassId) (dI : Nat → Nat → Nat) (P : gP) (ad : Nat → Nat) (tb : Nat → Nat) (x1 : Int32) (h0 : Hp) (Q : Int32 → Hp → Prop) (he : F_X7_sleep x1 h0 Q) : Met l yX7_sleep (Cond.code yX7_sleep cX7_sleep 2 (some .int) :: TB) rm_X7_sleep (gPc (dC, dI) vwCl (tyC P) 158 (cE P ad) ad (gKC tb (gA 158 ad)) h0 [.ref (ad 0), .int x1]) (gQi (dC, dI) vwCl (tyC P) 158 (cE P ad) ad Q) 0 0 (gA 158 ad) := by
  refine gx_start (by decide) (Nat.le_of_ble_eq_true rfl) (fun p e s m below meth c ls hx hb0 hr hlocks hml hown hts hK hk hP hD hS hl => ?_)
  have hl : lv_has ls 2 [(0, .ref (ad 0)), (1, .int x1)] := hl
  have hown : s.vm.findClass RX7 = some m.cls := hown
  unfold F_X7_sleep at he
  refine lv_aload_n hx hb0 dX7_sleep_0 rfl (lv_at hl 0 rfl) ?_
  refine gx_get hx hb0 hts in_RX7 hown hK hP 0 (by decide) (cE_t0 _) rfl 1 (by decide) fl_RX7_19 rfl dX7_sleep_1 ?_
  refine lv_aload_n hx hb0 dX7_sleep_4 rfl (lv_at hl 0 rfl) ?_
  refine gx_get hx hb0 hts in_RX7 hown hK hP 0 (by decide) (cE_t0 _) rfl 0 (by decide) fl_RX7_10 rfl dX7_sleep_5 ?_
  refine gx_vv ⟨hx, hb0, hml, hown, hts⟩ (gKC_keep _ _) hk hK hP hD hS 1 [.ref (ad 8)] [] (c_X2_hold l dC dI P ad tb 8 vb_8 h0 _ he) gm_X2_hold im_yX2_hold se_yX2_hold ml_RX7_45 (by decide) (cE_t1 _) rfl rfl rfl ⟨Nat.le_of_ble_eq_true rfl, Nat.le_of_ble_eq_true rfl⟩ rfl hl.1 rfl (Nat.le_of_ble_eq_true rfl) dX7_sleep_8 ⟨Nat.zero_le _, Nat.zero_le _⟩ (fun h_2 he H locs hP hD hS => ?_)
  refine lv_aload_n hx hb0 dX7_sleep_11 rfl (lv_at hl 0 rfl) ?_
  refine gx_get hx hb0 hts in_RX7 hown hK hP 0 (by decide) (cE_t0 _) rfl 1 (by decide) fl_RX7_19 rfl dX7_sleep_12 ?_
  refine lv_aload_n hx hb0 dX7_sleep_15 rfl (lv_at hl 0 rfl) ?_
  refine gx_get hx hb0 hts in_RX7 hown hK hP 0 (by decide) (cE_t0 _) rfl 0 (by decide) fl_RX7_10 rfl dX7_sleep_16 ?_
  refine lv_iload_n hx hb0 dX7_sleep_19 rfl (lv_at hl 1 rfl) ?_
  refine gx_vi ⟨hx, hb0, hml, hown, hts⟩ (gKC_keep _ _) hk hK hP hD hS 8 [.int x1] [.ref (ad 1)] (c_X6_turnSleep l dC dI P ad tb 8 vb_8 x1 h_2 _ he) gm_X6_turnSleep im_yX6_turnSleep se_yX6_turnSleep ml_RX7_67 (vb_lt0 vb_8) ((cE_0 vb_8) _) rfl rfl rfl ⟨Nat.le_of_ble_eq_true rfl, Nat.le_of_ble_eq_true rfl⟩ rfl hl.1 rfl (Nat.le_of_ble_eq_true rfl) dX7_sleep_20 ⟨Nat.zero_le _, Nat.zero_le _⟩ (fun r_3 h_4 he H locs hP hD hS => ?_)
  refine gx_vi ⟨hx, hb0, hml, hown, hts⟩ (gKC_keep _ _) hk hK hP hD hS 1 [.int r_3] [] (c_X2_keepUnlessError l dC dI P ad tb r_3 h_4 _ he) gm_X2_keepUnlessError im_yX2_keepUnlessError se_yX2_keepUnlessError ml_RX7_53 (by decide) (cE_t1 _) rfl rfl rfl ⟨Nat.le_of_ble_eq_true rfl, Nat.le_of_ble_eq_true rfl⟩ rfl hl.1 rfl (Nat.le_of_ble_eq_true rfl) dX7_sleep_23 ⟨Nat.zero_le _, Nat.zero_le _⟩ (fun r_5 h_6 he H locs hP hD hS => ?_)
  exact gx_iret hx hb0 hr hlocks hK hP hD hS he dX7_sleep_26
theorem gm_X7_sleep : gMeth yX7_sleep cX7_sleep 2 (some .int) 1 := ⟨⟨by decide, by decide, by decide +kernel⟩, ini_RX7, co_yX7_sleep⟩
abbrev rm_X7_goal : Room := { frames := 4, cells := 0, slots := 0, locals := 81 }
set_option maxHeartbeats 4000000 in
set_option maxRecDepth 100000 in
theorem c_X7_goal (l : Launch) (dC : Nat → ClassId) (dI : Nat → Nat → Nat) (P : gP) (ad : Nat → Nat) (tb : Nat → Nat) (x1 : Int32) (h0 : Hp) (Q : Int32 → Hp → Prop) (he : F_X7_goal x1 h0 Q) : Met l yX7_goal (Cond.code yX7_goal cX7_goal 2 (some .int) :: TB) rm_X7_goal (gPc (dC, dI) vwCl (tyC P) 158 (cE P ad) ad (gKC tb (gA 158 ad)) h0 [.ref (ad 0), .int x1]) (gQi (dC, dI) vwCl (tyC P) 158 (cE P ad) ad Q) 0 0 (gA 158 ad) := by
  refine gx_start (by decide) (Nat.le_of_ble_eq_true rfl) (fun p e s m below meth c ls hx hb0 hr hlocks hml hown hts hK hk hP hD hS hl => ?_)
  have hl : lv_has ls 2 [(0, .ref (ad 0)), (1, .int x1)] := hl
  have hown : s.vm.findClass RX7 = some m.cls := hown
  unfold F_X7_goal at he
  refine lv_aload_n hx hb0 dX7_goal_0 rfl (lv_at hl 0 rfl) ?_
  refine gx_get hx hb0 hts in_RX7 hown hK hP 0 (by decide) (cE_t0 _) rfl 1 (by decide) fl_RX7_19 rfl dX7_goal_1 ?_
  refine lv_aload_n hx hb0 dX7_goal_4 rfl (lv_at hl 0 rfl) ?_
  refine gx_get hx hb0 hts in_RX7 hown hK hP 0 (by decide) (cE_t0 _) rfl 0 (by decide) fl_RX7_10 rfl dX7_goal_5 ?_
  refine gx_vv ⟨hx, hb0, hml, hown, hts⟩ (gKC_keep _ _) hk hK hP hD hS 1 [.ref (ad 8)] [] (c_X2_hold l dC dI P ad tb 8 vb_8 h0 _ he) gm_X2_hold im_yX2_hold se_yX2_hold ml_RX7_45 (by decide) (cE_t1 _) rfl rfl rfl ⟨Nat.le_of_ble_eq_true rfl, Nat.le_of_ble_eq_true rfl⟩ rfl hl.1 rfl (Nat.le_of_ble_eq_true rfl) dX7_goal_8 ⟨Nat.zero_le _, Nat.zero_le _⟩ (fun h_2 he H locs hP hD hS => ?_)
  refine lv_aload_n hx hb0 dX7_goal_11 rfl (lv_at hl 0 rfl) ?_
  refine gx_get hx hb0 hts in_RX7 hown hK hP 0 (by decide) (cE_t0 _) rfl 1 (by decide) fl_RX7_19 rfl dX7_goal_12 ?_
  refine lv_aload_n hx hb0 dX7_goal_15 rfl (lv_at hl 0 rfl) ?_
  refine gx_get hx hb0 hts in_RX7 hown hK hP 0 (by decide) (cE_t0 _) rfl 0 (by decide) fl_RX7_10 rfl dX7_goal_16 ?_
  refine lv_iload_n hx hb0 dX7_goal_19 rfl (lv_at hl 1 rfl) ?_
  refine gx_vi ⟨hx, hb0, hml, hown, hts⟩ (gKC_keep _ _) hk hK hP hD hS 8 [.int x1] [.ref (ad 1)] (c_X6_changeGoal l dC dI P ad tb 8 vb_8 x1 h_2 _ he) gm_X6_changeGoal im_yX6_changeGoal se_yX6_changeGoal ml_RX7_70 (vb_lt0 vb_8) ((cE_0 vb_8) _) rfl rfl rfl ⟨Nat.le_of_ble_eq_true rfl, Nat.le_of_ble_eq_true rfl⟩ rfl hl.1 rfl (Nat.le_of_ble_eq_true rfl) dX7_goal_20 ⟨Nat.zero_le _, Nat.zero_le _⟩ (fun r_3 h_4 he H locs hP hD hS => ?_)
  refine gx_vi ⟨hx, hb0, hml, hown, hts⟩ (gKC_keep _ _) hk hK hP hD hS 1 [.int r_3] [] (c_X2_keepUnlessError l dC dI P ad tb r_3 h_4 _ he) gm_X2_keepUnlessError im_yX2_keepUnlessError se_yX2_keepUnlessError ml_RX7_53 (by decide) (cE_t1 _) rfl rfl rfl ⟨Nat.le_of_ble_eq_true rfl, Nat.le_of_ble_eq_true rfl⟩ rfl hl.1 rfl (Nat.le_of_ble_eq_true rfl) dX7_goal_23 ⟨Nat.zero_le _, Nat.zero_le _⟩ (fun r_5 h_6 he H locs hP hD hS => ?_)
  exact gx_iret hx hb0 hr hlocks hK hP hD hS he dX7_goal_26
theorem gm_X7_goal : gMeth yX7_goal cX7_goal 2 (some .int) 1 := ⟨⟨by decide, by decide, by decide +kernel⟩, ini_RX7, co_yX7_goal⟩
abbrev rm_X7_sight : Room := { frames := 5, cells := 0, slots := 0, locals := 106 }
set_option maxHeartbeats 4000000 in
set_option maxRecDepth 100000 in
theorem c_X7_sight (l : Launch) (dC : Nat → ClassId) (dI : Nat → Nat → Nat) (P : gP) (ad : Nat → Nat) (tb : Nat → Nat) (x1 : Int32) (x2 : Int32) (h0 : Hp) (Q : Int32 → Hp → Prop) (he : F_X7_sight x1 x2 h0 Q) : Met l yX7_sight (Cond.code yX7_sight cX7_sight 3 (some .int) :: TB) rm_X7_sight (gPc (dC, dI) vwCl (tyC P) 158 (cE P ad) ad (gKC tb (gA 158 ad)) h0 [.ref (ad 0), .int x1, .int x2]) (gQi (dC, dI) vwCl (tyC P) 158 (cE P ad) ad Q) 0 0 (gA 158 ad) := by
  refine gx_start (by decide) (Nat.le_of_ble_eq_true rfl) (fun p e s m below meth c ls hx hb0 hr hlocks hml hown hts hK hk hP hD hS hl => ?_)
  have hl : lv_has ls 3 [(0, .ref (ad 0)), (1, .int x1), (2, .int x2)] := hl
  have hown : s.vm.findClass RX7 = some m.cls := hown
  unfold F_X7_sight at he
  refine lv_aload_n hx hb0 dX7_sight_0 rfl (lv_at hl 0 rfl) ?_
  refine gx_get hx hb0 hts in_RX7 hown hK hP 0 (by decide) (cE_t0 _) rfl 1 (by decide) fl_RX7_19 rfl dX7_sight_1 ?_
  refine lv_aload_n hx hb0 dX7_sight_4 rfl (lv_at hl 0 rfl) ?_
  refine gx_get hx hb0 hts in_RX7 hown hK hP 0 (by decide) (cE_t0 _) rfl 0 (by decide) fl_RX7_10 rfl dX7_sight_5 ?_
  refine gx_vv ⟨hx, hb0, hml, hown, hts⟩ (gKC_keep _ _) hk hK hP hD hS 1 [.ref (ad 8)] [] (c_X2_hold l dC dI P ad tb 8 vb_8 h0 _ he) gm_X2_hold im_yX2_hold se_yX2_hold ml_RX7_45 (by decide) (cE_t1 _) rfl rfl rfl ⟨Nat.le_of_ble_eq_true rfl, Nat.le_of_ble_eq_true rfl⟩ rfl hl.1 rfl (Nat.le_of_ble_eq_true rfl) dX7_sight_8 ⟨Nat.zero_le _, Nat.zero_le _⟩ (fun h_2 he H locs hP hD hS => ?_)
  refine lv_aload_n hx hb0 dX7_sight_11 rfl (lv_at hl 0 rfl) ?_
  refine gx_get hx hb0 hts in_RX7 hown hK hP 0 (by decide) (cE_t0 _) rfl 1 (by decide) fl_RX7_19 rfl dX7_sight_12 ?_
  refine lv_aload_n hx hb0 dX7_sight_15 rfl (lv_at hl 0 rfl) ?_
  refine gx_get hx hb0 hts in_RX7 hown hK hP 0 (by decide) (cE_t0 _) rfl 0 (by decide) fl_RX7_10 rfl dX7_sight_16 ?_
  refine lv_iload_n hx hb0 dX7_sight_19 rfl (lv_at hl 1 rfl) ?_
  refine lv_iload_n hx hb0 dX7_sight_20 rfl (lv_at hl 2 rfl) ?_
  refine gx_vi ⟨hx, hb0, hml, hown, hts⟩ (gKC_keep _ _) hk hK hP hD hS 8 [.int x1, .int x2] [.ref (ad 1)] (c_X6_takeSight l dC dI P ad tb 8 vb_8 x1 x2 h_2 _ he) gm_X6_takeSight im_yX6_takeSight se_yX6_takeSight ml_RX7_73 (vb_lt0 vb_8) ((cE_0 vb_8) _) rfl rfl rfl ⟨Nat.le_of_ble_eq_true rfl, Nat.le_of_ble_eq_true rfl⟩ rfl hl.1 rfl (Nat.le_of_ble_eq_true rfl) dX7_sight_21 ⟨Nat.zero_le _, Nat.zero_le _⟩ (fun r_3 h_4 he H locs hP hD hS => ?_)
  refine gx_vi ⟨hx, hb0, hml, hown, hts⟩ (gKC_keep _ _) hk hK hP hD hS 1 [.int r_3] [] (c_X2_keepUnlessError l dC dI P ad tb r_3 h_4 _ he) gm_X2_keepUnlessError im_yX2_keepUnlessError se_yX2_keepUnlessError ml_RX7_53 (by decide) (cE_t1 _) rfl rfl rfl ⟨Nat.le_of_ble_eq_true rfl, Nat.le_of_ble_eq_true rfl⟩ rfl hl.1 rfl (Nat.le_of_ble_eq_true rfl) dX7_sight_24 ⟨Nat.zero_le _, Nat.zero_le _⟩ (fun r_5 h_6 he H locs hP hD hS => ?_)
  exact gx_iret hx hb0 hr hlocks hK hP hD hS he dX7_sight_27
theorem gm_X7_sight : gMeth yX7_sight cX7_sight 3 (some .int) 2 := ⟨⟨by decide, by decide, by decide +kernel⟩, ini_RX7, co_yX7_sight⟩
abbrev rm_X7_agree : Room := { frames := 4, cells := 0, slots := 0, locals := 90 }
set_option maxHeartbeats 4000000 in
set_option maxRecDepth 100000 in
theorem c_X7_agree (l : Launch) (dC : Nat → ClassId) (dI : Nat → Nat → Nat) (P : gP) (ad : Nat → Nat) (tb : Nat → Nat) (h0 : Hp) (Q : Int32 → Hp → Prop) (he : F_X7_agree  h0 Q) : Met l yX7_agree (Cond.code yX7_agree cX7_agree 1 (some .int) :: TB) rm_X7_agree (gPc (dC, dI) vwCl (tyC P) 158 (cE P ad) ad (gKC tb (gA 158 ad)) h0 [.ref (ad 0)]) (gQi (dC, dI) vwCl (tyC P) 158 (cE P ad) ad Q) 0 0 (gA 158 ad) := by
  refine gx_start (by decide) (Nat.le_of_ble_eq_true rfl) (fun p e s m below meth c ls hx hb0 hr hlocks hml hown hts hK hk hP hD hS hl => ?_)
  have hl : lv_has ls 1 [(0, .ref (ad 0))] := hl
  have hown : s.vm.findClass RX7 = some m.cls := hown
  unfold F_X7_agree at he
  refine lv_aload_n hx hb0 dX7_agree_0 rfl (lv_at hl 0 rfl) ?_
  refine gx_get hx hb0 hts in_RX7 hown hK hP 0 (by decide) (cE_t0 _) rfl 1 (by decide) fl_RX7_19 rfl dX7_agree_1 ?_
  refine lv_aload_n hx hb0 dX7_agree_4 rfl (lv_at hl 0 rfl) ?_
  refine gx_get hx hb0 hts in_RX7 hown hK hP 0 (by decide) (cE_t0 _) rfl 0 (by decide) fl_RX7_10 rfl dX7_agree_5 ?_
  refine gx_vv ⟨hx, hb0, hml, hown, hts⟩ (gKC_keep _ _) hk hK hP hD hS 1 [.ref (ad 8)] [] (c_X2_hold l dC dI P ad tb 8 vb_8 h0 _ he) gm_X2_hold im_yX2_hold se_yX2_hold ml_RX7_45 (by decide) (cE_t1 _) rfl rfl rfl ⟨Nat.le_of_ble_eq_true rfl, Nat.le_of_ble_eq_true rfl⟩ rfl hl.1 rfl (Nat.le_of_ble_eq_true rfl) dX7_agree_8 ⟨Nat.zero_le _, Nat.zero_le _⟩ (fun h_2 he H locs hP hD hS => ?_)
  refine lv_aload_n hx hb0 dX7_agree_11 rfl (lv_at hl 0 rfl) ?_
  refine gx_get hx hb0 hts in_RX7 hown hK hP 0 (by decide) (cE_t0 _) rfl 1 (by decide) fl_RX7_19 rfl dX7_agree_12 ?_
  refine lv_aload_n hx hb0 dX7_agree_15 rfl (lv_at hl 0 rfl) ?_
  refine gx_get hx hb0 hts in_RX7 hown hK hP 0 (by decide) (cE_t0 _) rfl 0 (by decide) fl_RX7_10 rfl dX7_agree_16 ?_
  refine gx_vi ⟨hx, hb0, hml, hown, hts⟩ (gKC_keep _ _) hk hK hP hD hS 8 [] [.ref (ad 1)] (c_X6_agreeOnMedian l dC dI P ad tb 8 vb_8 h_2 _ he) gm_X6_agreeOnMedian im_yX6_agreeOnMedian se_yX6_agreeOnMedian ml_RX7_76 (vb_lt0 vb_8) ((cE_0 vb_8) _) rfl rfl rfl ⟨Nat.le_of_ble_eq_true rfl, Nat.le_of_ble_eq_true rfl⟩ rfl hl.1 rfl (Nat.le_of_ble_eq_true rfl) dX7_agree_19 ⟨Nat.zero_le _, Nat.zero_le _⟩ (fun r_3 h_4 he H locs hP hD hS => ?_)
  refine gx_vi ⟨hx, hb0, hml, hown, hts⟩ (gKC_keep _ _) hk hK hP hD hS 1 [.int r_3] [] (c_X2_keepUnlessError l dC dI P ad tb r_3 h_4 _ he) gm_X2_keepUnlessError im_yX2_keepUnlessError se_yX2_keepUnlessError ml_RX7_53 (by decide) (cE_t1 _) rfl rfl rfl ⟨Nat.le_of_ble_eq_true rfl, Nat.le_of_ble_eq_true rfl⟩ rfl hl.1 rfl (Nat.le_of_ble_eq_true rfl) dX7_agree_22 ⟨Nat.zero_le _, Nat.zero_le _⟩ (fun r_5 h_6 he H locs hP hD hS => ?_)
  exact gx_iret hx hb0 hr hlocks hK hP hD hS he dX7_agree_25
theorem gm_X7_agree : gMeth yX7_agree cX7_agree 1 (some .int) 0 := ⟨⟨by decide, by decide, by decide +kernel⟩, ini_RX7, co_yX7_agree⟩
abbrev rm_X7_sail : Room := { frames := 4, cells := 0, slots := 0, locals := 81 }
set_option maxHeartbeats 4000000 in
set_option maxRecDepth 100000 in
theorem c_X7_sail (l : Launch) (dC : Nat → ClassId) (dI : Nat → Nat → Nat) (P : gP) (ad : Nat → Nat) (tb : Nat → Nat) (x1 : Int32) (h0 : Hp) (Q : Int32 → Hp → Prop) (he : F_X7_sail x1 h0 Q) : Met l yX7_sail (Cond.code yX7_sail cX7_sail 2 (some .int) :: TB) rm_X7_sail (gPc (dC, dI) vwCl (tyC P) 158 (cE P ad) ad (gKC tb (gA 158 ad)) h0 [.ref (ad 0), .int x1]) (gQi (dC, dI) vwCl (tyC P) 158 (cE P ad) ad Q) 0 0 (gA 158 ad) := by
  refine gx_start (by decide) (Nat.le_of_ble_eq_true rfl) (fun p e s m below meth c ls hx hb0 hr hlocks hml hown hts hK hk hP hD hS hl => ?_)
  have hl : lv_has ls 2 [(0, .ref (ad 0)), (1, .int x1)] := hl
  have hown : s.vm.findClass RX7 = some m.cls := hown
  unfold F_X7_sail at he
  refine lv_aload_n hx hb0 dX7_sail_0 rfl (lv_at hl 0 rfl) ?_
  refine gx_get hx hb0 hts in_RX7 hown hK hP 0 (by decide) (cE_t0 _) rfl 1 (by decide) fl_RX7_19 rfl dX7_sail_1 ?_
  refine lv_aload_n hx hb0 dX7_sail_4 rfl (lv_at hl 0 rfl) ?_
  refine gx_get hx hb0 hts in_RX7 hown hK hP 0 (by decide) (cE_t0 _) rfl 0 (by decide) fl_RX7_10 rfl dX7_sail_5 ?_
  refine gx_vv ⟨hx, hb0, hml, hown, hts⟩ (gKC_keep _ _) hk hK hP hD hS 1 [.ref (ad 8)] [] (c_X2_hold l dC dI P ad tb 8 vb_8 h0 _ he) gm_X2_hold im_yX2_hold se_yX2_hold ml_RX7_45 (by decide) (cE_t1 _) rfl rfl rfl ⟨Nat.le_of_ble_eq_true rfl, Nat.le_of_ble_eq_true rfl⟩ rfl hl.1 rfl (Nat.le_of_ble_eq_true rfl) dX7_sail_8 ⟨Nat.zero_le _, Nat.zero_le _⟩ (fun h_2 he H locs hP hD hS => ?_)
  refine lv_aload_n hx hb0 dX7_sail_11 rfl (lv_at hl 0 rfl) ?_
  refine gx_get hx hb0 hts in_RX7 hown hK hP 0 (by decide) (cE_t0 _) rfl 1 (by decide) fl_RX7_19 rfl dX7_sail_12 ?_
  refine lv_aload_n hx hb0 dX7_sail_15 rfl (lv_at hl 0 rfl) ?_
  refine gx_get hx hb0 hts in_RX7 hown hK hP 0 (by decide) (cE_t0 _) rfl 0 (by decide) fl_RX7_10 rfl dX7_sail_16 ?_
  refine lv_iload_n hx hb0 dX7_sail_19 rfl (lv_at hl 1 rfl) ?_
  refine gx_vi ⟨hx, hb0, hml, hown, hts⟩ (gKC_keep _ _) hk hK hP hD hS 8 [.int x1] [.ref (ad 1)] (c_X6_sailHours l dC dI P ad tb 8 vb_8 x1 h_2 _ he) gm_X6_sailHours im_yX6_sailHours se_yX6_sailHours ml_RX7_80 (vb_lt0 vb_8) ((cE_0 vb_8) _) rfl rfl rfl ⟨Nat.le_of_ble_eq_true rfl, Nat.le_of_ble_eq_true rfl⟩ rfl hl.1 rfl (Nat.le_of_ble_eq_true rfl) dX7_sail_20 ⟨Nat.zero_le _, Nat.zero_le _⟩ (fun r_3 h_4 he H locs hP hD hS => ?_)
  refine gx_vi ⟨hx, hb0, hml, hown, hts⟩ (gKC_keep _ _) hk hK hP hD hS 1 [.int r_3] [] (c_X2_keepUnlessError l dC dI P ad tb r_3 h_4 _ he) gm_X2_keepUnlessError im_yX2_keepUnlessError se_yX2_keepUnlessError ml_RX7_53 (by decide) (cE_t1 _) rfl rfl rfl ⟨Nat.le_of_ble_eq_true rfl, Nat.le_of_ble_eq_true rfl⟩ rfl hl.1 rfl (Nat.le_of_ble_eq_true rfl) dX7_sail_23 ⟨Nat.zero_le _, Nat.zero_le _⟩ (fun r_5 h_6 he H locs hP hD hS => ?_)
  exact gx_iret hx hb0 hr hlocks hK hP hD hS he dX7_sail_26
theorem gm_X7_sail : gMeth yX7_sail cX7_sail 2 (some .int) 1 := ⟨⟨by decide, by decide, by decide +kernel⟩, ini_RX7, co_yX7_sail⟩
abbrev rm_X7_night : Room := { frames := 4, cells := 0, slots := 0, locals := 81 }
set_option maxHeartbeats 4000000 in
set_option maxRecDepth 100000 in
theorem c_X7_night (l : Launch) (dC : Nat → ClassId) (dI : Nat → Nat → Nat) (P : gP) (ad : Nat → Nat) (tb : Nat → Nat) (h0 : Hp) (Q : Int32 → Hp → Prop) (he : F_X7_night  h0 Q) : Met l yX7_night (Cond.code yX7_night cX7_night 1 (some .int) :: TB) rm_X7_night (gPc (dC, dI) vwCl (tyC P) 158 (cE P ad) ad (gKC tb (gA 158 ad)) h0 [.ref (ad 0)]) (gQi (dC, dI) vwCl (tyC P) 158 (cE P ad) ad Q) 0 0 (gA 158 ad) := by
  refine gx_start (by decide) (Nat.le_of_ble_eq_true rfl) (fun p e s m below meth c ls hx hb0 hr hlocks hml hown hts hK hk hP hD hS hl => ?_)
  have hl : lv_has ls 1 [(0, .ref (ad 0))] := hl
  have hown : s.vm.findClass RX7 = some m.cls := hown
  unfold F_X7_night at he
  refine lv_aload_n hx hb0 dX7_night_0 rfl (lv_at hl 0 rfl) ?_
  refine gx_get hx hb0 hts in_RX7 hown hK hP 0 (by decide) (cE_t0 _) rfl 1 (by decide) fl_RX7_19 rfl dX7_night_1 ?_
  refine lv_aload_n hx hb0 dX7_night_4 rfl (lv_at hl 0 rfl) ?_
  refine gx_get hx hb0 hts in_RX7 hown hK hP 0 (by decide) (cE_t0 _) rfl 0 (by decide) fl_RX7_10 rfl dX7_night_5 ?_
  refine gx_vv ⟨hx, hb0, hml, hown, hts⟩ (gKC_keep _ _) hk hK hP hD hS 1 [.ref (ad 8)] [] (c_X2_hold l dC dI P ad tb 8 vb_8 h0 _ he) gm_X2_hold im_yX2_hold se_yX2_hold ml_RX7_45 (by decide) (cE_t1 _) rfl rfl rfl ⟨Nat.le_of_ble_eq_true rfl, Nat.le_of_ble_eq_true rfl⟩ rfl hl.1 rfl (Nat.le_of_ble_eq_true rfl) dX7_night_8 ⟨Nat.zero_le _, Nat.zero_le _⟩ (fun h_2 he H locs hP hD hS => ?_)
  refine lv_aload_n hx hb0 dX7_night_11 rfl (lv_at hl 0 rfl) ?_
  refine gx_get hx hb0 hts in_RX7 hown hK hP 0 (by decide) (cE_t0 _) rfl 1 (by decide) fl_RX7_19 rfl dX7_night_12 ?_
  refine lv_aload_n hx hb0 dX7_night_15 rfl (lv_at hl 0 rfl) ?_
  refine gx_get hx hb0 hts in_RX7 hown hK hP 0 (by decide) (cE_t0 _) rfl 0 (by decide) fl_RX7_10 rfl dX7_night_16 ?_
  refine gx_vi ⟨hx, hb0, hml, hown, hts⟩ (gKC_keep _ _) hk hK hP hD hS 8 [] [.ref (ad 1)] (c_X6_endNight l dC dI P ad tb 8 vb_8 h_2 _ he) gm_X6_endNight im_yX6_endNight se_yX6_endNight ml_RX7_83 (vb_lt0 vb_8) ((cE_0 vb_8) _) rfl rfl rfl ⟨Nat.le_of_ble_eq_true rfl, Nat.le_of_ble_eq_true rfl⟩ rfl hl.1 rfl (Nat.le_of_ble_eq_true rfl) dX7_night_19 ⟨Nat.zero_le _, Nat.zero_le _⟩ (fun r_3 h_4 he H locs hP hD hS => ?_)
  refine gx_vi ⟨hx, hb0, hml, hown, hts⟩ (gKC_keep _ _) hk hK hP hD hS 1 [.int r_3] [] (c_X2_keepUnlessError l dC dI P ad tb r_3 h_4 _ he) gm_X2_keepUnlessError im_yX2_keepUnlessError se_yX2_keepUnlessError ml_RX7_53 (by decide) (cE_t1 _) rfl rfl rfl ⟨Nat.le_of_ble_eq_true rfl, Nat.le_of_ble_eq_true rfl⟩ rfl hl.1 rfl (Nat.le_of_ble_eq_true rfl) dX7_night_22 ⟨Nat.zero_le _, Nat.zero_le _⟩ (fun r_5 h_6 he H locs hP hD hS => ?_)
  exact gx_iret hx hb0 hr hlocks hK hP hD hS he dX7_night_25
theorem gm_X7_night : gMeth yX7_night cX7_night 1 (some .int) 0 := ⟨⟨by decide, by decide, by decide +kernel⟩, ini_RX7, co_yX7_night⟩
abbrev rm_X7_of : Room := { frames := 2, cells := 0, slots := 0, locals := 44 }
set_option maxHeartbeats 4000000 in
set_option maxRecDepth 100000 in
theorem c_X7_of (l : Launch) (dC : Nat → ClassId) (dI : Nat → Nat → Nat) (P : gP) (ad : Nat → Nat) (tb : Nat → Nat) (x1 : Int32) (x2 : Int32) (h0 : Hp) (Q : Int32 → Hp → Prop) (he : F_X7_of x1 x2 h0 Q) : Met l yX7_of (Cond.code yX7_of cX7_of 3 (some .int) :: TB) rm_X7_of (gPc (dC, dI) vwCl (tyC P) 158 (cE P ad) ad (gKC tb (gA 158 ad)) h0 [.ref (ad 0), .int x1, .int x2]) (gQi (dC, dI) vwCl (tyC P) 158 (cE P ad) ad Q) 0 0 (gA 158 ad) := by
  refine gx_start (by decide) (Nat.le_of_ble_eq_true rfl) (fun p e s m below meth c ls hx hb0 hr hlocks hml hown hts hK hk hP hD hS hl => ?_)
  have hl : lv_has ls 3 [(0, .ref (ad 0)), (1, .int x1), (2, .int x2)] := hl
  have hown : s.vm.findClass RX7 = some m.cls := hown
  unfold F_X7_of at he
  refine lv_iload_n hx hb0 dX7_of_0 rfl (lv_at hl 1 rfl) ?_
  refine gx_si ⟨hx, hb0, hml, hown, hts⟩ (gKC_keep _ _) hk hK hP hD hS [.int x1] [] (c_X7_isNavigator l dC dI P ad tb x1 h0 _ he) gm_X7_isNavigator st_yX7_isNavigator ml_RX7_86 rfl rfl ⟨Nat.le_of_ble_eq_true rfl, Nat.le_of_ble_eq_true rfl⟩ rfl hl.1 rfl (Nat.le_of_ble_eq_true rfl) dX7_of_1 ⟨Nat.zero_le _, Nat.zero_le _⟩ (fun r_1 h_2 he H locs hP hD hS => ?_)
  refine lv_if_eq (tgt := 22) hx hb0 dX7_of_4 (by decide) (fun c_3 => ?_) (fun c_3 => ?_)
  · have he := he.1 c_3
    refine lv_iconst (v := (-1 : Int32)) hx hb0 dX7_of_22 (by decide) ?_
    exact gx_iret hx hb0 hr hlocks hK hP hD hS he dX7_of_23
  · have he := he.2 c_3
    refine lv_aload_n hx hb0 dX7_of_7 rfl (lv_at hl 0 rfl) ?_
    refine gx_get hx hb0 hts in_RX7 hown hK hP 0 (by decide) (cE_t0 _) rfl 0 (by decide) fl_RX7_10 rfl dX7_of_8 ?_
    refine gx_get hx hb0 hts in_RX6 hown hK hP 8 (vb_lt0 vb_8) ((cE_0 vb_8) _) rfl 2 (by decide) fl_RX7_90 rfl dX7_of_11 ?_
    refine lv_iload_n hx hb0 dX7_of_14 rfl (lv_at hl 1 rfl) ?_
    refine lv_iload_n hx hb0 dX7_of_15 rfl (lv_at hl 2 rfl) ?_
    refine gx_vi ⟨hx, hb0, hml, hown, hts⟩ (gKC_keep _ _) hk hK hP hD hS (8 + 4) [.int x1, .int x2] [] (c_X1_factOf l dC dI P ad tb 8 vb_8 x1 x2 h_2 _ he) gm_X1_factOf im_yX1_factOf se_yX1_factOf ml_RX7_94 (vb_lt vb_8 (by decide)) ((cE_4 vb_8) _) rfl rfl rfl ⟨Nat.le_of_ble_eq_true rfl, Nat.le_of_ble_eq_true rfl⟩ rfl hl.1 rfl (Nat.le_of_ble_eq_true rfl) dX7_of_16 ⟨Nat.zero_le _, Nat.zero_le _⟩ (fun r_4 h_5 he H locs hP hD hS => ?_)
    refine lv_goto (tgt := 23) hx hb0 dX7_of_19 (by decide) ?_
    exact gx_iret hx hb0 hr hlocks hK hP hD hS he dX7_of_23
theorem gm_X7_of : gMeth yX7_of cX7_of 3 (some .int) 2 := ⟨⟨by decide, by decide, by decide +kernel⟩, ini_RX7, co_yX7_of⟩
abbrev rm_X7_ofStar : Room := { frames := 5, cells := 0, slots := 0, locals := 102 }
set_option maxHeartbeats 4000000 in
set_option maxRecDepth 100000 in
theorem c_X7_ofStar (l : Launch) (dC : Nat → ClassId) (dI : Nat → Nat → Nat) (P : gP) (ad : Nat → Nat) (tb : Nat → Nat) (x1 : Int32) (x2 : Int32) (h0 : Hp) (Q : Int32 → Hp → Prop) (he : F_X7_ofStar x1 x2 h0 Q) : Met l yX7_ofStar (Cond.code yX7_ofStar cX7_ofStar 3 (some .int) :: TB) rm_X7_ofStar (gPc (dC, dI) vwCl (tyC P) 158 (cE P ad) ad (gKC tb (gA 158 ad)) h0 [.ref (ad 0), .int x1, .int x2]) (gQi (dC, dI) vwCl (tyC P) 158 (cE P ad) ad Q) 0 0 (gA 158 ad) := by
  refine gx_start (by decide) (Nat.le_of_ble_eq_true rfl) (fun p e s m below meth c ls hx hb0 hr hlocks hml hown hts hK hk hP hD hS hl => ?_)
  have hl : lv_has ls 3 [(0, .ref (ad 0)), (1, .int x1), (2, .int x2)] := hl
  have hown : s.vm.findClass RX7 = some m.cls := hown
  unfold F_X7_ofStar at he
  refine lv_aload_n hx hb0 dX7_ofStar_0 rfl (lv_at hl 0 rfl) ?_
  refine gx_get hx hb0 hts in_RX7 hown hK hP 0 (by decide) (cE_t0 _) rfl 0 (by decide) fl_RX7_10 rfl dX7_ofStar_1 ?_
  refine gx_get hx hb0 hts in_RX6 hown hK hP 8 (vb_lt0 vb_8) ((cE_0 vb_8) _) rfl 1 (by decide) fl_RX7_99 rfl dX7_ofStar_4 ?_
  refine lv_iload_n hx hb0 dX7_ofStar_7 rfl (lv_at hl 1 rfl) ?_
  refine gx_vi ⟨hx, hb0, hml, hown, hts⟩ (gKC_keep _ _) hk hK hP hD hS (8 + 2) [.int x1] [] (c_X5_hasStar l dC dI P ad tb 8 vb_8 x1 h0 _ he) gm_X5_hasStar im_yX5_hasStar se_yX5_hasStar ml_RX7_103 (vb_lt vb_8 (by decide)) ((cE_2 vb_8) _) rfl rfl rfl ⟨Nat.le_of_ble_eq_true rfl, Nat.le_of_ble_eq_true rfl⟩ rfl hl.1 rfl (Nat.le_of_ble_eq_true rfl) dX7_ofStar_8 ⟨Nat.zero_le _, Nat.zero_le _⟩ (fun r_1 h_2 he H locs hP hD hS => ?_)
  refine lv_if_eq (tgt := 26) hx hb0 dX7_ofStar_11 (by decide) (fun c_3 => ?_) (fun c_3 => ?_)
  · have he := he.1 c_3
    refine lv_iconst (v := (-1 : Int32)) hx hb0 dX7_ofStar_26 (by decide) ?_
    exact gx_iret hx hb0 hr hlocks hK hP hD hS he dX7_ofStar_27
  · have he := he.2 c_3
    refine lv_aload_n hx hb0 dX7_ofStar_14 rfl (lv_at hl 0 rfl) ?_
    refine gx_get hx hb0 hts in_RX7 hown hK hP 0 (by decide) (cE_t0 _) rfl 0 (by decide) fl_RX7_10 rfl dX7_ofStar_15 ?_
    refine lv_iload_n hx hb0 dX7_ofStar_18 rfl (lv_at hl 1 rfl) ?_
    refine lv_iload_n hx hb0 dX7_ofStar_19 rfl (lv_at hl 2 rfl) ?_
    refine gx_vi ⟨hx, hb0, hml, hown, hts⟩ (gKC_keep _ _) hk hK hP hD hS 8 [.int x1, .int x2] [] (c_X6_factOfStar l dC dI P ad tb 8 vb_8 x1 x2 h_2 _ he) gm_X6_factOfStar im_yX6_factOfStar se_yX6_factOfStar ml_RX7_108 (vb_lt0 vb_8) ((cE_0 vb_8) _) rfl rfl rfl ⟨Nat.le_of_ble_eq_true rfl, Nat.le_of_ble_eq_true rfl⟩ rfl hl.1 rfl (Nat.le_of_ble_eq_true rfl) dX7_ofStar_20 ⟨Nat.zero_le _, Nat.zero_le _⟩ (fun r_4 h_5 he H locs hP hD hS => ?_)
    refine lv_goto (tgt := 27) hx hb0 dX7_ofStar_23 (by decide) ?_
    exact gx_iret hx hb0 hr hlocks hK hP hD hS he dX7_ofStar_27
theorem gm_X7_ofStar : gMeth yX7_ofStar cX7_ofStar 3 (some .int) 2 := ⟨⟨by decide, by decide, by decide +kernel⟩, ini_RX7, co_yX7_ofStar⟩
abbrev rm_X7_log : Room := { frames := 2, cells := 0, slots := 0, locals := 44 }
set_option maxHeartbeats 4000000 in
set_option maxRecDepth 100000 in
theorem c_X7_log (l : Launch) (dC : Nat → ClassId) (dI : Nat → Nat → Nat) (P : gP) (ad : Nat → Nat) (tb : Nat → Nat) (x1 : Int32) (x2 : Int32) (h0 : Hp) (Q : Int32 → Hp → Prop) (he : F_X7_log x1 x2 h0 Q) : Met l yX7_log (Cond.code yX7_log cX7_log 3 (some .int) :: TB) rm_X7_log (gPc (dC, dI) vwCl (tyC P) 158 (cE P ad) ad (gKC tb (gA 158 ad)) h0 [.ref (ad 0), .int x1, .int x2]) (gQi (dC, dI) vwCl (tyC P) 158 (cE P ad) ad Q) 0 0 (gA 158 ad) := by
  refine gx_start (by decide) (Nat.le_of_ble_eq_true rfl) (fun p e s m below meth c ls hx hb0 hr hlocks hml hown hts hK hk hP hD hS hl => ?_)
  have hl : lv_has ls 3 [(0, .ref (ad 0)), (1, .int x1), (2, .int x2)] := hl
  have hown : s.vm.findClass RX7 = some m.cls := hown
  unfold F_X7_log at he
  refine lv_aload_n hx hb0 dX7_log_0 rfl (lv_at hl 0 rfl) ?_
  refine gx_get hx hb0 hts in_RX7 hown hK hP 0 (by decide) (cE_t0 _) rfl 0 (by decide) fl_RX7_10 rfl dX7_log_1 ?_
  refine lv_iload_n hx hb0 dX7_log_4 rfl (lv_at hl 1 rfl) ?_
  refine lv_iload_n hx hb0 dX7_log_5 rfl (lv_at hl 2 rfl) ?_
  refine gx_vi ⟨hx, hb0, hml, hown, hts⟩ (gKC_keep _ _) hk hK hP hD hS 8 [.int x1, .int x2] [] (c_X6_factOfLog l dC dI P ad tb 8 vb_8 x1 x2 h0 _ he) gm_X6_factOfLog im_yX6_factOfLog se_yX6_factOfLog ml_RX7_111 (vb_lt0 vb_8) ((cE_0 vb_8) _) rfl rfl rfl ⟨Nat.le_of_ble_eq_true rfl, Nat.le_of_ble_eq_true rfl⟩ rfl hl.1 rfl (Nat.le_of_ble_eq_true rfl) dX7_log_6 ⟨Nat.zero_le _, Nat.zero_le _⟩ (fun r_1 h_2 he H locs hP hD hS => ?_)
  exact gx_iret hx hb0 hr hlocks hK hP hD hS he dX7_log_9
theorem gm_X7_log : gMeth yX7_log cX7_log 3 (some .int) 2 := ⟨⟨by decide, by decide, by decide +kernel⟩, ini_RX7, co_yX7_log⟩
abbrev rm_X7_count : Room := { frames := 3, cells := 0, slots := 0, locals := 54 }
set_option maxHeartbeats 4000000 in
set_option maxRecDepth 100000 in
theorem c_X7_count (l : Launch) (dC : Nat → ClassId) (dI : Nat → Nat → Nat) (P : gP) (ad : Nat → Nat) (tb : Nat → Nat) (x1 : Int32) (h0 : Hp) (Q : Int32 → Hp → Prop) (he : F_X7_count x1 h0 Q) : Met l yX7_count (Cond.code yX7_count cX7_count 2 (some .int) :: TB) rm_X7_count (gPc (dC, dI) vwCl (tyC P) 158 (cE P ad) ad (gKC tb (gA 158 ad)) h0 [.ref (ad 0), .int x1]) (gQi (dC, dI) vwCl (tyC P) 158 (cE P ad) ad Q) 0 0 (gA 158 ad) := by
  refine gx_start (by decide) (Nat.le_of_ble_eq_true rfl) (fun p e s m below meth c ls hx hb0 hr hlocks hml hown hts hK hk hP hD hS hl => ?_)
  have hl : lv_has ls 2 [(0, .ref (ad 0)), (1, .int x1)] := hl
  have hown : s.vm.findClass RX7 = some m.cls := hown
  unfold F_X7_count at he
  refine lv_iload_n hx hb0 dX7_count_0 rfl (lv_at hl 1 rfl) ?_
  refine lv_bipush (v := (15 : Int32)) hx hb0 dX7_count_1 (by decide) ?_
  refine lv_icmp_ne (tgt := 14) hx hb0 dX7_count_3 (by decide) (fun c_1 => ?_) (fun c_1 => ?_)
  · have he := he.2 c_1
    refine lv_iload_n hx hb0 dX7_count_14 rfl (lv_at hl 1 rfl) ?_
    refine lv_bipush (v := (16 : Int32)) hx hb0 dX7_count_15 (by decide) ?_
    refine lv_icmp_ne (tgt := 28) hx hb0 dX7_count_17 (by decide) (fun c_2 => ?_) (fun c_2 => ?_)
    · have he := he.2 c_2
      refine lv_aload_n hx hb0 dX7_count_28 rfl (lv_at hl 0 rfl) ?_
      refine gx_get hx hb0 hts in_RX7 hown hK hP 0 (by decide) (cE_t0 _) rfl 0 (by decide) fl_RX7_10 rfl dX7_count_29 ?_
      refine lv_iload_n hx hb0 dX7_count_32 rfl (lv_at hl 1 rfl) ?_
      refine gx_vi ⟨hx, hb0, hml, hown, hts⟩ (gKC_keep _ _) hk hK hP hD hS 8 [.int x1] [] (c_X6_numberOf l dC dI P ad tb 8 vb_8 x1 h0 _ he) gm_X6_numberOf im_yX6_numberOf se_yX6_numberOf ml_RX7_121 (vb_lt0 vb_8) ((cE_0 vb_8) _) rfl rfl rfl ⟨Nat.le_of_ble_eq_true rfl, Nat.le_of_ble_eq_true rfl⟩ rfl hl.1 rfl (Nat.le_of_ble_eq_true rfl) dX7_count_33 ⟨Nat.zero_le _, Nat.zero_le _⟩ (fun r_3 h_4 he H locs hP hD hS => ?_)
      exact gx_iret hx hb0 hr hlocks hK hP hD hS he dX7_count_36
    · have he := he.1 c_2
      refine lv_aload_n hx hb0 dX7_count_20 rfl (lv_at hl 0 rfl) ?_
      refine gx_get hx hb0 hts in_RX7 hown hK hP 0 (by decide) (cE_t0 _) rfl 1 (by decide) fl_RX7_19 rfl dX7_count_21 ?_
      refine gx_get hx hb0 hts in_RX2 hown hK hP 1 (by decide) (cE_t1 _) rfl 2 (by decide) fl_RX7_118 rfl dX7_count_24 ?_
      exact gx_iret hx hb0 hr hlocks hK hP hD hS he dX7_count_27
  · have he := he.1 c_1
    refine lv_aload_n hx hb0 dX7_count_6 rfl (lv_at hl 0 rfl) ?_
    refine gx_get hx hb0 hts in_RX7 hown hK hP 0 (by decide) (cE_t0 _) rfl 2 (by decide) fl_RX7_26 rfl dX7_count_7 ?_
    refine gx_get hx hb0 hts in_RX4 hown hK hP 3 (by decide) (cE_t3 _) rfl 1 (by decide) fl_RX7_114 rfl dX7_count_10 ?_
    exact gx_iret hx hb0 hr hlocks hK hP hD hS he dX7_count_13
theorem gm_X7_count : gMeth yX7_count cX7_count 2 (some .int) 1 := ⟨⟨by decide, by decide, by decide +kernel⟩, ini_RX7, co_yX7_count⟩
abbrev rm_X7_why : Room := { frames := 3, cells := 0, slots := 0, locals := 57 }
set_option maxHeartbeats 4000000 in
set_option maxRecDepth 100000 in
theorem c_X7_why (l : Launch) (dC : Nat → ClassId) (dI : Nat → Nat → Nat) (P : gP) (ad : Nat → Nat) (tb : Nat → Nat) (x1 : Int32) (x2 : Int32) (h0 : Hp) (Q : Int32 → Hp → Prop) (he : F_X7_why x1 x2 h0 Q) : Met l yX7_why (Cond.code yX7_why cX7_why 3 (some .int) :: TB) rm_X7_why (gPc (dC, dI) vwCl (tyC P) 158 (cE P ad) ad (gKC tb (gA 158 ad)) h0 [.ref (ad 0), .int x1, .int x2]) (gQi (dC, dI) vwCl (tyC P) 158 (cE P ad) ad Q) 0 0 (gA 158 ad) := by
  refine gx_start (by decide) (Nat.le_of_ble_eq_true rfl) (fun p e s m below meth c ls hx hb0 hr hlocks hml hown hts hK hk hP hD hS hl => ?_)
  have hl : lv_has ls 3 [(0, .ref (ad 0)), (1, .int x1), (2, .int x2)] := hl
  have hown : s.vm.findClass RX7 = some m.cls := hown
  unfold F_X7_why at he
  refine lv_aload_n hx hb0 dX7_why_0 rfl (lv_at hl 0 rfl) ?_
  refine gx_get hx hb0 hts in_RX7 hown hK hP 0 (by decide) (cE_t0 _) rfl 0 (by decide) fl_RX7_10 rfl dX7_why_1 ?_
  refine lv_iload_n hx hb0 dX7_why_4 rfl (lv_at hl 1 rfl) ?_
  refine lv_iload_n hx hb0 dX7_why_5 rfl (lv_at hl 2 rfl) ?_
  refine gx_vi ⟨hx, hb0, hml, hown, hts⟩ (gKC_keep _ _) hk hK hP hD hS 8 [.int x1, .int x2] [] (c_X6_reasonAgainst l dC dI P ad tb 8 vb_8 x1 x2 h0 _ he) gm_X6_reasonAgainst im_yX6_reasonAgainst se_yX6_reasonAgainst ml_RX7_124 (vb_lt0 vb_8) ((cE_0 vb_8) _) rfl rfl rfl ⟨Nat.le_of_ble_eq_true rfl, Nat.le_of_ble_eq_true rfl⟩ rfl hl.1 rfl (Nat.le_of_ble_eq_true rfl) dX7_why_6 ⟨Nat.zero_le _, Nat.zero_le _⟩ (fun r_1 h_2 he H locs hP hD hS => ?_)
  exact gx_iret hx hb0 hr hlocks hK hP hD hS he dX7_why_9
theorem gm_X7_why : gMeth yX7_why cX7_why 3 (some .int) 2 := ⟨⟨by decide, by decide, by decide +kernel⟩, ini_RX7, co_yX7_why⟩
abbrev rm_X7_ifSighted : Room := { frames := 4, cells := 0, slots := 0, locals := 83 }
set_option maxHeartbeats 4000000 in
set_option maxRecDepth 100000 in
theorem c_X7_ifSighted (l : Launch) (dC : Nat → ClassId) (dI : Nat → Nat → Nat) (P : gP) (ad : Nat → Nat) (tb : Nat → Nat) (x1 : Int32) (x2 : Int32) (h0 : Hp) (Q : Int32 → Hp → Prop) (he : F_X7_ifSighted x1 x2 h0 Q) : Met l yX7_ifSighted (Cond.code yX7_ifSighted cX7_ifSighted 3 (some .int) :: TB) rm_X7_ifSighted (gPc (dC, dI) vwCl (tyC P) 158 (cE P ad) ad (gKC tb (gA 158 ad)) h0 [.ref (ad 0), .int x1, .int x2]) (gQi (dC, dI) vwCl (tyC P) 158 (cE P ad) ad Q) 0 0 (gA 158 ad) := by
  refine gx_start (by decide) (Nat.le_of_ble_eq_true rfl) (fun p e s m below meth c ls hx hb0 hr hlocks hml hown hts hK hk hP hD hS hl => ?_)
  have hl : lv_has ls 3 [(0, .ref (ad 0)), (1, .int x1), (2, .int x2)] := hl
  have hown : s.vm.findClass RX7 = some m.cls := hown
  unfold F_X7_ifSighted at he
  refine lv_aload_n hx hb0 dX7_ifSighted_0 rfl (lv_at hl 0 rfl) ?_
  refine gx_get hx hb0 hts in_RX7 hown hK hP 0 (by decide) (cE_t0 _) rfl 0 (by decide) fl_RX7_10 rfl dX7_ifSighted_1 ?_
  refine lv_iload_n hx hb0 dX7_ifSighted_4 rfl (lv_at hl 1 rfl) ?_
  refine lv_iload_n hx hb0 dX7_ifSighted_5 rfl (lv_at hl 2 rfl) ?_
  refine gx_vi ⟨hx, hb0, hml, hown, hts⟩ (gKC_keep _ _) hk hK hP hD hS 8 [.int x1, .int x2] [] (c_X6_tellSight l dC dI P ad tb 8 vb_8 x1 x2 h0 _ he) gm_X6_tellSight im_yX6_tellSight se_yX6_tellSight ml_RX7_127 (vb_lt0 vb_8) ((cE_0 vb_8) _) rfl rfl rfl ⟨Nat.le_of_ble_eq_true rfl, Nat.le_of_ble_eq_true rfl⟩ rfl hl.1 rfl (Nat.le_of_ble_eq_true rfl) dX7_ifSighted_6 ⟨Nat.zero_le _, Nat.zero_le _⟩ (fun r_1 h_2 he H locs hP hD hS => ?_)
  exact gx_iret hx hb0 hr hlocks hK hP hD hS he dX7_ifSighted_9
theorem gm_X7_ifSighted : gMeth yX7_ifSighted cX7_ifSighted 3 (some .int) 2 := ⟨⟨by decide, by decide, by decide +kernel⟩, ini_RX7, co_yX7_ifSighted⟩
abbrev rm_X7_median : Room := { frames := 3, cells := 0, slots := 0, locals := 69 }
set_option maxHeartbeats 4000000 in
set_option maxRecDepth 100000 in
theorem c_X7_median (l : Launch) (dC : Nat → ClassId) (dI : Nat → Nat → Nat) (P : gP) (ad : Nat → Nat) (tb : Nat → Nat) (x1 : Int32) (h0 : Hp) (Q : Int32 → Hp → Prop) (he : F_X7_median x1 h0 Q) : Met l yX7_median (Cond.code yX7_median cX7_median 3 (some .int) :: TB) rm_X7_median (gPc (dC, dI) vwCl (tyC P) 158 (cE P ad) ad (gKC tb (gA 158 ad)) h0 [.ref (ad 0), .int x1]) (gQi (dC, dI) vwCl (tyC P) 158 (cE P ad) ad Q) 0 0 (gA 158 ad) := by
  refine gx_start (by decide) (Nat.le_of_ble_eq_true rfl) (fun p e s m below meth c ls hx hb0 hr hlocks hml hown hts hK hk hP hD hS hl => ?_)
  have hl : lv_has ls 3 [(0, .ref (ad 0)), (1, .int x1)] := hl
  have hown : s.vm.findClass RX7 = some m.cls := hown
  unfold F_X7_median at he
  refine lv_iload_n hx hb0 dX7_median_0 rfl (lv_at hl 1 rfl) ?_
  refine lv_bipush (v := (-6 : Int32)) hx hb0 dX7_median_1 (by decide) ?_
  refine lv_icmp_eq (tgt := 15) hx hb0 dX7_median_3 (by decide) (fun c_1 => ?_) (fun c_1 => ?_)
  · have he := he.1 c_1
    refine lv_aload_n hx hb0 dX7_median_15 rfl (lv_at hl 0 rfl) ?_
    refine gx_get hx hb0 hts in_RX7 hown hK hP 0 (by decide) (cE_t0 _) rfl 0 (by decide) fl_RX7_10 rfl dX7_median_16 ?_
    refine gx_get hx hb0 hts in_RX6 hown hK hP 8 (vb_lt0 vb_8) ((cE_0 vb_8) _) rfl 2 (by decide) fl_RX7_90 rfl dX7_median_19 ?_
    refine lv_iload_n hx hb0 dX7_median_22 rfl (lv_at hl 1 rfl) ?_
    refine gx_vi ⟨hx, hb0, hml, hown, hts⟩ (gKC_keep _ _) hk hK hP hD hS (8 + 4) [.int x1] [] (c_X1_middleWithout l dC dI P ad tb 8 vb_8 x1 h0 _ he) gm_X1_middleWithout im_yX1_middleWithout se_yX1_middleWithout ml_RX7_130 (vb_lt vb_8 (by decide)) ((cE_4 vb_8) _) rfl rfl rfl ⟨Nat.le_of_ble_eq_true rfl, Nat.le_of_ble_eq_true rfl⟩ rfl hl.1 rfl (Nat.le_of_ble_eq_true rfl) dX7_median_23 ⟨Nat.zero_le _, Nat.zero_le _⟩ (fun r_2 h_3 he H locs hP hD hS => ?_)
    refine lv_istore_n (lv' := [(2, .int r_2), (0, .ref (ad 0)), (1, .int x1)]) hx hb0 dX7_median_26 rfl hl (by decide) rfl (fun ls hl => ?_)
    refine lv_iload_n hx hb0 dX7_median_27 rfl (lv_at hl 0 rfl) ?_
    refine lv_sipush (v := (9999 : Int32)) hx hb0 dX7_median_28 (by decide) ?_
    refine lv_icmp_ne (tgt := 39) hx hb0 dX7_median_31 (by decide) (fun c_4 => ?_) (fun c_4 => ?_)
    · have he := he.2 c_4
      refine lv_iload_n hx hb0 dX7_median_39 rfl (lv_at hl 0 rfl) ?_
      refine lv_sipush (v := (5400 : Int32)) hx hb0 dX7_median_40 (by decide) ?_
      refine lv_iadd hx hb0 dX7_median_43 ?_
      exact gx_iret hx hb0 hr hlocks hK hP hD hS he dX7_median_44
    · have he := he.1 c_4
      refine lv_bipush (v := (-5 : Int32)) hx hb0 dX7_median_34 (by decide) ?_
      refine lv_goto (tgt := 44) hx hb0 dX7_median_36 (by decide) ?_
      exact gx_iret hx hb0 hr hlocks hK hP hD hS he dX7_median_44
  · have he := he.2 c_1
    refine lv_iload_n hx hb0 dX7_median_6 rfl (lv_at hl 1 rfl) ?_
    refine gx_si ⟨hx, hb0, hml, hown, hts⟩ (gKC_keep _ _) hk hK hP hD hS [.int x1] [] (c_X7_isNavigator l dC dI P ad tb x1 h0 _ he) gm_X7_isNavigator st_yX7_isNavigator ml_RX7_86 rfl rfl ⟨Nat.le_of_ble_eq_true rfl, Nat.le_of_ble_eq_true rfl⟩ rfl hl.1 rfl (Nat.le_of_ble_eq_true rfl) dX7_median_7 ⟨Nat.zero_le _, Nat.zero_le _⟩ (fun r_5 h_6 he H locs hP hD hS => ?_)
    refine lv_if_ne (tgt := 15) hx hb0 dX7_median_10 (by decide) (fun c_7 => ?_) (fun c_7 => ?_)
    · have he := he.2 c_7
      refine lv_aload_n hx hb0 dX7_median_15 rfl (lv_at hl 0 rfl) ?_
      refine gx_get hx hb0 hts in_RX7 hown hK hP 0 (by decide) (cE_t0 _) rfl 0 (by decide) fl_RX7_10 rfl dX7_median_16 ?_
      refine gx_get hx hb0 hts in_RX6 hown hK hP 8 (vb_lt0 vb_8) ((cE_0 vb_8) _) rfl 2 (by decide) fl_RX7_90 rfl dX7_median_19 ?_
      refine lv_iload_n hx hb0 dX7_median_22 rfl (lv_at hl 1 rfl) ?_
      refine gx_vi ⟨hx, hb0, hml, hown, hts⟩ (gKC_keep _ _) hk hK hP hD hS (8 + 4) [.int x1] [] (c_X1_middleWithout l dC dI P ad tb 8 vb_8 x1 h_6 _ he) gm_X1_middleWithout im_yX1_middleWithout se_yX1_middleWithout ml_RX7_130 (vb_lt vb_8 (by decide)) ((cE_4 vb_8) _) rfl rfl rfl ⟨Nat.le_of_ble_eq_true rfl, Nat.le_of_ble_eq_true rfl⟩ rfl hl.1 rfl (Nat.le_of_ble_eq_true rfl) dX7_median_23 ⟨Nat.zero_le _, Nat.zero_le _⟩ (fun r_8 h_9 he H locs hP hD hS => ?_)
      refine lv_istore_n (lv' := [(2, .int r_8), (0, .ref (ad 0)), (1, .int x1)]) hx hb0 dX7_median_26 rfl hl (by decide) rfl (fun ls hl => ?_)
      refine lv_iload_n hx hb0 dX7_median_27 rfl (lv_at hl 0 rfl) ?_
      refine lv_sipush (v := (9999 : Int32)) hx hb0 dX7_median_28 (by decide) ?_
      refine lv_icmp_ne (tgt := 39) hx hb0 dX7_median_31 (by decide) (fun c_10 => ?_) (fun c_10 => ?_)
      · have he := he.2 c_10
        refine lv_iload_n hx hb0 dX7_median_39 rfl (lv_at hl 0 rfl) ?_
        refine lv_sipush (v := (5400 : Int32)) hx hb0 dX7_median_40 (by decide) ?_
        refine lv_iadd hx hb0 dX7_median_43 ?_
        exact gx_iret hx hb0 hr hlocks hK hP hD hS he dX7_median_44
      · have he := he.1 c_10
        refine lv_bipush (v := (-5 : Int32)) hx hb0 dX7_median_34 (by decide) ?_
        refine lv_goto (tgt := 44) hx hb0 dX7_median_36 (by decide) ?_
        exact gx_iret hx hb0 hr hlocks hK hP hD hS he dX7_median_44
    · have he := he.1 c_7
      refine lv_iconst (v := (-1 : Int32)) hx hb0 dX7_median_13 (by decide) ?_
      exact gx_iret hx hb0 hr hlocks hK hP hD hS he dX7_median_14
theorem gm_X7_median : gMeth yX7_median cX7_median 3 (some .int) 1 := ⟨⟨by decide, by decide, by decide +kernel⟩, ini_RX7, co_yX7_median⟩
abbrev rm_X7_bestStar : Room := { frames := 3, cells := 0, slots := 0, locals := 58 }
set_option maxHeartbeats 4000000 in
set_option maxRecDepth 100000 in
theorem c_X7_bestStar (l : Launch) (dC : Nat → ClassId) (dI : Nat → Nat → Nat) (P : gP) (ad : Nat → Nat) (tb : Nat → Nat) (h0 : Hp) (Q : Int32 → Hp → Prop) (he : F_X7_bestStar  h0 Q) : Met l yX7_bestStar (Cond.code yX7_bestStar cX7_bestStar 1 (some .int) :: TB) rm_X7_bestStar (gPc (dC, dI) vwCl (tyC P) 158 (cE P ad) ad (gKC tb (gA 158 ad)) h0 [.ref (ad 0)]) (gQi (dC, dI) vwCl (tyC P) 158 (cE P ad) ad Q) 0 0 (gA 158 ad) := by
  refine gx_start (by decide) (Nat.le_of_ble_eq_true rfl) (fun p e s m below meth c ls hx hb0 hr hlocks hml hown hts hK hk hP hD hS hl => ?_)
  have hl : lv_has ls 1 [(0, .ref (ad 0))] := hl
  have hown : s.vm.findClass RX7 = some m.cls := hown
  unfold F_X7_bestStar at he
  refine lv_aload_n hx hb0 dX7_bestStar_0 rfl (lv_at hl 0 rfl) ?_
  refine gx_get hx hb0 hts in_RX7 hown hK hP 0 (by decide) (cE_t0 _) rfl 0 (by decide) fl_RX7_10 rfl dX7_bestStar_1 ?_
  refine gx_vi ⟨hx, hb0, hml, hown, hts⟩ (gKC_keep _ _) hk hK hP hD hS 8 [] [] (c_X6_highestStar l dC dI P ad tb 8 vb_8 h0 _ he) gm_X6_highestStar im_yX6_highestStar se_yX6_highestStar ml_RX7_133 (vb_lt0 vb_8) ((cE_0 vb_8) _) rfl rfl rfl ⟨Nat.le_of_ble_eq_true rfl, Nat.le_of_ble_eq_true rfl⟩ rfl hl.1 rfl (Nat.le_of_ble_eq_true rfl) dX7_bestStar_4 ⟨Nat.zero_le _, Nat.zero_le _⟩ (fun r_1 h_2 he H locs hP hD hS => ?_)
  exact gx_iret hx hb0 hr hlocks hK hP hD hS he dX7_bestStar_7
theorem gm_X7_bestStar : gMeth yX7_bestStar cX7_bestStar 1 (some .int) 0 := ⟨⟨by decide, by decide, by decide +kernel⟩, ini_RX7, co_yX7_bestStar⟩
abbrev rm_X7_nearest : Room := { frames := 2, cells := 0, slots := 0, locals := 38 }
set_option maxHeartbeats 4000000 in
set_option maxRecDepth 100000 in
theorem c_X7_nearest (l : Launch) (dC : Nat → ClassId) (dI : Nat → Nat → Nat) (P : gP) (ad : Nat → Nat) (tb : Nat → Nat) (x1 : Int32) (h0 : Hp) (Q : Int32 → Hp → Prop) (he : F_X7_nearest x1 h0 Q) : Met l yX7_nearest (Cond.code yX7_nearest cX7_nearest 2 (some .int) :: TB) rm_X7_nearest (gPc (dC, dI) vwCl (tyC P) 158 (cE P ad) ad (gKC tb (gA 158 ad)) h0 [.ref (ad 0), .int x1]) (gQi (dC, dI) vwCl (tyC P) 158 (cE P ad) ad Q) 0 0 (gA 158 ad) := by
  refine gx_start (by decide) (Nat.le_of_ble_eq_true rfl) (fun p e s m below meth c ls hx hb0 hr hlocks hml hown hts hK hk hP hD hS hl => ?_)
  have hl : lv_has ls 2 [(0, .ref (ad 0)), (1, .int x1)] := hl
  have hown : s.vm.findClass RX7 = some m.cls := hown
  unfold F_X7_nearest at he
  refine lv_aload_n hx hb0 dX7_nearest_0 rfl (lv_at hl 0 rfl) ?_
  refine gx_get hx hb0 hts in_RX7 hown hK hP 0 (by decide) (cE_t0 _) rfl 0 (by decide) fl_RX7_10 rfl dX7_nearest_1 ?_
  refine lv_iload_n hx hb0 dX7_nearest_4 rfl (lv_at hl 1 rfl) ?_
  refine gx_vi ⟨hx, hb0, hml, hown, hts⟩ (gKC_keep _ _) hk hK hP hD hS 8 [.int x1] [] (c_X6_nearestNavigator l dC dI P ad tb 8 vb_8 x1 h0 _ he) gm_X6_nearestNavigator im_yX6_nearestNavigator se_yX6_nearestNavigator ml_RX7_136 (vb_lt0 vb_8) ((cE_0 vb_8) _) rfl rfl rfl ⟨Nat.le_of_ble_eq_true rfl, Nat.le_of_ble_eq_true rfl⟩ rfl hl.1 rfl (Nat.le_of_ble_eq_true rfl) dX7_nearest_5 ⟨Nat.zero_le _, Nat.zero_le _⟩ (fun r_1 h_2 he H locs hP hD hS => ?_)
  exact gx_iret hx hb0 hr hlocks hK hP hD hS he dX7_nearest_8
theorem gm_X7_nearest : gMeth yX7_nearest cX7_nearest 2 (some .int) 1 := ⟨⟨by decide, by decide, by decide +kernel⟩, ini_RX7, co_yX7_nearest⟩
abbrev rm_X7_arrivesIn : Room := { frames := 4, cells := 0, slots := 0, locals := 80 }
set_option maxHeartbeats 4000000 in
set_option maxRecDepth 100000 in
theorem c_X7_arrivesIn (l : Launch) (dC : Nat → ClassId) (dI : Nat → Nat → Nat) (P : gP) (ad : Nat → Nat) (tb : Nat → Nat) (x1 : Int32) (h0 : Hp) (Q : Int32 → Hp → Prop) (he : F_X7_arrivesIn x1 h0 Q) : Met l yX7_arrivesIn (Cond.code yX7_arrivesIn cX7_arrivesIn 2 (some .int) :: TB) rm_X7_arrivesIn (gPc (dC, dI) vwCl (tyC P) 158 (cE P ad) ad (gKC tb (gA 158 ad)) h0 [.ref (ad 0), .int x1]) (gQi (dC, dI) vwCl (tyC P) 158 (cE P ad) ad Q) 0 0 (gA 158 ad) := by
  refine gx_start (by decide) (Nat.le_of_ble_eq_true rfl) (fun p e s m below meth c ls hx hb0 hr hlocks hml hown hts hK hk hP hD hS hl => ?_)
  have hl : lv_has ls 2 [(0, .ref (ad 0)), (1, .int x1)] := hl
  have hown : s.vm.findClass RX7 = some m.cls := hown
  unfold F_X7_arrivesIn at he
  refine lv_aload_n hx hb0 dX7_arrivesIn_0 rfl (lv_at hl 0 rfl) ?_
  refine gx_get hx hb0 hts in_RX7 hown hK hP 0 (by decide) (cE_t0 _) rfl 0 (by decide) fl_RX7_10 rfl dX7_arrivesIn_1 ?_
  refine lv_iload_n hx hb0 dX7_arrivesIn_4 rfl (lv_at hl 1 rfl) ?_
  refine lv_aload_n hx hb0 dX7_arrivesIn_5 rfl (lv_at hl 0 rfl) ?_
  refine gx_get hx hb0 hts in_RX7 hown hK hP 0 (by decide) (cE_t0 _) rfl 5 (by decide) fl_RX7_41 rfl dX7_arrivesIn_6 ?_
  refine gx_vi ⟨hx, hb0, hml, hown, hts⟩ (gKC_keep _ _) hk hK hP hD hS 8 [.int x1, .ref (ad 7)] [] (c_X6_hoursToGoal l dC dI P ad tb 8 vb_8 x1 7 isCrs_7 h0 _ he) gm_X6_hoursToGoal im_yX6_hoursToGoal se_yX6_hoursToGoal ml_RX7_139 (vb_lt0 vb_8) ((cE_0 vb_8) _) rfl rfl rfl ⟨Nat.le_of_ble_eq_true rfl, Nat.le_of_ble_eq_true rfl⟩ rfl hl.1 rfl (Nat.le_of_ble_eq_true rfl) dX7_arrivesIn_9 ⟨Nat.zero_le _, Nat.zero_le _⟩ (fun r_1 h_2 he H locs hP hD hS => ?_)
  exact gx_iret hx hb0 hr hlocks hK hP hD hS he dX7_arrivesIn_12
theorem gm_X7_arrivesIn : gMeth yX7_arrivesIn cX7_arrivesIn 2 (some .int) 1 := ⟨⟨by decide, by decide, by decide +kernel⟩, ini_RX7, co_yX7_arrivesIn⟩
abbrev rm_X7_put : Room := { frames := 2, cells := 0, slots := 0, locals := 50 }
set_option maxHeartbeats 4000000 in
set_option maxRecDepth 100000 in
theorem c_X7_put (l : Launch) (dC : Nat → ClassId) (dI : Nat → Nat → Nat) (P : gP) (ad : Nat → Nat) (tb : Nat → Nat) (x1 : Int64) (h0 : Hp) (Q : Int32 → Hp → Prop) (he : F_X7_put x1 h0 Q) : Met l yX7_put (Cond.code yX7_put cX7_put 3 (some .int) :: TB) rm_X7_put (gPc (dC, dI) vwCl (tyC P) 158 (cE P ad) ad (gKC tb (gA 158 ad)) h0 [.ref (ad 0), .long x1]) (gQi (dC, dI) vwCl (tyC P) 158 (cE P ad) ad Q) 0 0 (gA 158 ad) := by
  refine gx_start (by decide) (Nat.le_of_ble_eq_true rfl) (fun p e s m below meth c ls hx hb0 hr hlocks hml hown hts hK hk hP hD hS hl => ?_)
  have hl : lv_has ls 3 [(0, .ref (ad 0)), (1, .long x1)] := hl
  have hown : s.vm.findClass RX7 = some m.cls := hown
  unfold F_X7_put at he
  refine lv_aload_n hx hb0 dX7_put_0 rfl (lv_at hl 0 rfl) ?_
  refine gx_get hx hb0 hts in_RX7 hown hK hP 0 (by decide) (cE_t0 _) rfl 2 (by decide) fl_RX7_26 rfl dX7_put_1 ?_
  refine lv_lload_n hx hb0 dX7_put_4 rfl (lv_at hl 1 rfl) ?_
  refine gx_vi ⟨hx, hb0, hml, hown, hts⟩ (gKC_keep _ _) hk hK hP hD hS 3 [.long x1] [] (c_X4_append l dC dI P ad tb x1 h0 _ he) gm_X4_append im_yX4_append se_yX4_append ml_RX7_143 (by decide) (cE_t3 _) rfl rfl rfl ⟨Nat.le_of_ble_eq_true rfl, Nat.le_of_ble_eq_true rfl⟩ rfl hl.1 rfl (Nat.le_of_ble_eq_true rfl) dX7_put_5 ⟨Nat.zero_le _, Nat.zero_le _⟩ (fun r_1 h_2 he H locs hP hD hS => ?_)
  exact gx_iret hx hb0 hr hlocks hK hP hD hS he dX7_put_8
theorem gm_X7_put : gMeth yX7_put cX7_put 3 (some .int) 1 := ⟨⟨by decide, by decide, by decide +kernel⟩, ini_RX7, co_yX7_put⟩
abbrev rm_X7_wipe : Room := { frames := 1, cells := 0, slots := 0, locals := 21 }
set_option maxHeartbeats 4000000 in
set_option maxRecDepth 100000 in
theorem c_X7_wipe (l : Launch) (dC : Nat → ClassId) (dI : Nat → Nat → Nat) (P : gP) (ad : Nat → Nat) (tb : Nat → Nat) (h0 : Hp) (Q : Int32 → Hp → Prop) (he : F_X7_wipe  h0 Q) : Met l yX7_wipe (Cond.code yX7_wipe cX7_wipe 1 (some .int) :: TB) rm_X7_wipe (gPc (dC, dI) vwCl (tyC P) 158 (cE P ad) ad (gKC tb (gA 158 ad)) h0 [.ref (ad 0)]) (gQi (dC, dI) vwCl (tyC P) 158 (cE P ad) ad Q) 0 0 (gA 158 ad) := by
  refine gx_start (by decide) (Nat.le_of_ble_eq_true rfl) (fun p e s m below meth c ls hx hb0 hr hlocks hml hown hts hK hk hP hD hS hl => ?_)
  have hl : lv_has ls 1 [(0, .ref (ad 0))] := hl
  have hown : s.vm.findClass RX7 = some m.cls := hown
  unfold F_X7_wipe at he
  refine lv_aload_n hx hb0 dX7_wipe_0 rfl (lv_at hl 0 rfl) ?_
  refine gx_get hx hb0 hts in_RX7 hown hK hP 0 (by decide) (cE_t0 _) rfl 2 (by decide) fl_RX7_26 rfl dX7_wipe_1 ?_
  refine gx_vi ⟨hx, hb0, hml, hown, hts⟩ (gKC_keep _ _) hk hK hP hD hS 3 [] [] (c_X4_clear l dC dI P ad tb  h0 _ he) gm_X4_clear im_yX4_clear se_yX4_clear ml_RX7_147 (by decide) (cE_t3 _) rfl rfl rfl ⟨Nat.le_of_ble_eq_true rfl, Nat.le_of_ble_eq_true rfl⟩ rfl hl.1 rfl (Nat.le_of_ble_eq_true rfl) dX7_wipe_4 ⟨Nat.zero_le _, Nat.zero_le _⟩ (fun r_1 h_2 he H locs hP hD hS => ?_)
  exact gx_iret hx hb0 hr hlocks hK hP hD hS he dX7_wipe_7
theorem gm_X7_wipe : gMeth yX7_wipe cX7_wipe 1 (some .int) 0 := ⟨⟨by decide, by decide, by decide +kernel⟩, ini_RX7, co_yX7_wipe⟩
abbrev rm_X7_fault : Room := { frames := 6, cells := 0, slots := 0, locals := 126 }
set_option maxHeartbeats 4000000 in
set_option maxRecDepth 100000 in
theorem c_X7_fault (l : Launch) (dC : Nat → ClassId) (dI : Nat → Nat → Nat) (P : gP) (ad : Nat → Nat) (tb : Nat → Nat) (h0 : Hp) (Q : Int32 → Hp → Prop) (he : F_X7_fault  h0 Q) : Met l yX7_fault (Cond.code yX7_fault cX7_fault 1 (some .int) :: TB) rm_X7_fault (gPc (dC, dI) vwCl (tyC P) 158 (cE P ad) ad (gKC tb (gA 158 ad)) h0 [.ref (ad 0)]) (gQi (dC, dI) vwCl (tyC P) 158 (cE P ad) ad Q) 0 0 (gA 158 ad) := by
  refine gx_start (by decide) (Nat.le_of_ble_eq_true rfl) (fun p e s m below meth c ls hx hb0 hr hlocks hml hown hts hK hk hP hD hS hl => ?_)
  have hl : lv_has ls 1 [(0, .ref (ad 0))] := hl
  have hown : s.vm.findClass RX7 = some m.cls := hown
  unfold F_X7_fault at he
  refine lv_aload_n hx hb0 dX7_fault_0 rfl (lv_at hl 0 rfl) ?_
  refine gx_get hx hb0 hts in_RX7 hown hK hP 0 (by decide) (cE_t0 _) rfl 2 (by decide) fl_RX7_26 rfl dX7_fault_1 ?_
  refine gx_vi ⟨hx, hb0, hml, hown, hts⟩ (gKC_keep _ _) hk hK hP hD hS 3 [] [] (c_X4_findFault l dC dI P ad tb  h0 _ he) gm_X4_findFault im_yX4_findFault se_yX4_findFault ml_RX7_150 (by decide) (cE_t3 _) rfl rfl rfl ⟨Nat.le_of_ble_eq_true rfl, Nat.le_of_ble_eq_true rfl⟩ rfl hl.1 rfl (Nat.le_of_ble_eq_true rfl) dX7_fault_4 ⟨Nat.zero_le _, Nat.zero_le _⟩ (fun r_1 h_2 he H locs hP hD hS => ?_)
  exact gx_iret hx hb0 hr hlocks hK hP hD hS he dX7_fault_7
theorem gm_X7_fault : gMeth yX7_fault cX7_fault 1 (some .int) 0 := ⟨⟨by decide, by decide, by decide +kernel⟩, ini_RX7, co_yX7_fault⟩
abbrev rm_X7_obeyOrder : Room := { frames := 5, cells := 0, slots := 0, locals := 106 }
set_option maxHeartbeats 4000000 in
set_option maxRecDepth 100000 in
theorem c_X7_obeyOrder (l : Launch) (dC : Nat → ClassId) (dI : Nat → Nat → Nat) (P : gP) (ad : Nat → Nat) (tb : Nat → Nat) (h0 : Hp) (Q : Int32 → Hp → Prop) (he : F_X7_obeyOrder  h0 Q) : Met l yX7_obeyOrder (Cond.code yX7_obeyOrder cX7_obeyOrder 1 (some .int) :: TB) rm_X7_obeyOrder (gPc (dC, dI) vwCl (tyC P) 158 (cE P ad) ad (gKC tb (gA 158 ad)) h0 [.ref (ad 0)]) (gQi (dC, dI) vwCl (tyC P) 158 (cE P ad) ad Q) 0 0 (gA 158 ad) := by
  refine gx_start (by decide) (Nat.le_of_ble_eq_true rfl) (fun p e s m below meth c ls hx hb0 hr hlocks hml hown hts hK hk hP hD hS hl => ?_)
  have hl : lv_has ls 1 [(0, .ref (ad 0))] := hl
  have hown : s.vm.findClass RX7 = some m.cls := hown
  unfold F_X7_obeyOrder at he
  refine lv_aload_n hx hb0 dX7_obeyOrder_0 rfl (lv_at hl 0 rfl) ?_
  refine gx_get hx hb0 hts in_RX7 hown hK hP 0 (by decide) (cE_t0 _) rfl 2 (by decide) fl_RX7_26 rfl dX7_obeyOrder_1 ?_
  refine gx_get hx hb0 hts in_RX4 hown hK hP 3 (by decide) (cE_t3 _) rfl 3 (by decide) fl_RX7_179 rfl dX7_obeyOrder_4 ?_
  refine lv_topi (fun x_1 ex_1 => ?_)
  have he := he x_1 ex_1
  by_cases c_2 : x_1 = 42
  · have he := he.1 c_2
    refine lv_lookup (off := 73) (tgt := 80) hx hb0 dX7_obeyOrder_7 (by decide) (by rw [c_2]; rfl) (by decide) ?_
    refine lv_aload_n hx hb0 dX7_obeyOrder_80 rfl (lv_at hl 0 rfl) ?_
    refine gx_get hx hb0 hts in_RX7 hown hK hP 0 (by decide) (cE_t0 _) rfl 0 (by decide) fl_RX7_10 rfl dX7_obeyOrder_81 ?_
    refine lv_aload_n hx hb0 dX7_obeyOrder_84 rfl (lv_at hl 0 rfl) ?_
    refine gx_get hx hb0 hts in_RX7 hown hK hP 0 (by decide) (cE_t0 _) rfl 2 (by decide) fl_RX7_26 rfl dX7_obeyOrder_85 ?_
    refine gx_get hx hb0 hts in_RX4 hown hK hP 3 (by decide) (cE_t3 _) rfl 4 (by decide) fl_RX7_182 rfl dX7_obeyOrder_88 ?_
    refine gx_vi ⟨hx, hb0, hml, hown, hts⟩ (gKC_keep _ _) hk hK hP hD hS 8 [.int (h0 3 4)] [] (c_X6_addStar l dC dI P ad tb 8 vb_8 (h0 3 4) h0 _ he) gm_X6_addStar im_yX6_addStar se_yX6_addStar ml_RX7_57 (vb_lt0 vb_8) ((cE_0 vb_8) _) rfl rfl rfl ⟨Nat.le_of_ble_eq_true rfl, Nat.le_of_ble_eq_true rfl⟩ rfl hl.1 rfl (Nat.le_of_ble_eq_true rfl) dX7_obeyOrder_91 ⟨Nat.zero_le _, Nat.zero_le _⟩ (fun r_3 h_4 he H locs hP hD hS => ?_)
    exact gx_iret hx hb0 hr hlocks hK hP hD hS he dX7_obeyOrder_94
  have he := he.2 c_2
  by_cases c_5 : x_1 = 99
  · have he := he.1 c_5
    refine lv_lookup (off := 88) (tgt := 95) hx hb0 dX7_obeyOrder_7 (by decide) (by rw [c_5]; rfl) (by decide) ?_
    refine lv_aload_n hx hb0 dX7_obeyOrder_95 rfl (lv_at hl 0 rfl) ?_
    refine gx_get hx hb0 hts in_RX7 hown hK hP 0 (by decide) (cE_t0 _) rfl 0 (by decide) fl_RX7_10 rfl dX7_obeyOrder_96 ?_
    refine lv_aload_n hx hb0 dX7_obeyOrder_99 rfl (lv_at hl 0 rfl) ?_
    refine gx_get hx hb0 hts in_RX7 hown hK hP 0 (by decide) (cE_t0 _) rfl 2 (by decide) fl_RX7_26 rfl dX7_obeyOrder_100 ?_
    refine gx_get hx hb0 hts in_RX4 hown hK hP 3 (by decide) (cE_t3 _) rfl 4 (by decide) fl_RX7_182 rfl dX7_obeyOrder_103 ?_
    refine gx_vi ⟨hx, hb0, hml, hown, hts⟩ (gKC_keep _ _) hk hK hP hD hS 8 [.int (h0 3 4)] [] (c_X6_turnCloud l dC dI P ad tb 8 vb_8 (h0 3 4) h0 _ he) gm_X6_turnCloud im_yX6_turnCloud se_yX6_turnCloud ml_RX7_60 (vb_lt0 vb_8) ((cE_0 vb_8) _) rfl rfl rfl ⟨Nat.le_of_ble_eq_true rfl, Nat.le_of_ble_eq_true rfl⟩ rfl hl.1 rfl (Nat.le_of_ble_eq_true rfl) dX7_obeyOrder_106 ⟨Nat.zero_le _, Nat.zero_le _⟩ (fun r_6 h_7 he H locs hP hD hS => ?_)
    exact gx_iret hx hb0 hr hlocks hK hP hD hS he dX7_obeyOrder_109
  have he := he.2 c_5
  by_cases c_8 : x_1 = 103
  · have he := he.1 c_8
    refine lv_lookup (off := 171) (tgt := 178) hx hb0 dX7_obeyOrder_7 (by decide) (by rw [c_8]; rfl) (by decide) ?_
    refine lv_aload_n hx hb0 dX7_obeyOrder_178 rfl (lv_at hl 0 rfl) ?_
    refine gx_get hx hb0 hts in_RX7 hown hK hP 0 (by decide) (cE_t0 _) rfl 0 (by decide) fl_RX7_10 rfl dX7_obeyOrder_179 ?_
    refine lv_aload_n hx hb0 dX7_obeyOrder_182 rfl (lv_at hl 0 rfl) ?_
    refine gx_get hx hb0 hts in_RX7 hown hK hP 0 (by decide) (cE_t0 _) rfl 2 (by decide) fl_RX7_26 rfl dX7_obeyOrder_183 ?_
    refine gx_get hx hb0 hts in_RX4 hown hK hP 3 (by decide) (cE_t3 _) rfl 4 (by decide) fl_RX7_182 rfl dX7_obeyOrder_186 ?_
    refine gx_vi ⟨hx, hb0, hml, hown, hts⟩ (gKC_keep _ _) hk hK hP hD hS 8 [.int (h0 3 4)] [] (c_X6_changeGoal l dC dI P ad tb 8 vb_8 (h0 3 4) h0 _ he) gm_X6_changeGoal im_yX6_changeGoal se_yX6_changeGoal ml_RX7_70 (vb_lt0 vb_8) ((cE_0 vb_8) _) rfl rfl rfl ⟨Nat.le_of_ble_eq_true rfl, Nat.le_of_ble_eq_true rfl⟩ rfl hl.1 rfl (Nat.le_of_ble_eq_true rfl) dX7_obeyOrder_189 ⟨Nat.zero_le _, Nat.zero_le _⟩ (fun r_9 h_10 he H locs hP hD hS => ?_)
    exact gx_iret hx hb0 hr hlocks hK hP hD hS he dX7_obeyOrder_192
  have he := he.2 c_8
  by_cases c_11 : x_1 = 109
  · have he := he.1 c_11
    refine lv_lookup (off := 125) (tgt := 132) hx hb0 dX7_obeyOrder_7 (by decide) (by rw [c_11]; rfl) (by decide) ?_
    refine lv_aload_n hx hb0 dX7_obeyOrder_132 rfl (lv_at hl 0 rfl) ?_
    refine gx_get hx hb0 hts in_RX7 hown hK hP 0 (by decide) (cE_t0 _) rfl 0 (by decide) fl_RX7_10 rfl dX7_obeyOrder_133 ?_
    refine gx_vi ⟨hx, hb0, hml, hown, hts⟩ (gKC_keep _ _) hk hK hP hD hS 8 [] [] (c_X6_agreeOnMedian l dC dI P ad tb 8 vb_8 h0 _ he) gm_X6_agreeOnMedian im_yX6_agreeOnMedian se_yX6_agreeOnMedian ml_RX7_76 (vb_lt0 vb_8) ((cE_0 vb_8) _) rfl rfl rfl ⟨Nat.le_of_ble_eq_true rfl, Nat.le_of_ble_eq_true rfl⟩ rfl hl.1 rfl (Nat.le_of_ble_eq_true rfl) dX7_obeyOrder_136 ⟨Nat.zero_le _, Nat.zero_le _⟩ (fun r_12 h_13 he H locs hP hD hS => ?_)
    exact gx_iret hx hb0 hr hlocks hK hP hD hS he dX7_obeyOrder_139
  have he := he.2 c_11
  by_cases c_14 : x_1 = 110
  · have he := he.1 c_14
    refine lv_lookup (off := 148) (tgt := 155) hx hb0 dX7_obeyOrder_7 (by decide) (by rw [c_14]; rfl) (by decide) ?_
    refine lv_aload_n hx hb0 dX7_obeyOrder_155 rfl (lv_at hl 0 rfl) ?_
    refine gx_get hx hb0 hts in_RX7 hown hK hP 0 (by decide) (cE_t0 _) rfl 0 (by decide) fl_RX7_10 rfl dX7_obeyOrder_156 ?_
    refine gx_vi ⟨hx, hb0, hml, hown, hts⟩ (gKC_keep _ _) hk hK hP hD hS 8 [] [] (c_X6_endNight l dC dI P ad tb 8 vb_8 h0 _ he) gm_X6_endNight im_yX6_endNight se_yX6_endNight ml_RX7_83 (vb_lt0 vb_8) ((cE_0 vb_8) _) rfl rfl rfl ⟨Nat.le_of_ble_eq_true rfl, Nat.le_of_ble_eq_true rfl⟩ rfl hl.1 rfl (Nat.le_of_ble_eq_true rfl) dX7_obeyOrder_159 ⟨Nat.zero_le _, Nat.zero_le _⟩ (fun r_15 h_16 he H locs hP hD hS => ?_)
    exact gx_iret hx hb0 hr hlocks hK hP hD hS he dX7_obeyOrder_162
  have he := he.2 c_14
  by_cases c_17 : x_1 = 111
  · have he := he.1 c_17
    refine lv_lookup (off := 103) (tgt := 110) hx hb0 dX7_obeyOrder_7 (by decide) (by rw [c_17]; rfl) (by decide) ?_
    refine lv_aload_n hx hb0 dX7_obeyOrder_110 rfl (lv_at hl 0 rfl) ?_
    refine gx_get hx hb0 hts in_RX7 hown hK hP 0 (by decide) (cE_t0 _) rfl 0 (by decide) fl_RX7_10 rfl dX7_obeyOrder_111 ?_
    refine lv_aload_n hx hb0 dX7_obeyOrder_114 rfl (lv_at hl 0 rfl) ?_
    refine gx_get hx hb0 hts in_RX7 hown hK hP 0 (by decide) (cE_t0 _) rfl 2 (by decide) fl_RX7_26 rfl dX7_obeyOrder_115 ?_
    refine gx_get hx hb0 hts in_RX4 hown hK hP 3 (by decide) (cE_t3 _) rfl 4 (by decide) fl_RX7_182 rfl dX7_obeyOrder_118 ?_
    refine lv_aload_n hx hb0 dX7_obeyOrder_121 rfl (lv_at hl 0 rfl) ?_
    refine gx_get hx hb0 hts in_RX7 hown hK hP 0 (by decide) (cE_t0 _) rfl 2 (by decide) fl_RX7_26 rfl dX7_obeyOrder_122 ?_
    refine gx_get hx hb0 hts in_RX4 hown hK hP 3 (by decide) (cE_t3 _) rfl 5 (by decide) fl_RX7_185 rfl dX7_obeyOrder_125 ?_
    refine gx_vi ⟨hx, hb0, hml, hown, hts⟩ (gKC_keep _ _) hk hK hP hD hS 8 [.int (h0 3 4), .int (h0 3 5)] [] (c_X6_takeSight l dC dI P ad tb 8 vb_8 (h0 3 4) (h0 3 5) h0 _ he) gm_X6_takeSight im_yX6_takeSight se_yX6_takeSight ml_RX7_73 (vb_lt0 vb_8) ((cE_0 vb_8) _) rfl rfl rfl ⟨Nat.le_of_ble_eq_true rfl, Nat.le_of_ble_eq_true rfl⟩ rfl hl.1 rfl (Nat.le_of_ble_eq_true rfl) dX7_obeyOrder_128 ⟨Nat.zero_le _, Nat.zero_le _⟩ (fun r_18 h_19 he H locs hP hD hS => ?_)
    exact gx_iret hx hb0 hr hlocks hK hP hD hS he dX7_obeyOrder_131
  have he := he.2 c_17
  by_cases c_20 : x_1 = 115
  · have he := he.1 c_20
    refine lv_lookup (off := 133) (tgt := 140) hx hb0 dX7_obeyOrder_7 (by decide) (by rw [c_20]; rfl) (by decide) ?_
    refine lv_aload_n hx hb0 dX7_obeyOrder_140 rfl (lv_at hl 0 rfl) ?_
    refine gx_get hx hb0 hts in_RX7 hown hK hP 0 (by decide) (cE_t0 _) rfl 0 (by decide) fl_RX7_10 rfl dX7_obeyOrder_141 ?_
    refine lv_aload_n hx hb0 dX7_obeyOrder_144 rfl (lv_at hl 0 rfl) ?_
    refine gx_get hx hb0 hts in_RX7 hown hK hP 0 (by decide) (cE_t0 _) rfl 2 (by decide) fl_RX7_26 rfl dX7_obeyOrder_145 ?_
    refine gx_get hx hb0 hts in_RX4 hown hK hP 3 (by decide) (cE_t3 _) rfl 4 (by decide) fl_RX7_182 rfl dX7_obeyOrder_148 ?_
    refine gx_vi ⟨hx, hb0, hml, hown, hts⟩ (gKC_keep _ _) hk hK hP hD hS 8 [.int (h0 3 4)] [] (c_X6_sailHours l dC dI P ad tb 8 vb_8 (h0 3 4) h0 _ he) gm_X6_sailHours im_yX6_sailHours se_yX6_sailHours ml_RX7_80 (vb_lt0 vb_8) ((cE_0 vb_8) _) rfl rfl rfl ⟨Nat.le_of_ble_eq_true rfl, Nat.le_of_ble_eq_true rfl⟩ rfl hl.1 rfl (Nat.le_of_ble_eq_true rfl) dX7_obeyOrder_151 ⟨Nat.zero_le _, Nat.zero_le _⟩ (fun r_21 h_22 he H locs hP hD hS => ?_)
    exact gx_iret hx hb0 hr hlocks hK hP hD hS he dX7_obeyOrder_154
  have he := he.2 c_20
  by_cases c_23 : x_1 = 122
  · have he := he.1 c_23
    refine lv_lookup (off := 156) (tgt := 163) hx hb0 dX7_obeyOrder_7 (by decide) (by rw [c_23]; rfl) (by decide) ?_
    refine lv_aload_n hx hb0 dX7_obeyOrder_163 rfl (lv_at hl 0 rfl) ?_
    refine gx_get hx hb0 hts in_RX7 hown hK hP 0 (by decide) (cE_t0 _) rfl 0 (by decide) fl_RX7_10 rfl dX7_obeyOrder_164 ?_
    refine lv_aload_n hx hb0 dX7_obeyOrder_167 rfl (lv_at hl 0 rfl) ?_
    refine gx_get hx hb0 hts in_RX7 hown hK hP 0 (by decide) (cE_t0 _) rfl 2 (by decide) fl_RX7_26 rfl dX7_obeyOrder_168 ?_
    refine gx_get hx hb0 hts in_RX4 hown hK hP 3 (by decide) (cE_t3 _) rfl 4 (by decide) fl_RX7_182 rfl dX7_obeyOrder_171 ?_
    refine gx_vi ⟨hx, hb0, hml, hown, hts⟩ (gKC_keep _ _) hk hK hP hD hS 8 [.int (h0 3 4)] [] (c_X6_turnSleep l dC dI P ad tb 8 vb_8 (h0 3 4) h0 _ he) gm_X6_turnSleep im_yX6_turnSleep se_yX6_turnSleep ml_RX7_67 (vb_lt0 vb_8) ((cE_0 vb_8) _) rfl rfl rfl ⟨Nat.le_of_ble_eq_true rfl, Nat.le_of_ble_eq_true rfl⟩ rfl hl.1 rfl (Nat.le_of_ble_eq_true rfl) dX7_obeyOrder_174 ⟨Nat.zero_le _, Nat.zero_le _⟩ (fun r_24 h_25 he H locs hP hD hS => ?_)
    exact gx_iret hx hb0 hr hlocks hK hP hD hS he dX7_obeyOrder_177
  have he := he.2 c_23
  refine lv_lookup (off := 186) (tgt := 193) hx hb0 dX7_obeyOrder_7 (by decide) ((lv_osw c_2 rfl).trans ((lv_osw c_5 rfl).trans ((lv_osw c_8 rfl).trans ((lv_osw c_11 rfl).trans ((lv_osw c_14 rfl).trans ((lv_osw c_17 rfl).trans ((lv_osw c_20 rfl).trans ((lv_osw c_23 rfl).trans rfl)))))))) (by decide) ?_
  refine lv_bipush (v := (-3 : Int32)) hx hb0 dX7_obeyOrder_193 (by decide) ?_
  exact gx_iret hx hb0 hr hlocks hK hP hD hS he dX7_obeyOrder_195
theorem gm_X7_obeyOrder : gMeth yX7_obeyOrder cX7_obeyOrder 1 (some .int) 0 := ⟨⟨by decide, by decide, by decide +kernel⟩, ini_RX7, co_yX7_obeyOrder⟩
abbrev rm_X7_carryOut : Room := { frames := 6, cells := 0, slots := 0, locals := 126 }
set_option maxHeartbeats 4000000 in
set_option maxRecDepth 100000 in
theorem l_X7_carryOut_35 (l : Launch) (dC : Nat → ClassId) (dI : Nat → Nat → Nat) (P : gP) (ad : Nat → Nat) (tb : Nat → Nat) {p : Program} {e : Env} {s : State} {m : MethodId} {args : Array Value} {below : List Frame} {meth : Method} {c : Code} (hx : p.tables.exec = Jvm.exec) (hb0 : c.code = cX7_carryOut) (hr : meth.sig.returnType = (some .int)) (hlocks : meth.locks = false) (hml : c.maxLocals = 2) (hown : s.vm.findClass RX7 = some m.cls) (hts : ∀ w ∈ TB, w.before args s = true) (hK : va_K (dC, dI) vwCl (tyC P) s) (hk : (gKC tb (gA 158 ad)) s) (Q : Int32 → Hp → Prop) : ∀ (n : Nat) (y1 : Int32) (h0 : Hp), F_X7_carryOut_L35  n y1 h0 Q → ∀ (H : Heap) (locs : List Loc) (ls : Array Slot), va_P (dC, dI) vwCl (gW 158 (cE P ad) ad h0) H → va_D (gA 158 ad) (gW 158 (cE P ad) ad h0) → va_S (gA 158 ad) s.heap H locs → lv_has ls 2 [(0, .ref (ad 0)), (1, .int y1)] → W p l e rm_X7_carryOut s m args below meth c H locs 0 0 (MQ below (gQi (dC, dI) vwCl (tyC P) 158 (cE P ad) ad Q) args s 0 0 (gA 158 ad)) (F0 m 35 ls []) := by
  intro n
  induction n with
  | zero =>
    intro y1 h0 he
    exact he.elim
  | succ n ih =>
    intro y1 h0 he H locs ls hP hD hS hl
    rw [F_X7_carryOut_L35] at he
    refine lv_iload_n hx hb0 dX7_carryOut_35 rfl (lv_at hl 1 rfl) ?_
    refine lv_bipush (v := (80 : Int32)) hx hb0 dX7_carryOut_36 (by decide) ?_
    refine lv_icmp_ge (tgt := 71) hx hb0 dX7_carryOut_38 (by decide) (fun c_8 => ?_) (fun c_8 => ?_)
    · have he := he.1 c_8
      refine lv_aload_n hx hb0 dX7_carryOut_71 rfl (lv_at hl 0 rfl) ?_
      refine gx_get hx hb0 hts in_RX7 hown hK hP 0 (by decide) (cE_t0 _) rfl 2 (by decide) fl_RX7_26 rfl dX7_carryOut_72 ?_
      refine gx_vi ⟨hx, hb0, hml, hown, hts⟩ (gKC_keep _ _) hk hK hP hD hS 3 [] [] (c_X4_clear l dC dI P ad tb  h0 _ he) gm_X4_clear im_yX4_clear se_yX4_clear ml_RX7_147 (by decide) (cE_t3 _) rfl rfl rfl ⟨Nat.le_of_ble_eq_true rfl, Nat.le_of_ble_eq_true rfl⟩ rfl hl.1 rfl (Nat.le_of_ble_eq_true rfl) dX7_carryOut_75 ⟨Nat.zero_le _, Nat.zero_le _⟩ (fun r_9 h_10 he H locs hP hD hS => ?_)
      refine lv_pop hx hb0 dX7_carryOut_78 rfl ?_
      refine lv_aload_n hx hb0 dX7_carryOut_79 rfl (lv_at hl 0 rfl) ?_
      refine gx_get hx hb0 hts in_RX7 hown hK hP 0 (by decide) (cE_t0 _) rfl 1 (by decide) fl_RX7_19 rfl dX7_carryOut_80 ?_
      refine lv_iload_n hx hb0 dX7_carryOut_83 rfl (lv_at hl 1 rfl) ?_
      refine gx_vi ⟨hx, hb0, hml, hown, hts⟩ (gKC_keep _ _) hk hK hP hD hS 1 [.int y1] [] (c_X2_keepUnlessError l dC dI P ad tb y1 h_10 _ he) gm_X2_keepUnlessError im_yX2_keepUnlessError se_yX2_keepUnlessError ml_RX7_53 (by decide) (cE_t1 _) rfl rfl rfl ⟨Nat.le_of_ble_eq_true rfl, Nat.le_of_ble_eq_true rfl⟩ rfl hl.1 rfl (Nat.le_of_ble_eq_true rfl) dX7_carryOut_84 ⟨Nat.zero_le _, Nat.zero_le _⟩ (fun r_11 h_12 he H locs hP hD hS => ?_)
      exact gx_iret hx hb0 hr hlocks hK hP hD hS he dX7_carryOut_87
    · have he := he.2 c_8
      refine lv_aload_n hx hb0 dX7_carryOut_41 rfl (lv_at hl 0 rfl) ?_
      refine gx_get hx hb0 hts in_RX7 hown hK hP 0 (by decide) (cE_t0 _) rfl 2 (by decide) fl_RX7_26 rfl dX7_carryOut_42 ?_
      refine gx_vi ⟨hx, hb0, hml, hown, hts⟩ (gKC_keep _ _) hk hK hP hD hS 3 [] [] (c_X4_readOrder l dC dI P ad tb  h0 _ he) gm_X4_readOrder im_yX4_readOrder se_yX4_readOrder ml_RX7_156 (by decide) (cE_t3 _) rfl rfl rfl ⟨Nat.le_of_ble_eq_true rfl, Nat.le_of_ble_eq_true rfl⟩ rfl hl.1 rfl (Nat.le_of_ble_eq_true rfl) dX7_carryOut_45 ⟨Nat.zero_le _, Nat.zero_le _⟩ (fun r_13 h_14 he H locs hP hD hS => ?_)
      refine lv_if_eq (tgt := 71) hx hb0 dX7_carryOut_48 (by decide) (fun c_15 => ?_) (fun c_15 => ?_)
      · have he := he.1 c_15
        refine lv_aload_n hx hb0 dX7_carryOut_71 rfl (lv_at hl 0 rfl) ?_
        refine gx_get hx hb0 hts in_RX7 hown hK hP 0 (by decide) (cE_t0 _) rfl 2 (by decide) fl_RX7_26 rfl dX7_carryOut_72 ?_
        refine gx_vi ⟨hx, hb0, hml, hown, hts⟩ (gKC_keep _ _) hk hK hP hD hS 3 [] [] (c_X4_clear l dC dI P ad tb  h_14 _ he) gm_X4_clear im_yX4_clear se_yX4_clear ml_RX7_147 (by decide) (cE_t3 _) rfl rfl rfl ⟨Nat.le_of_ble_eq_true rfl, Nat.le_of_ble_eq_true rfl⟩ rfl hl.1 rfl (Nat.le_of_ble_eq_true rfl) dX7_carryOut_75 ⟨Nat.zero_le _, Nat.zero_le _⟩ (fun r_16 h_17 he H locs hP hD hS => ?_)
        refine lv_pop hx hb0 dX7_carryOut_78 rfl ?_
        refine lv_aload_n hx hb0 dX7_carryOut_79 rfl (lv_at hl 0 rfl) ?_
        refine gx_get hx hb0 hts in_RX7 hown hK hP 0 (by decide) (cE_t0 _) rfl 1 (by decide) fl_RX7_19 rfl dX7_carryOut_80 ?_
        refine lv_iload_n hx hb0 dX7_carryOut_83 rfl (lv_at hl 1 rfl) ?_
        refine gx_vi ⟨hx, hb0, hml, hown, hts⟩ (gKC_keep _ _) hk hK hP hD hS 1 [.int y1] [] (c_X2_keepUnlessError l dC dI P ad tb y1 h_17 _ he) gm_X2_keepUnlessError im_yX2_keepUnlessError se_yX2_keepUnlessError ml_RX7_53 (by decide) (cE_t1 _) rfl rfl rfl ⟨Nat.le_of_ble_eq_true rfl, Nat.le_of_ble_eq_true rfl⟩ rfl hl.1 rfl (Nat.le_of_ble_eq_true rfl) dX7_carryOut_84 ⟨Nat.zero_le _, Nat.zero_le _⟩ (fun r_18 h_19 he H locs hP hD hS => ?_)
        exact gx_iret hx hb0 hr hlocks hK hP hD hS he dX7_carryOut_87
      · have he := he.2 c_15
        refine lv_aload_n hx hb0 dX7_carryOut_51 rfl (lv_at hl 0 rfl) ?_
        refine gx_vi ⟨hx, hb0, hml, hown, hts⟩ (gKC_keep _ _) hk hK hP hD hS 0 [] [] (c_X7_obeyOrder l dC dI P ad tb  h_14 _ he) gm_X7_obeyOrder im_yX7_obeyOrder se_yX7_obeyOrder ml_RX7_160 (by decide) (cE_t0 _) rfl rfl rfl ⟨Nat.le_of_ble_eq_true rfl, Nat.le_of_ble_eq_true rfl⟩ rfl hl.1 rfl (Nat.le_of_ble_eq_true rfl) dX7_carryOut_52 ⟨Nat.zero_le _, Nat.zero_le _⟩ (fun r_20 h_21 he H locs hP hD hS => ?_)
        refine lv_if_lt (tgt := 71) hx hb0 dX7_carryOut_55 (by decide) (fun c_22 => ?_) (fun c_22 => ?_)
        · have he := he.1 c_22
          refine lv_aload_n hx hb0 dX7_carryOut_71 rfl (lv_at hl 0 rfl) ?_
          refine gx_get hx hb0 hts in_RX7 hown hK hP 0 (by decide) (cE_t0 _) rfl 2 (by decide) fl_RX7_26 rfl dX7_carryOut_72 ?_
          refine gx_vi ⟨hx, hb0, hml, hown, hts⟩ (gKC_keep _ _) hk hK hP hD hS 3 [] [] (c_X4_clear l dC dI P ad tb  h_21 _ he) gm_X4_clear im_yX4_clear se_yX4_clear ml_RX7_147 (by decide) (cE_t3 _) rfl rfl rfl ⟨Nat.le_of_ble_eq_true rfl, Nat.le_of_ble_eq_true rfl⟩ rfl hl.1 rfl (Nat.le_of_ble_eq_true rfl) dX7_carryOut_75 ⟨Nat.zero_le _, Nat.zero_le _⟩ (fun r_23 h_24 he H locs hP hD hS => ?_)
          refine lv_pop hx hb0 dX7_carryOut_78 rfl ?_
          refine lv_aload_n hx hb0 dX7_carryOut_79 rfl (lv_at hl 0 rfl) ?_
          refine gx_get hx hb0 hts in_RX7 hown hK hP 0 (by decide) (cE_t0 _) rfl 1 (by decide) fl_RX7_19 rfl dX7_carryOut_80 ?_
          refine lv_iload_n hx hb0 dX7_carryOut_83 rfl (lv_at hl 1 rfl) ?_
          refine gx_vi ⟨hx, hb0, hml, hown, hts⟩ (gKC_keep _ _) hk hK hP hD hS 1 [.int y1] [] (c_X2_keepUnlessError l dC dI P ad tb y1 h_24 _ he) gm_X2_keepUnlessError im_yX2_keepUnlessError se_yX2_keepUnlessError ml_RX7_53 (by decide) (cE_t1 _) rfl rfl rfl ⟨Nat.le_of_ble_eq_true rfl, Nat.le_of_ble_eq_true rfl⟩ rfl hl.1 rfl (Nat.le_of_ble_eq_true rfl) dX7_carryOut_84 ⟨Nat.zero_le _, Nat.zero_le _⟩ (fun r_25 h_26 he H locs hP hD hS => ?_)
          exact gx_iret hx hb0 hr hlocks hK hP hD hS he dX7_carryOut_87
        · have he := he.2 c_22
          obtain ⟨x_27, ex_27⟩ : ∃ y : Int32, y = y1 + 1 := ⟨_, rfl⟩
          have he := he x_27 ex_27
          refine lv_iinc (v := x_27) (lv' := [(1, .int x_27), (0, .ref (ad 0))]) hx hb0 dX7_carryOut_58 hl (k := 1) rfl (by rw [ex_27]; rfl) (by decide) rfl (fun ls hl => ?_)
          refine lv_aload_n hx hb0 dX7_carryOut_61 rfl (lv_at hl 1 rfl) ?_
          refine gx_get hx hb0 hts in_RX7 hown hK hP 0 (by decide) (cE_t0 _) rfl 2 (by decide) fl_RX7_26 rfl dX7_carryOut_62 ?_
          refine gx_vv ⟨hx, hb0, hml, hown, hts⟩ (gKC_keep _ _) hk hK hP hD hS 3 [] [] (c_X4_skipSemicolon l dC dI P ad tb  h_21 _ he) gm_X4_skipSemicolon im_yX4_skipSemicolon se_yX4_skipSemicolon ml_RX7_163 (by decide) (cE_t3 _) rfl rfl rfl ⟨Nat.le_of_ble_eq_true rfl, Nat.le_of_ble_eq_true rfl⟩ rfl hl.1 rfl (Nat.le_of_ble_eq_true rfl) dX7_carryOut_65 ⟨Nat.zero_le _, Nat.zero_le _⟩ (fun h_29 he H locs hP hD hS => ?_)
          refine lv_goto (tgt := 35) hx hb0 dX7_carryOut_68 (by decide) ?_
          exact ih x_27 h_29 he _ _ ls hP hD hS (lv_sub hl [1, 0] rfl)
set_option maxHeartbeats 4000000 in
set_option maxRecDepth 100000 in
theorem c_X7_carryOut (l : Launch) (dC : Nat → ClassId) (dI : Nat → Nat → Nat) (P : gP) (ad : Nat → Nat) (tb : Nat → Nat) (h0 : Hp) (Q : Int32 → Hp → Prop) (he : F_X7_carryOut  h0 Q) : Met l yX7_carryOut (Cond.code yX7_carryOut cX7_carryOut 2 (some .int) :: TB) rm_X7_carryOut (gPc (dC, dI) vwCl (tyC P) 158 (cE P ad) ad (gKC tb (gA 158 ad)) h0 [.ref (ad 0)]) (gQi (dC, dI) vwCl (tyC P) 158 (cE P ad) ad Q) 0 0 (gA 158 ad) := by
  refine gx_start (by decide) (Nat.le_of_ble_eq_true rfl) (fun p e s m below meth c ls hx hb0 hr hlocks hml hown hts hK hk hP hD hS hl => ?_)
  have hl : lv_has ls 2 [(0, .ref (ad 0))] := hl
  have hown : s.vm.findClass RX7 = some m.cls := hown
  unfold F_X7_carryOut at he
  refine lv_aload_n hx hb0 dX7_carryOut_0 rfl (lv_at hl 0 rfl) ?_
  refine gx_get hx hb0 hts in_RX7 hown hK hP 0 (by decide) (cE_t0 _) rfl 2 (by decide) fl_RX7_26 rfl dX7_carryOut_1 ?_
  refine gx_vi ⟨hx, hb0, hml, hown, hts⟩ (gKC_keep _ _) hk hK hP hD hS 3 [] [] (c_X4_findFault l dC dI P ad tb  h0 _ he) gm_X4_findFault im_yX4_findFault se_yX4_findFault ml_RX7_150 (by decide) (cE_t3 _) rfl rfl rfl ⟨Nat.le_of_ble_eq_true rfl, Nat.le_of_ble_eq_true rfl⟩ rfl hl.1 rfl (Nat.le_of_ble_eq_true rfl) dX7_carryOut_4 ⟨Nat.zero_le _, Nat.zero_le _⟩ (fun r_1 h_2 he H locs hP hD hS => ?_)
  refine lv_bipush (v := (-6 : Int32)) hx hb0 dX7_carryOut_7 (by decide) ?_
  refine lv_icmp_eq (tgt := 15) hx hb0 dX7_carryOut_9 (by decide) (fun c_3 => ?_) (fun c_3 => ?_)
  · have he := he.1 c_3
    refine lv_aload_n hx hb0 dX7_carryOut_15 rfl (lv_at hl 0 rfl) ?_
    refine gx_get hx hb0 hts in_RX7 hown hK hP 0 (by decide) (cE_t0 _) rfl 1 (by decide) fl_RX7_19 rfl dX7_carryOut_16 ?_
    refine lv_aload_n hx hb0 dX7_carryOut_19 rfl (lv_at hl 0 rfl) ?_
    refine gx_get hx hb0 hts in_RX7 hown hK hP 0 (by decide) (cE_t0 _) rfl 0 (by decide) fl_RX7_10 rfl dX7_carryOut_20 ?_
    refine gx_vv ⟨hx, hb0, hml, hown, hts⟩ (gKC_keep _ _) hk hK hP hD hS 1 [.ref (ad 8)] [] (c_X2_hold l dC dI P ad tb 8 vb_8 h_2 _ he) gm_X2_hold im_yX2_hold se_yX2_hold ml_RX7_45 (by decide) (cE_t1 _) rfl rfl rfl ⟨Nat.le_of_ble_eq_true rfl, Nat.le_of_ble_eq_true rfl⟩ rfl hl.1 rfl (Nat.le_of_ble_eq_true rfl) dX7_carryOut_23 ⟨Nat.zero_le _, Nat.zero_le _⟩ (fun h_5 he H locs hP hD hS => ?_)
    refine lv_aload_n hx hb0 dX7_carryOut_26 rfl (lv_at hl 0 rfl) ?_
    refine gx_get hx hb0 hts in_RX7 hown hK hP 0 (by decide) (cE_t0 _) rfl 2 (by decide) fl_RX7_26 rfl dX7_carryOut_27 ?_
    refine gx_vv ⟨hx, hb0, hml, hown, hts⟩ (gKC_keep _ _) hk hK hP hD hS 3 [] [] (c_X4_startReading l dC dI P ad tb  h_5 _ he) gm_X4_startReading im_yX4_startReading se_yX4_startReading ml_RX7_153 (by decide) (cE_t3 _) rfl rfl rfl ⟨Nat.le_of_ble_eq_true rfl, Nat.le_of_ble_eq_true rfl⟩ rfl hl.1 rfl (Nat.le_of_ble_eq_true rfl) dX7_carryOut_30 ⟨Nat.zero_le _, Nat.zero_le _⟩ (fun h_7 he H locs hP hD hS => ?_)
    refine lv_iconst (v := (0 : Int32)) hx hb0 dX7_carryOut_33 (by decide) ?_
    refine lv_istore_n (lv' := [(1, .int (0 : Int32)), (0, .ref (ad 0))]) hx hb0 dX7_carryOut_34 rfl hl (by decide) rfl (fun ls hl => ?_)
    obtain ⟨n_30, he⟩ := he
    exact l_X7_carryOut_35 l dC dI P ad tb  hx hb0 hr hlocks hml hown hts hK hk Q n_30 (0 : Int32) h_7 he _ _ ls hP hD hS (lv_sub hl [1, 0] rfl)
  · have he := he.2 c_3
    refine lv_bipush (v := (-3 : Int32)) hx hb0 dX7_carryOut_12 (by decide) ?_
    exact gx_iret hx hb0 hr hlocks hK hP hD hS he dX7_carryOut_14
theorem gm_X7_carryOut : gMeth yX7_carryOut cX7_carryOut 2 (some .int) 0 := ⟨⟨by decide, by decide, by decide +kernel⟩, ini_RX7, co_yX7_carryOut⟩
abbrev rm_X7_undo : Room := { frames := 4, cells := 0, slots := 0, locals := 81 }
set_option maxHeartbeats 4000000 in
set_option maxRecDepth 100000 in
theorem c_X7_undo (l : Launch) (dC : Nat → ClassId) (dI : Nat → Nat → Nat) (P : gP) (ad : Nat → Nat) (tb : Nat → Nat) (h0 : Hp) (Q : Int32 → Hp → Prop) (he : F_X7_undo  h0 Q) : Met l yX7_undo (Cond.code yX7_undo cX7_undo 1 (some .int) :: TB) rm_X7_undo (gPc (dC, dI) vwCl (tyC P) 158 (cE P ad) ad (gKC tb (gA 158 ad)) h0 [.ref (ad 0)]) (gQi (dC, dI) vwCl (tyC P) 158 (cE P ad) ad Q) 0 0 (gA 158 ad) := by
  refine gx_start (by decide) (Nat.le_of_ble_eq_true rfl) (fun p e s m below meth c ls hx hb0 hr hlocks hml hown hts hK hk hP hD hS hl => ?_)
  have hl : lv_has ls 1 [(0, .ref (ad 0))] := hl
  have hown : s.vm.findClass RX7 = some m.cls := hown
  unfold F_X7_undo at he
  refine lv_aload_n hx hb0 dX7_undo_0 rfl (lv_at hl 0 rfl) ?_
  refine gx_get hx hb0 hts in_RX7 hown hK hP 0 (by decide) (cE_t0 _) rfl 1 (by decide) fl_RX7_19 rfl dX7_undo_1 ?_
  refine lv_aload_n hx hb0 dX7_undo_4 rfl (lv_at hl 0 rfl) ?_
  refine gx_get hx hb0 hts in_RX7 hown hK hP 0 (by decide) (cE_t0 _) rfl 0 (by decide) fl_RX7_10 rfl dX7_undo_5 ?_
  refine gx_vi ⟨hx, hb0, hml, hown, hts⟩ (gKC_keep _ _) hk hK hP hD hS 1 [.ref (ad 8)] [] (c_X2_takeBack l dC dI P ad tb 8 vb_8 h0 _ he) gm_X2_takeBack im_yX2_takeBack se_yX2_takeBack ml_RX7_166 (by decide) (cE_t1 _) rfl rfl rfl ⟨Nat.le_of_ble_eq_true rfl, Nat.le_of_ble_eq_true rfl⟩ rfl hl.1 rfl (Nat.le_of_ble_eq_true rfl) dX7_undo_8 ⟨Nat.zero_le _, Nat.zero_le _⟩ (fun r_1 h_2 he H locs hP hD hS => ?_)
  exact gx_iret hx hb0 hr hlocks hK hP hD hS he dX7_undo_11
theorem gm_X7_undo : gMeth yX7_undo cX7_undo 1 (some .int) 0 := ⟨⟨by decide, by decide, by decide +kernel⟩, ini_RX7, co_yX7_undo⟩
abbrev rm_X7_save : Room := { frames := 3, cells := 0, slots := 0, locals := 60 }
set_option maxHeartbeats 4000000 in
set_option maxRecDepth 100000 in
theorem c_X7_save (l : Launch) (dC : Nat → ClassId) (dI : Nat → Nat → Nat) (P : gP) (ad : Nat → Nat) (tb : Nat → Nat) (x1 : Int32) (h0 : Hp) (Q : Int32 → Hp → Prop) (he : F_X7_save x1 h0 Q) : Met l yX7_save (Cond.code yX7_save cX7_save 2 (some .int) :: TB) rm_X7_save (gPc (dC, dI) vwCl (tyC P) 158 (cE P ad) ad (gKC tb (gA 158 ad)) h0 [.ref (ad 0), .int x1]) (gQi (dC, dI) vwCl (tyC P) 158 (cE P ad) ad Q) 0 0 (gA 158 ad) := by
  refine gx_start (by decide) (Nat.le_of_ble_eq_true rfl) (fun p e s m below meth c ls hx hb0 hr hlocks hml hown hts hK hk hP hD hS hl => ?_)
  have hl : lv_has ls 2 [(0, .ref (ad 0)), (1, .int x1)] := hl
  have hown : s.vm.findClass RX7 = some m.cls := hown
  unfold F_X7_save at he
  refine lv_iload_n hx hb0 dX7_save_0 rfl (lv_at hl 1 rfl) ?_
  refine gx_si ⟨hx, hb0, hml, hown, hts⟩ (gKC_keep _ _) hk hK hP hD hS [.int x1] [] (c_X7_isSlot l dC dI P ad tb x1 h0 _ he) gm_X7_isSlot st_yX7_isSlot ml_RX7_170 rfl rfl ⟨Nat.le_of_ble_eq_true rfl, Nat.le_of_ble_eq_true rfl⟩ rfl hl.1 rfl (Nat.le_of_ble_eq_true rfl) dX7_save_1 ⟨Nat.zero_le _, Nat.zero_le _⟩ (fun r_1 h_2 he H locs hP hD hS => ?_)
  refine lv_if_ne (tgt := 10) hx hb0 dX7_save_4 (by decide) (fun c_3 => ?_) (fun c_3 => ?_)
  · have he := he.2 c_3
    refine lv_aload_n hx hb0 dX7_save_10 rfl (lv_at hl 0 rfl) ?_
    refine gx_get hx hb0 hts in_RX7 hown hK hP 0 (by decide) (cE_t0 _) rfl 3 (by decide) fl_RX7_30 rfl dX7_save_11 ?_
    refine lv_iload_n hx hb0 dX7_save_14 rfl (lv_at hl 1 rfl) ?_
    obtain ⟨v_4, he⟩ := he
    refine gx_aald hx hb0 hK hP 5 3 (by decide) cE_t5 rfl v_4 dX7_save_15 ?_
    refine lv_aload_n hx hb0 dX7_save_16 rfl (lv_at hl 0 rfl) ?_
    refine gx_get hx hb0 hts in_RX7 hown hK hP 0 (by decide) (cE_t0 _) rfl 0 (by decide) fl_RX7_10 rfl dX7_save_17 ?_
    refine gx_vv ⟨hx, hb0, hml, hown, hts⟩ (gKC_keep _ _) hk hK hP hD hS (128 + 15 * x1.toNatClampNeg) [.ref (ad 8)] [] (c_X6_copyFrom l dC dI P ad tb (128 + 15 * x1.toNatClampNeg) (vb_slot v_4) 8 vb_8 h_2 _ he) gm_X6_copyFrom im_yX6_copyFrom se_yX6_copyFrom ml_RX7_173 (vb_lt0 (vb_slot v_4)) ((cE_0 (vb_slot v_4)) _) rfl rfl rfl ⟨Nat.le_of_ble_eq_true rfl, Nat.le_of_ble_eq_true rfl⟩ rfl hl.1 rfl (Nat.le_of_ble_eq_true rfl) dX7_save_20 ⟨Nat.zero_le _, Nat.zero_le _⟩ (fun h_6 he H locs hP hD hS => ?_)
    refine lv_aload_n hx hb0 dX7_save_23 rfl (lv_at hl 0 rfl) ?_
    refine gx_get hx hb0 hts in_RX7 hown hK hP 0 (by decide) (cE_t0 _) rfl 4 (by decide) fl_RX7_34 rfl dX7_save_24 ?_
    refine lv_iload_n hx hb0 dX7_save_27 rfl (lv_at hl 1 rfl) ?_
    refine lv_iconst (v := (1 : Int32)) hx hb0 dX7_save_28 (by decide) ?_
    obtain ⟨v_8, he⟩ := he
    refine gx_zast hx hb0 hK hP hD hS 6 2 (by decide) cE_t6 rfl v_8 dX7_save_29 (fun h_7 eh_7 H locs hP hD hS => ?_)
    have he := he h_7 eh_7
    refine lv_aload_n hx hb0 dX7_save_30 rfl (lv_at hl 0 rfl) ?_
    refine gx_get hx hb0 hts in_RX7 hown hK hP 0 (by decide) (cE_t0 _) rfl 0 (by decide) fl_RX7_10 rfl dX7_save_31 ?_
    refine gx_get hx hb0 hts in_RX6 hown hK hP 8 (vb_lt0 vb_8) ((cE_0 vb_8) _) rfl 1 (by decide) fl_RX7_99 rfl dX7_save_34 ?_
    refine gx_get hx hb0 hts in_RX5 hown hK hP (8 + 2) (vb_lt vb_8 (by decide)) ((cE_2 vb_8) _) rfl 0 (by decide) fl_RX7_176 rfl dX7_save_37 ?_
    exact gx_iret hx hb0 hr hlocks hK hP hD hS he dX7_save_40
  · have he := he.1 c_3
    refine lv_bipush (v := (-2 : Int32)) hx hb0 dX7_save_7 (by decide) ?_
    exact gx_iret hx hb0 hr hlocks hK hP hD hS he dX7_save_9
theorem gm_X7_save : gMeth yX7_save cX7_save 2 (some .int) 1 := ⟨⟨by decide, by decide, by decide +kernel⟩, ini_RX7, co_yX7_save⟩
abbrev rm_X7_restore : Room := { frames := 4, cells := 0, slots := 0, locals := 81 }
set_option maxHeartbeats 4000000 in
set_option maxRecDepth 100000 in
theorem c_X7_restore (l : Launch) (dC : Nat → ClassId) (dI : Nat → Nat → Nat) (P : gP) (ad : Nat → Nat) (tb : Nat → Nat) (x1 : Int32) (h0 : Hp) (Q : Int32 → Hp → Prop) (he : F_X7_restore x1 h0 Q) : Met l yX7_restore (Cond.code yX7_restore cX7_restore 2 (some .int) :: TB) rm_X7_restore (gPc (dC, dI) vwCl (tyC P) 158 (cE P ad) ad (gKC tb (gA 158 ad)) h0 [.ref (ad 0), .int x1]) (gQi (dC, dI) vwCl (tyC P) 158 (cE P ad) ad Q) 0 0 (gA 158 ad) := by
  refine gx_start (by decide) (Nat.le_of_ble_eq_true rfl) (fun p e s m below meth c ls hx hb0 hr hlocks hml hown hts hK hk hP hD hS hl => ?_)
  have hl : lv_has ls 2 [(0, .ref (ad 0)), (1, .int x1)] := hl
  have hown : s.vm.findClass RX7 = some m.cls := hown
  unfold F_X7_restore at he
  refine lv_iload_n hx hb0 dX7_restore_0 rfl (lv_at hl 1 rfl) ?_
  refine gx_si ⟨hx, hb0, hml, hown, hts⟩ (gKC_keep _ _) hk hK hP hD hS [.int x1] [] (c_X7_isSlot l dC dI P ad tb x1 h0 _ he) gm_X7_isSlot st_yX7_isSlot ml_RX7_170 rfl rfl ⟨Nat.le_of_ble_eq_true rfl, Nat.le_of_ble_eq_true rfl⟩ rfl hl.1 rfl (Nat.le_of_ble_eq_true rfl) dX7_restore_1 ⟨Nat.zero_le _, Nat.zero_le _⟩ (fun r_1 h_2 he H locs hP hD hS => ?_)
  refine lv_if_ne (tgt := 10) hx hb0 dX7_restore_4 (by decide) (fun c_3 => ?_) (fun c_3 => ?_)
  · have he := he.2 c_3
    refine lv_aload_n hx hb0 dX7_restore_10 rfl (lv_at hl 0 rfl) ?_
    refine gx_get hx hb0 hts in_RX7 hown hK hP 0 (by decide) (cE_t0 _) rfl 4 (by decide) fl_RX7_34 rfl dX7_restore_11 ?_
    refine lv_iload_n hx hb0 dX7_restore_14 rfl (lv_at hl 1 rfl) ?_
    obtain ⟨v_4, he⟩ := he
    refine gx_zald hx hb0 hK hP 6 2 (by decide) cE_t6 rfl v_4 dX7_restore_15 ?_
    refine lv_if_ne (tgt := 22) hx hb0 dX7_restore_16 (by decide) (fun c_5 => ?_) (fun c_5 => ?_)
    · have he := he.2 c_5
      refine lv_aload_n hx hb0 dX7_restore_22 rfl (lv_at hl 0 rfl) ?_
      refine gx_get hx hb0 hts in_RX7 hown hK hP 0 (by decide) (cE_t0 _) rfl 1 (by decide) fl_RX7_19 rfl dX7_restore_23 ?_
      refine lv_aload_n hx hb0 dX7_restore_26 rfl (lv_at hl 0 rfl) ?_
      refine gx_get hx hb0 hts in_RX7 hown hK hP 0 (by decide) (cE_t0 _) rfl 0 (by decide) fl_RX7_10 rfl dX7_restore_27 ?_
      refine gx_vv ⟨hx, hb0, hml, hown, hts⟩ (gKC_keep _ _) hk hK hP hD hS 1 [.ref (ad 8)] [] (c_X2_hold l dC dI P ad tb 8 vb_8 h_2 _ he) gm_X2_hold im_yX2_hold se_yX2_hold ml_RX7_45 (by decide) (cE_t1 _) rfl rfl rfl ⟨Nat.le_of_ble_eq_true rfl, Nat.le_of_ble_eq_true rfl⟩ rfl hl.1 rfl (Nat.le_of_ble_eq_true rfl) dX7_restore_30 ⟨Nat.zero_le _, Nat.zero_le _⟩ (fun h_7 he H locs hP hD hS => ?_)
      refine lv_aload_n hx hb0 dX7_restore_33 rfl (lv_at hl 0 rfl) ?_
      refine gx_get hx hb0 hts in_RX7 hown hK hP 0 (by decide) (cE_t0 _) rfl 0 (by decide) fl_RX7_10 rfl dX7_restore_34 ?_
      refine lv_aload_n hx hb0 dX7_restore_37 rfl (lv_at hl 0 rfl) ?_
      refine gx_get hx hb0 hts in_RX7 hown hK hP 0 (by decide) (cE_t0 _) rfl 3 (by decide) fl_RX7_30 rfl dX7_restore_38 ?_
      refine lv_iload_n hx hb0 dX7_restore_41 rfl (lv_at hl 1 rfl) ?_
      obtain ⟨v_8, he⟩ := he
      refine gx_aald hx hb0 hK hP 5 3 (by decide) cE_t5 rfl v_8 dX7_restore_42 ?_
      refine gx_vv ⟨hx, hb0, hml, hown, hts⟩ (gKC_keep _ _) hk hK hP hD hS 8 [.ref (ad (128 + 15 * x1.toNatClampNeg))] [] (c_X6_copyFrom l dC dI P ad tb 8 vb_8 (128 + 15 * x1.toNatClampNeg) (vb_slot v_8) h_7 _ he) gm_X6_copyFrom im_yX6_copyFrom se_yX6_copyFrom ml_RX7_173 (vb_lt0 vb_8) ((cE_0 vb_8) _) rfl rfl rfl ⟨Nat.le_of_ble_eq_true rfl, Nat.le_of_ble_eq_true rfl⟩ rfl hl.1 rfl (Nat.le_of_ble_eq_true rfl) dX7_restore_43 ⟨Nat.zero_le _, Nat.zero_le _⟩ (fun h_10 he H locs hP hD hS => ?_)
      refine lv_aload_n hx hb0 dX7_restore_46 rfl (lv_at hl 0 rfl) ?_
      refine gx_get hx hb0 hts in_RX7 hown hK hP 0 (by decide) (cE_t0 _) rfl 1 (by decide) fl_RX7_19 rfl dX7_restore_47 ?_
      refine lv_aload_n hx hb0 dX7_restore_50 rfl (lv_at hl 0 rfl) ?_
      refine gx_get hx hb0 hts in_RX7 hown hK hP 0 (by decide) (cE_t0 _) rfl 0 (by decide) fl_RX7_10 rfl dX7_restore_51 ?_
      refine gx_get hx hb0 hts in_RX6 hown hK hP 8 (vb_lt0 vb_8) ((cE_0 vb_8) _) rfl 1 (by decide) fl_RX7_99 rfl dX7_restore_54 ?_
      refine gx_get hx hb0 hts in_RX5 hown hK hP (8 + 2) (vb_lt vb_8 (by decide)) ((cE_2 vb_8) _) rfl 0 (by decide) fl_RX7_176 rfl dX7_restore_57 ?_
      refine gx_vi ⟨hx, hb0, hml, hown, hts⟩ (gKC_keep _ _) hk hK hP hD hS 1 [.int (h_10 (8 + 2) 0)] [] (c_X2_keepUnlessError l dC dI P ad tb (h_10 (8 + 2) 0) h_10 _ he) gm_X2_keepUnlessError im_yX2_keepUnlessError se_yX2_keepUnlessError ml_RX7_53 (by decide) (cE_t1 _) rfl rfl rfl ⟨Nat.le_of_ble_eq_true rfl, Nat.le_of_ble_eq_true rfl⟩ rfl hl.1 rfl (Nat.le_of_ble_eq_true rfl) dX7_restore_60 ⟨Nat.zero_le _, Nat.zero_le _⟩ (fun r_11 h_12 he H locs hP hD hS => ?_)
      exact gx_iret hx hb0 hr hlocks hK hP hD hS he dX7_restore_63
    · have he := he.1 c_5
      refine lv_bipush (v := (-5 : Int32)) hx hb0 dX7_restore_19 (by decide) ?_
      exact gx_iret hx hb0 hr hlocks hK hP hD hS he dX7_restore_21
  · have he := he.1 c_3
    refine lv_bipush (v := (-2 : Int32)) hx hb0 dX7_restore_7 (by decide) ?_
    exact gx_iret hx hb0 hr hlocks hK hP hD hS he dX7_restore_9
theorem gm_X7_restore : gMeth yX7_restore cX7_restore 2 (some .int) 1 := ⟨⟨by decide, by decide, by decide +kernel⟩, ini_RX7, co_yX7_restore⟩
