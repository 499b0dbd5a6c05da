abbrev rm_X7_set : Room := { frames := 4, cells := 0, slots := 0, locals := 81 }
set_option maxHeartbeats 4000000 in
set_option maxRecDepth 100000 in
theorem c_X7_set (l : Launch) (dC : Nat → ClassId) (dI : Nat → Nat → Nat) (P : gP) (ad : Nat → Nat) (tb : Nat → Nat) (x1 : Int32) (x2 : Int32) (h0 : Hp) (Q : Int32 → Hp → Prop) (he : F_X7_set x1 x2 h0 Q) : Met l yX7_set (Cond.code yX7_set cX7_set 3 (some .int) :: TB) rm_X7_set (gPc (dC, dI) vwCl (tyC P) 162 (cE P ad) ad (gKC tb (gA 162 ad)) h0 [.ref (ad 0), .int x1, .int x2]) (gQi (dC, dI) vwCl (tyC P) 162 (cE P ad) ad Q) 0 0 (gA 162 ad) := by
  refine gx_start (by decide) (Nat.le_of_ble_eq_true rfl) (fun p e s m below meth c ls hx hb0 hr hlocks hml hown hts hK hk hP hD hS hl => ?_)
  have hl : lv_has ls 3 [(0, .ref (ad 0)), (1, .int x1), (2, .int x2)] := hl
  have hown : s.vm.findClass RX7 = some m.cls := hown
  unfold F_X7_set at he
  refine lv_aload_n hx hb0 dX7_set_0 rfl (lv_at hl 0 rfl) ?_
  refine gx_get hx hb0 hts in_RX7 hown hK hP 0 (by decide) (cE_t0 _) rfl 1 (by decide) fl_RX7_19 rfl dX7_set_1 ?_
  refine lv_aload_n hx hb0 dX7_set_4 rfl (lv_at hl 0 rfl) ?_
  refine gx_get hx hb0 hts in_RX7 hown hK hP 0 (by decide) (cE_t0 _) rfl 0 (by decide) fl_RX7_10 rfl dX7_set_5 ?_
  refine gx_vv ⟨hx, hb0, hml, hown, hts⟩ (gKC_keep _ _) hk hK hP hD hS 1 [.ref (ad 8)] [] (c_X2_hold l dC dI P ad tb 8 vb_8 h0 _ he) gm_X2_hold im_yX2_hold se_yX2_hold ml_RX7_45 (by decide) (cE_t1 _) rfl rfl rfl ⟨Nat.le_of_ble_eq_true rfl, Nat.le_of_ble_eq_true rfl⟩ rfl hl.1 rfl (Nat.le_of_ble_eq_true rfl) dX7_set_8 ⟨Nat.zero_le _, Nat.zero_le _⟩ (fun h_2 he H locs hP hD hS => ?_)
  refine lv_aload_n hx hb0 dX7_set_11 rfl (lv_at hl 0 rfl) ?_
  refine gx_get hx hb0 hts in_RX7 hown hK hP 0 (by decide) (cE_t0 _) rfl 1 (by decide) fl_RX7_19 rfl dX7_set_12 ?_
  refine lv_aload_n hx hb0 dX7_set_15 rfl (lv_at hl 0 rfl) ?_
  refine gx_get hx hb0 hts in_RX7 hown hK hP 0 (by decide) (cE_t0 _) rfl 0 (by decide) fl_RX7_10 rfl dX7_set_16 ?_
  refine lv_iload_n hx hb0 dX7_set_19 rfl (lv_at hl 1 rfl) ?_
  refine lv_iload_n hx hb0 dX7_set_20 rfl (lv_at hl 2 rfl) ?_
  refine gx_vi ⟨hx, hb0, hml, hown, hts⟩ (gKC_keep _ _) hk hK hP hD hS 8 [.int x1, .int x2] [.ref (ad 1)] (c_X6_changeSetting l dC dI P ad tb 8 vb_8 x1 x2 h_2 _ he) gm_X6_changeSetting im_yX6_changeSetting se_yX6_changeSetting ml_RX7_49 (vb_lt0 vb_8) ((cE_0 vb_8) _) rfl rfl rfl ⟨Nat.le_of_ble_eq_true rfl, Nat.le_of_ble_eq_true rfl⟩ rfl hl.1 rfl (Nat.le_of_ble_eq_true rfl) dX7_set_21 ⟨Nat.zero_le _, Nat.zero_le _⟩ (fun r_3 h_4 he H locs hP hD hS => ?_)
  refine gx_vi ⟨hx, hb0, hml, hown, hts⟩ (gKC_keep _ _) hk hK hP hD hS 1 [.int r_3] [] (c_X2_keepUnlessError l dC dI P ad tb r_3 h_4 _ he) gm_X2_keepUnlessError im_yX2_keepUnlessError se_yX2_keepUnlessError ml_RX7_53 (by decide) (cE_t1 _) rfl rfl rfl ⟨Nat.le_of_ble_eq_true rfl, Nat.le_of_ble_eq_true rfl⟩ rfl hl.1 rfl (Nat.le_of_ble_eq_true rfl) dX7_set_24 ⟨Nat.zero_le _, Nat.zero_le _⟩ (fun r_5 h_6 he H locs hP hD hS => ?_)
  exact gx_iret hx hb0 hr hlocks hK hP hD hS he dX7_set_27
theorem gm_X7_set : gMeth yX7_set cX7_set 3 (some .int) 2 := ⟨⟨by decide, by decide, by decide +kernel⟩, ini_RX7, co_yX7_set⟩
abbrev rm_X7_star : Room := { frames := 4, cells := 0, slots := 0, locals := 81 }
set_option maxHeartbeats 4000000 in
set_option maxRecDepth 100000 in
theorem c_X7_star (l : Launch) (dC : Nat → ClassId) (dI : Nat → Nat → Nat) (P : gP) (ad : Nat → Nat) (tb : Nat → Nat) (x1 : Int32) (h0 : Hp) (Q : Int32 → Hp → Prop) (he : F_X7_star x1 h0 Q) : Met l yX7_star (Cond.code yX7_star cX7_star 2 (some .int) :: TB) rm_X7_star (gPc (dC, dI) vwCl (tyC P) 162 (cE P ad) ad (gKC tb (gA 162 ad)) h0 [.ref (ad 0), .int x1]) (gQi (dC, dI) vwCl (tyC P) 162 (cE P ad) ad Q) 0 0 (gA 162 ad) := by
  refine gx_start (by decide) (Nat.le_of_ble_eq_true rfl) (fun p e s m below meth c ls hx hb0 hr hlocks hml hown hts hK hk hP hD hS hl => ?_)
  have hl : lv_has ls 2 [(0, .ref (ad 0)), (1, .int x1)] := hl
  have hown : s.vm.findClass RX7 = some m.cls := hown
  unfold F_X7_star at he
  refine lv_aload_n hx hb0 dX7_star_0 rfl (lv_at hl 0 rfl) ?_
  refine gx_get hx hb0 hts in_RX7 hown hK hP 0 (by decide) (cE_t0 _) rfl 1 (by decide) fl_RX7_19 rfl dX7_star_1 ?_
  refine lv_aload_n hx hb0 dX7_star_4 rfl (lv_at hl 0 rfl) ?_
  refine gx_get hx hb0 hts in_RX7 hown hK hP 0 (by decide) (cE_t0 _) rfl 0 (by decide) fl_RX7_10 rfl dX7_star_5 ?_
  refine gx_vv ⟨hx, hb0, hml, hown, hts⟩ (gKC_keep _ _) hk hK hP hD hS 1 [.ref (ad 8)] [] (c_X2_hold l dC dI P ad tb 8 vb_8 h0 _ he) gm_X2_hold im_yX2_hold se_yX2_hold ml_RX7_45 (by decide) (cE_t1 _) rfl rfl rfl ⟨Nat.le_of_ble_eq_true rfl, Nat.le_of_ble_eq_true rfl⟩ rfl hl.1 rfl (Nat.le_of_ble_eq_true rfl) dX7_star_8 ⟨Nat.zero_le _, Nat.zero_le _⟩ (fun h_2 he H locs hP hD hS => ?_)
  refine lv_aload_n hx hb0 dX7_star_11 rfl (lv_at hl 0 rfl) ?_
  refine gx_get hx hb0 hts in_RX7 hown hK hP 0 (by decide) (cE_t0 _) rfl 1 (by decide) fl_RX7_19 rfl dX7_star_12 ?_
  refine lv_aload_n hx hb0 dX7_star_15 rfl (lv_at hl 0 rfl) ?_
  refine gx_get hx hb0 hts in_RX7 hown hK hP 0 (by decide) (cE_t0 _) rfl 0 (by decide) fl_RX7_10 rfl dX7_star_16 ?_
  refine lv_iload_n hx hb0 dX7_star_19 rfl (lv_at hl 1 rfl) ?_
  refine gx_vi ⟨hx, hb0, hml, hown, hts⟩ (gKC_keep _ _) hk hK hP hD hS 8 [.int x1] [.ref (ad 1)] (c_X6_addStar l dC dI P ad tb 8 vb_8 x1 h_2 _ he) gm_X6_addStar im_yX6_addStar se_yX6_addStar ml_RX7_57 (vb_lt0 vb_8) ((cE_0 vb_8) _) rfl rfl rfl ⟨Nat.le_of_ble_eq_true rfl, Nat.le_of_ble_eq_true rfl⟩ rfl hl.1 rfl (Nat.le_of_ble_eq_true rfl) dX7_star_20 ⟨Nat.zero_le _, Nat.zero_le _⟩ (fun r_3 h_4 he H locs hP hD hS => ?_)
  refine gx_vi ⟨hx, hb0, hml, hown, hts⟩ (gKC_keep _ _) hk hK hP hD hS 1 [.int r_3] [] (c_X2_keepUnlessError l dC dI P ad tb r_3 h_4 _ he) gm_X2_keepUnlessError im_yX2_keepUnlessError se_yX2_keepUnlessError ml_RX7_53 (by decide) (cE_t1 _) rfl rfl rfl ⟨Nat.le_of_ble_eq_true rfl, Nat.le_of_ble_eq_true rfl⟩ rfl hl.1 rfl (Nat.le_of_ble_eq_true rfl) dX7_star_23 ⟨Nat.zero_le _, Nat.zero_le _⟩ (fun r_5 h_6 he H locs hP hD hS => ?_)
  exact gx_iret hx hb0 hr hlocks hK hP hD hS he dX7_star_26
theorem gm_X7_star : gMeth yX7_star cX7_star 2 (some .int) 1 := ⟨⟨by decide, by decide, by decide +kernel⟩, ini_RX7, co_yX7_star⟩
abbrev rm_X7_cloud : Room := { frames := 4, cells := 0, slots := 0, locals := 81 }
set_option maxHeartbeats 4000000 in
set_option maxRecDepth 100000 in
theorem c_X7_cloud (l : Launch) (dC : Nat → ClassId) (dI : Nat → Nat → Nat) (P : gP) (ad : Nat → Nat) (tb : Nat → Nat) (x1 : Int32) (h0 : Hp) (Q : Int32 → Hp → Prop) (he : F_X7_cloud x1 h0 Q) : Met l yX7_cloud (Cond.code yX7_cloud cX7_cloud 2 (some .int) :: TB) rm_X7_cloud (gPc (dC, dI) vwCl (tyC P) 162 (cE P ad) ad (gKC tb (gA 162 ad)) h0 [.ref (ad 0), .int x1]) (gQi (dC, dI) vwCl (tyC P) 162 (cE P ad) ad Q) 0 0 (gA 162 ad) := by
  refine gx_start (by decide) (Nat.le_of_ble_eq_true rfl) (fun p e s m below meth c ls hx hb0 hr hlocks hml hown hts hK hk hP hD hS hl => ?_)
  have hl : lv_has ls 2 [(0, .ref (ad 0)), (1, .int x1)] := hl
  have hown : s.vm.findClass RX7 = some m.cls := hown
  unfold F_X7_cloud at he
  refine lv_aload_n hx hb0 dX7_cloud_0 rfl (lv_at hl 0 rfl) ?_
  refine gx_get hx hb0 hts in_RX7 hown hK hP 0 (by decide) (cE_t0 _) rfl 1 (by decide) fl_RX7_19 rfl dX7_cloud_1 ?_
  refine lv_aload_n hx hb0 dX7_cloud_4 rfl (lv_at hl 0 rfl) ?_
  refine gx_get hx hb0 hts in_RX7 hown hK hP 0 (by decide) (cE_t0 _) rfl 0 (by decide) fl_RX7_10 rfl dX7_cloud_5 ?_
  refine gx_vv ⟨hx, hb0, hml, hown, hts⟩ (gKC_keep _ _) hk hK hP hD hS 1 [.ref (ad 8)] [] (c_X2_hold l dC dI P ad tb 8 vb_8 h0 _ he) gm_X2_hold im_yX2_hold se_yX2_hold ml_RX7_45 (by decide) (cE_t1 _) rfl rfl rfl ⟨Nat.le_of_ble_eq_true rfl, Nat.le_of_ble_eq_true rfl⟩ rfl hl.1 rfl (Nat.le_of_ble_eq_true rfl) dX7_cloud_8 ⟨Nat.zero_le _, Nat.zero_le _⟩ (fun h_2 he H locs hP hD hS => ?_)
  refine lv_aload_n hx hb0 dX7_cloud_11 rfl (lv_at hl 0 rfl) ?_
  refine gx_get hx hb0 hts in_RX7 hown hK hP 0 (by decide) (cE_t0 _) rfl 1 (by decide) fl_RX7_19 rfl dX7_cloud_12 ?_
  refine lv_aload_n hx hb0 dX7_cloud_15 rfl (lv_at hl 0 rfl) ?_
  refine gx_get hx hb0 hts in_RX7 hown hK hP 0 (by decide) (cE_t0 _) rfl 0 (by decide) fl_RX7_10 rfl dX7_cloud_16 ?_
  refine lv_iload_n hx hb0 dX7_cloud_19 rfl (lv_at hl 1 rfl) ?_
  refine gx_vi ⟨hx, hb0, hml, hown, hts⟩ (gKC_keep _ _) hk hK hP hD hS 8 [.int x1] [.ref (ad 1)] (c_X6_turnCloud l dC dI P ad tb 8 vb_8 x1 h_2 _ he) gm_X6_turnCloud im_yX6_turnCloud se_yX6_turnCloud ml_RX7_60 (vb_lt0 vb_8) ((cE_0 vb_8) _) rfl rfl rfl ⟨Nat.le_of_ble_eq_true rfl, Nat.le_of_ble_eq_true rfl⟩ rfl hl.1 rfl (Nat.le_of_ble_eq_true rfl) dX7_cloud_20 ⟨Nat.zero_le _, Nat.zero_le _⟩ (fun r_3 h_4 he H locs hP hD hS => ?_)
  refine gx_vi ⟨hx, hb0, hml, hown, hts⟩ (gKC_keep _ _) hk hK hP hD hS 1 [.int r_3] [] (c_X2_keepUnlessError l dC dI P ad tb r_3 h_4 _ he) gm_X2_keepUnlessError im_yX2_keepUnlessError se_yX2_keepUnlessError ml_RX7_53 (by decide) (cE_t1 _) rfl rfl rfl ⟨Nat.le_of_ble_eq_true rfl, Nat.le_of_ble_eq_true rfl⟩ rfl hl.1 rfl (Nat.le_of_ble_eq_true rfl) dX7_cloud_23 ⟨Nat.zero_le _, Nat.zero_le _⟩ (fun r_5 h_6 he H locs hP hD hS => ?_)
  exact gx_iret hx hb0 hr hlocks hK hP hD hS he dX7_cloud_26
theorem gm_X7_cloud : gMeth yX7_cloud cX7_cloud 2 (some .int) 1 := ⟨⟨by decide, by decide, by decide +kernel⟩, ini_RX7, co_yX7_cloud⟩
abbrev rm_X7_navigator : Room := { frames := 4, cells := 0, slots := 0, locals := 81 }
set_option maxHeartbeats 4000000 in
set_option maxRecDepth 100000 in
theorem c_X7_navigator (l : Launch) (dC : Nat → ClassId) (dI : Nat → Nat → Nat) (P : gP) (ad : Nat → Nat) (tb : Nat → Nat) (x1 : Int32) (x2 : Int32) (x3 : Int32) (h0 : Hp) (Q : Int32 → Hp → Prop) (he : F_X7_navigator x1 x2 x3 h0 Q) : Met l yX7_navigator (Cond.code yX7_navigator cX7_navigator 4 (some .int) :: TB) rm_X7_navigator (gPc (dC, dI) vwCl (tyC P) 162 (cE P ad) ad (gKC tb (gA 162 ad)) h0 [.ref (ad 0), .int x1, .int x2, .int x3]) (gQi (dC, dI) vwCl (tyC P) 162 (cE P ad) ad Q) 0 0 (gA 162 ad) := by
  refine gx_start (by decide) (Nat.le_of_ble_eq_true rfl) (fun p e s m below meth c ls hx hb0 hr hlocks hml hown hts hK hk hP hD hS hl => ?_)
  have hl : lv_has ls 4 [(0, .ref (ad 0)), (1, .int x1), (2, .int x2), (3, .int x3)] := hl
  have hown : s.vm.findClass RX7 = some m.cls := hown
  unfold F_X7_navigator at he
  refine lv_aload_n hx hb0 dX7_navigator_0 rfl (lv_at hl 0 rfl) ?_
  refine gx_get hx hb0 hts in_RX7 hown hK hP 0 (by decide) (cE_t0 _) rfl 1 (by decide) fl_RX7_19 rfl dX7_navigator_1 ?_
  refine lv_aload_n hx hb0 dX7_navigator_4 rfl (lv_at hl 0 rfl) ?_
  refine gx_get hx hb0 hts in_RX7 hown hK hP 0 (by decide) (cE_t0 _) rfl 0 (by decide) fl_RX7_10 rfl dX7_navigator_5 ?_
  refine gx_vv ⟨hx, hb0, hml, hown, hts⟩ (gKC_keep _ _) hk hK hP hD hS 1 [.ref (ad 8)] [] (c_X2_hold l dC dI P ad tb 8 vb_8 h0 _ he) gm_X2_hold im_yX2_hold se_yX2_hold ml_RX7_45 (by decide) (cE_t1 _) rfl rfl rfl ⟨Nat.le_of_ble_eq_true rfl, Nat.le_of_ble_eq_true rfl⟩ rfl hl.1 rfl (Nat.le_of_ble_eq_true rfl) dX7_navigator_8 ⟨Nat.zero_le _, Nat.zero_le _⟩ (fun h_2 he H locs hP hD hS => ?_)
  refine lv_aload_n hx hb0 dX7_navigator_11 rfl (lv_at hl 0 rfl) ?_
  refine gx_get hx hb0 hts in_RX7 hown hK hP 0 (by decide) (cE_t0 _) rfl 1 (by decide) fl_RX7_19 rfl dX7_navigator_12 ?_
  refine lv_aload_n hx hb0 dX7_navigator_15 rfl (lv_at hl 0 rfl) ?_
  refine gx_get hx hb0 hts in_RX7 hown hK hP 0 (by decide) (cE_t0 _) rfl 0 (by decide) fl_RX7_10 rfl dX7_navigator_16 ?_
  refine lv_iload_n hx hb0 dX7_navigator_19 rfl (lv_at hl 1 rfl) ?_
  refine lv_iload_n hx hb0 dX7_navigator_20 rfl (lv_at hl 2 rfl) ?_
  refine lv_iload_n hx hb0 dX7_navigator_21 rfl (lv_at hl 3 rfl) ?_
  refine gx_vi ⟨hx, hb0, hml, hown, hts⟩ (gKC_keep _ _) hk hK hP hD hS 8 [.int x1, .int x2, .int x3] [.ref (ad 1)] (c_X6_changeNavigator l dC dI P ad tb 8 vb_8 x1 x2 x3 h_2 _ he) gm_X6_changeNavigator im_yX6_changeNavigator se_yX6_changeNavigator ml_RX7_63 (vb_lt0 vb_8) ((cE_0 vb_8) _) rfl rfl rfl ⟨Nat.le_of_ble_eq_true rfl, Nat.le_of_ble_eq_true rfl⟩ rfl hl.1 rfl (Nat.le_of_ble_eq_true rfl) dX7_navigator_22 ⟨Nat.zero_le _, Nat.zero_le _⟩ (fun r_3 h_4 he H locs hP hD hS => ?_)
  refine gx_vi ⟨hx, hb0, hml, hown, hts⟩ (gKC_keep _ _) hk hK hP hD hS 1 [.int r_3] [] (c_X2_keepUnlessError l dC dI P ad tb r_3 h_4 _ he) gm_X2_keepUnlessError im_yX2_keepUnlessError se_yX2_keepUnlessError ml_RX7_53 (by decide) (cE_t1 _) rfl rfl rfl ⟨Nat.le_of_ble_eq_true rfl, Nat.le_of_ble_eq_true rfl⟩ rfl hl.1 rfl (Nat.le_of_ble_eq_true rfl) dX7_navigator_25 ⟨Nat.zero_le _, Nat.zero_le _⟩ (fun r_5 h_6 he H locs hP hD hS => ?_)
  exact gx_iret hx hb0 hr hlocks hK hP hD hS he dX7_navigator_28
theorem gm_X7_navigator : gMeth yX7_navigator cX7_navigator 4 (some .int) 3 := ⟨⟨by decide, by decide, by decide +kernel⟩, ini_RX7, co_yX7_navigator⟩
abbrev rm_X7_sleep : Room := { frames := 4, cells := 0, slots := 0, locals := 81 }
set_option maxHeartbeats 4000000 in
set_option maxRecDepth 100000 in
theorem c_X7_sleep (l : Launch) (dC : Nat → ClassId) (dI : Nat → Nat → Nat) (P : gP) (ad : Nat → Nat) (tb : Nat → Nat) (x1 : Int32) (h0 : Hp) (Q : Int32 → Hp → Prop) (he : F_X7_sleep x1 h0 Q) : Met l yX7_sleep (Cond.code yX7_sleep cX7_sleep 2 (some .int) :: TB) rm_X7_sleep (gPc (dC, dI) vwCl (tyC P) 162 (cE P ad) ad (gKC tb (gA 162 ad)) h0 [.ref (ad 0), .int x1]) (gQi (dC, dI) vwCl (tyC P) 162 (cE P ad) ad Q) 0 0 (gA 162 ad) := by
  refine gx_start (by decide) (Nat.le_of_ble_eq_true rfl) (fun p e s m below meth c ls hx hb0 hr hlocks hml hown hts hK hk hP hD hS hl => ?_)
  have hl : lv_has ls 2 [(0, .ref (ad 0)), (1, .int x1)] := hl
  have hown : s.vm.findClass RX7 = some m.cls := hown
  unfold F_X7_sleep at he
  refine lv_aload_n hx hb0 dX7_sleep_0 rfl (lv_at hl 0 rfl) ?_
  refine gx_get hx hb0 hts in_RX7 hown hK hP 0 (by decide) (cE_t0 _) rfl 1 (by decide) fl_RX7_19 rfl dX7_sleep_1 ?_
  refine lv_aload_n hx hb0 dX7_sleep_4 rfl (lv_at hl 0 rfl) ?_
  refine gx_get hx hb0 hts in_RX7 hown hK hP 0 (by decide) (cE_t0 _) rfl 0 (by decide) fl_RX7_10 rfl dX7_sleep_5 ?_
  refine gx_vv ⟨hx, hb0, hml, hown, hts⟩ (gKC_keep _ _) hk hK hP hD hS 1 [.ref (ad 8)] [] (c_X2_hold l dC dI P ad tb 8 vb_8 h0 _ he) gm_X2_hold im_yX2_hold se_yX2_hold ml_RX7_45 (by decide) (cE_t1 _) rfl rfl rfl ⟨Nat.le_of_ble_eq_true rfl, Nat.le_of_ble_eq_true rfl⟩ rfl hl.1 rfl (Nat.le_of_ble_eq_true rfl) dX7_sleep_8 ⟨Nat.zero_le _, Nat.zero_le _⟩ (fun h_2 he H locs hP hD hS => ?_)
  refine lv_aload_n hx hb0 dX7_sleep_11 rfl (lv_at hl 0 rfl) ?_
  refine gx_get hx hb0 hts in_RX7 hown hK hP 0 (by decide) (cE_t0 _) rfl 1 (by decide) fl_RX7_19 rfl dX7_sleep_12 ?_
  refine lv_aload_n hx hb0 dX7_sleep_15 rfl (lv_at hl 0 rfl) ?_
  refine gx_get hx hb0 hts in_RX7 hown hK hP 0 (by decide) (cE_t0 _) rfl 0 (by decide) fl_RX7_10 rfl dX7_sleep_16 ?_
  refine lv_iload_n hx hb0 dX7_sleep_19 rfl (lv_at hl 1 rfl) ?_
  refine gx_vi ⟨hx, hb0, hml, hown, hts⟩ (gKC_keep _ _) hk hK hP hD hS 8 [.int x1] [.ref (ad 1)] (c_X6_turnSleep l dC dI P ad tb 8 vb_8 x1 h_2 _ he) gm_X6_turnSleep im_yX6_turnSleep se_yX6_turnSleep ml_RX7_67 (vb_lt0 vb_8) ((cE_0 vb_8) _) rfl rfl rfl ⟨Nat.le_of_ble_eq_true rfl, Nat.le_of_ble_eq_true rfl⟩ rfl hl.1 rfl (Nat.le_of_ble_eq_true rfl) dX7_sleep_20 ⟨Nat.zero_le _, Nat.zero_le _⟩ (fun r_3 h_4 he H locs hP hD hS => ?_)
  refine gx_vi ⟨hx, hb0, hml, hown, hts⟩ (gKC_keep _ _) hk hK hP hD hS 1 [.int r_3] [] (c_X2_keepUnlessError l dC dI P ad tb r_3 h_4 _ he) gm_X2_keepUnlessError im_yX2_keepUnlessError se_yX2_keepUnlessError ml_RX7_53 (by decide) (cE_t1 _) rfl rfl rfl ⟨Nat.le_of_ble_eq_true rfl, Nat.le_of_ble_eq_true rfl⟩ rfl hl.1 rfl (Nat.le_of_ble_eq_true rfl) dX7_sleep_23 ⟨Nat.zero_le _, Nat.zero_le _⟩ (fun r_5 h_6 he H locs hP hD hS => ?_)
  exact gx_iret hx hb0 hr hlocks hK hP hD hS he dX7_sleep_26
theorem gm_X7_sleep : gMeth yX7_sleep cX7_sleep 2 (some .int) 1 := ⟨⟨by decide, by decide, by decide +kernel⟩, ini_RX7, co_yX7_sleep⟩
abbrev rm_X7_goal : Room := { frames := 4, cells := 0, slots := 0, locals := 81 }
set_option maxHeartbeats 4000000 in
set_option maxRecDepth 100000 in
theorem c_X7_goal (l : Launch) (dC : Nat → ClassId) (dI : Nat → Nat → Nat) (P : gP) (ad : Nat → Nat) (tb : Nat → Nat) (x1 : Int32) (h0 : Hp) (Q : Int32 → Hp → Prop) (he : F_X7_goal x1 h0 Q) : Met l yX7_goal (Cond.code yX7_goal cX7_goal 2 (some .int) :: TB) rm_X7_goal (gPc (dC, dI) vwCl (tyC P) 162 (cE P ad) ad (gKC tb (gA 162 ad)) h0 [.ref (ad 0), .int x1]) (gQi (dC, dI) vwCl (tyC P) 162 (cE P ad) ad Q) 0 0 (gA 162 ad) := by
  refine gx_start (by decide) (Nat.le_of_ble_eq_true rfl) (fun p e s m below meth c ls hx hb0 hr hlocks hml hown hts hK hk hP hD hS hl => ?_)
  have hl : lv_has ls 2 [(0, .ref (ad 0)), (1, .int x1)] := hl
  have hown : s.vm.findClass RX7 = some m.cls := hown
  unfold F_X7_goal at he
  refine lv_aload_n hx hb0 dX7_goal_0 rfl (lv_at hl 0 rfl) ?_
  refine gx_get hx hb0 hts in_RX7 hown hK hP 0 (by decide) (cE_t0 _) rfl 1 (by decide) fl_RX7_19 rfl dX7_goal_1 ?_
  refine lv_aload_n hx hb0 dX7_goal_4 rfl (lv_at hl 0 rfl) ?_
  refine gx_get hx hb0 hts in_RX7 hown hK hP 0 (by decide) (cE_t0 _) rfl 0 (by decide) fl_RX7_10 rfl dX7_goal_5 ?_
  refine gx_vv ⟨hx, hb0, hml, hown, hts⟩ (gKC_keep _ _) hk hK hP hD hS 1 [.ref (ad 8)] [] (c_X2_hold l dC dI P ad tb 8 vb_8 h0 _ he) gm_X2_hold im_yX2_hold se_yX2_hold ml_RX7_45 (by decide) (cE_t1 _) rfl rfl rfl ⟨Nat.le_of_ble_eq_true rfl, Nat.le_of_ble_eq_true rfl⟩ rfl hl.1 rfl (Nat.le_of_ble_eq_true rfl) dX7_goal_8 ⟨Nat.zero_le _, Nat.zero_le _⟩ (fun h_2 he H locs hP hD hS => ?_)
  refine lv_aload_n hx hb0 dX7_goal_11 rfl (lv_at hl 0 rfl) ?_
  refine gx_get hx hb0 hts in_RX7 hown hK hP 0 (by decide) (cE_t0 _) rfl 1 (by decide) fl_RX7_19 rfl dX7_goal_12 ?_
  refine lv_aload_n hx hb0 dX7_goal_15 rfl (lv_at hl 0 rfl) ?_
  refine gx_get hx hb0 hts in_RX7 hown hK hP 0 (by decide) (cE_t0 _) rfl 0 (by decide) fl_RX7_10 rfl dX7_goal_16 ?_
  refine lv_iload_n hx hb0 dX7_goal_19 rfl (lv_at hl 1 rfl) ?_
  refine gx_vi ⟨hx, hb0, hml, hown, hts⟩ (gKC_keep _ _) hk hK hP hD hS 8 [.int x1] [.ref (ad 1)] (c_X6_changeGoal l dC dI P ad tb 8 vb_8 x1 h_2 _ he) gm_X6_changeGoal im_yX6_changeGoal se_yX6_changeGoal ml_RX7_70 (vb_lt0 vb_8) ((cE_0 vb_8) _) rfl rfl rfl ⟨Nat.le_of_ble_eq_true rfl, Nat.le_of_ble_eq_true rfl⟩ rfl hl.1 rfl (Nat.le_of_ble_eq_true rfl) dX7_goal_20 ⟨Nat.zero_le _, Nat.zero_le _⟩ (fun r_3 h_4 he H locs hP hD hS => ?_)
  refine gx_vi ⟨hx, hb0, hml, hown, hts⟩ (gKC_keep _ _) hk hK hP hD hS 1 [.int r_3] [] (c_X2_keepUnlessError l dC dI P ad tb r_3 h_4 _ he) gm_X2_keepUnlessError im_yX2_keepUnlessError se_yX2_keepUnlessError ml_RX7_53 (by decide) (cE_t1 _) rfl rfl rfl ⟨Nat.le_of_ble_eq_true rfl, Nat.le_of_ble_eq_true rfl⟩ rfl hl.1 rfl (Nat.le_of_ble_eq_true rfl) dX7_goal_23 ⟨Nat.zero_le _, Nat.zero_le _⟩ (fun r_5 h_6 he H locs hP hD hS => ?_)
  exact gx_iret hx hb0 hr hlocks hK hP hD hS he dX7_goal_26
theorem gm_X7_goal : gMeth yX7_goal cX7_goal 2 (some .int) 1 := ⟨⟨by decide, by decide, by decide +kernel⟩, ini_RX7, co_yX7_goal⟩
abbrev rm_X7_sight : Room := { frames := 5, cells := 0, slots := 0, locals := 106 }
set_option maxHeartbeats 4000000 in
set_option maxRecDepth 100000 in
theorem c_X7_sight (l : Launch) (dC : Nat → ClassId) (dI : Nat → Nat → Nat) (P : gP) (ad : Nat → Nat) (tb : Nat → Nat) (x1 : Int32) (x2 : Int32) (h0 : Hp) (Q : Int32 → Hp → Prop) (he : F_X7_sight x1 x2 h0 Q) : Met l yX7_sight (Cond.code yX7_sight cX7_sight 3 (some .int) :: TB) rm_X7_sight (gPc (dC, dI) vwCl (tyC P) 162 (cE P ad) ad (gKC tb (gA 162 ad)) h0 [.ref (ad 0), .int x1, .int x2]) (gQi (dC, dI) vwCl (tyC P) 162 (cE P ad) ad Q) 0 0 (gA 162 ad) := by
  refine gx_start (by decide) (Nat.le_of_ble_eq_true rfl) (fun p e s m below meth c ls hx hb0 hr hlocks hml hown hts hK hk hP hD hS hl => ?_)
  have hl : lv_has ls 3 [(0, .ref (ad 0)), (1, .int x1), (2, .int x2)] := hl
  have hown : s.vm.findClass RX7 = some m.cls := hown
  unfold F_X7_sight at he
  refine lv_aload_n hx hb0 dX7_sight_0 rfl (lv_at hl 0 rfl) ?_
  refine gx_get hx hb0 hts in_RX7 hown hK hP 0 (by decide) (cE_t0 _) rfl 1 (by decide) fl_RX7_19 rfl dX7_sight_1 ?_
  refine lv_aload_n hx hb0 dX7_sight_4 rfl (lv_at hl 0 rfl) ?_
  refine gx_get hx hb0 hts in_RX7 hown hK hP 0 (by decide) (cE_t0 _) rfl 0 (by decide) fl_RX7_10 rfl dX7_sight_5 ?_
  refine gx_vv ⟨hx, hb0, hml, hown, hts⟩ (gKC_keep _ _) hk hK hP hD hS 1 [.ref (ad 8)] [] (c_X2_hold l dC dI P ad tb 8 vb_8 h0 _ he) gm_X2_hold im_yX2_hold se_yX2_hold ml_RX7_45 (by decide) (cE_t1 _) rfl rfl rfl ⟨Nat.le_of_ble_eq_true rfl, Nat.le_of_ble_eq_true rfl⟩ rfl hl.1 rfl (Nat.le_of_ble_eq_true rfl) dX7_sight_8 ⟨Nat.zero_le _, Nat.zero_le _⟩ (fun h_2 he H locs hP hD hS => ?_)
  refine lv_aload_n hx hb0 dX7_sight_11 rfl (lv_at hl 0 rfl) ?_
  refine gx_get hx hb0 hts in_RX7 hown hK hP 0 (by decide) (cE_t0 _) rfl 1 (by decide) fl_RX7_19 rfl dX7_sight_12 ?_
  refine lv_aload_n hx hb0 dX7_sight_15 rfl (lv_at hl 0 rfl) ?_
  refine gx_get hx hb0 hts in_RX7 hown hK hP 0 (by decide) (cE_t0 _) rfl 0 (by decide) fl_RX7_10 rfl dX7_sight_16 ?_
  refine lv_iload_n hx hb0 dX7_sight_19 rfl (lv_at hl 1 rfl) ?_
  refine lv_iload_n hx hb0 dX7_sight_20 rfl (lv_at hl 2 rfl) ?_
  refine gx_vi ⟨hx, hb0, hml, hown, hts⟩ (gKC_keep _ _) hk hK hP hD hS 8 [.int x1, .int x2] [.ref (ad 1)] (c_X6_takeSight l dC dI P ad tb 8 vb_8 x1 x2 h_2 _ he) gm_X6_takeSight im_yX6_takeSight se_yX6_takeSight ml_RX7_73 (vb_lt0 vb_8) ((cE_0 vb_8) _) rfl rfl rfl ⟨Nat.le_of_ble_eq_true rfl, Nat.le_of_ble_eq_true rfl⟩ rfl hl.1 rfl (Nat.le_of_ble_eq_true rfl) dX7_sight_21 ⟨Nat.zero_le _, Nat.zero_le _⟩ (fun r_3 h_4 he H locs hP hD hS => ?_)
  refine gx_vi ⟨hx, hb0, hml, hown, hts⟩ (gKC_keep _ _) hk hK hP hD hS 1 [.int r_3] [] (c_X2_keepUnlessError l dC dI P ad tb r_3 h_4 _ he) gm_X2_keepUnlessError im_yX2_keepUnlessError se_yX2_keepUnlessError ml_RX7_53 (by decide) (cE_t1 _) rfl rfl rfl ⟨Nat.le_of_ble_eq_true rfl, Nat.le_of_ble_eq_true rfl⟩ rfl hl.1 rfl (Nat.le_of_ble_eq_true rfl) dX7_sight_24 ⟨Nat.zero_le _, Nat.zero_le _⟩ (fun r_5 h_6 he H locs hP hD hS => ?_)
  exact gx_iret hx hb0 hr hlocks hK hP hD hS he dX7_sight_27
theorem gm_X7_sight : gMeth yX7_sight cX7_sight 3 (some .int) 2 := ⟨⟨by decide, by decide, by decide +kernel⟩, ini_RX7, co_yX7_sight⟩
abbrev rm_X7_agree : Room := { frames := 4, cells := 0, slots := 0, locals := 90 }
set_option maxHeartbeats 4000000 in
set_option maxRecDepth 100000 in
theorem c_X7_agree (l : Launch) (dC : Nat → ClassId) (dI : Nat → Nat → Nat) (P : gP) (ad : Nat → Nat) (tb : Nat → Nat) (h0 : Hp) (Q : Int32 → Hp → Prop) (he : F_X7_agree  h0 Q) : Met l yX7_agree (Cond.code yX7_agree cX7_agree 1 (some .int) :: TB) rm_X7_agree (gPc (dC, dI) vwCl (tyC P) 162 (cE P ad) ad (gKC tb (gA 162 ad)) h0 [.ref (ad 0)]) (gQi (dC, dI) vwCl (tyC P) 162 (cE P ad) ad Q) 0 0 (gA 162 ad) := by
  refine gx_start (by decide) (Nat.le_of_ble_eq_true rfl) (fun p e s m below meth c ls hx hb0 hr hlocks hml hown hts hK hk hP hD hS hl => ?_)
  have hl : lv_has ls 1 [(0, .ref (ad 0))] := hl
  have hown : s.vm.findClass RX7 = some m.cls := hown
  unfold F_X7_agree at he
  refine lv_aload_n hx hb0 dX7_agree_0 rfl (lv_at hl 0 rfl) ?_
  refine gx_get hx hb0 hts in_RX7 hown hK hP 0 (by decide) (cE_t0 _) rfl 1 (by decide) fl_RX7_19 rfl dX7_agree_1 ?_
  refine lv_aload_n hx hb0 dX7_agree_4 rfl (lv_at hl 0 rfl) ?_
  refine gx_get hx hb0 hts in_RX7 hown hK hP 0 (by decide) (cE_t0 _) rfl 0 (by decide) fl_RX7_10 rfl dX7_agree_5 ?_
  refine gx_vv ⟨hx, hb0, hml, hown, hts⟩ (gKC_keep _ _) hk hK hP hD hS 1 [.ref (ad 8)] [] (c_X2_hold l dC dI P ad tb 8 vb_8 h0 _ he) gm_X2_hold im_yX2_hold se_yX2_hold ml_RX7_45 (by decide) (cE_t1 _) rfl rfl rfl ⟨Nat.le_of_ble_eq_true rfl, Nat.le_of_ble_eq_true rfl⟩ rfl hl.1 rfl (Nat.le_of_ble_eq_true rfl) dX7_agree_8 ⟨Nat.zero_le _, Nat.zero_le _⟩ (fun h_2 he H locs hP hD hS => ?_)
  refine lv_aload_n hx hb0 dX7_agree_11 rfl (lv_at hl 0 rfl) ?_
  refine gx_get hx hb0 hts in_RX7 hown hK hP 0 (by decide) (cE_t0 _) rfl 1 (by decide) fl_RX7_19 rfl dX7_agree_12 ?_
  refine lv_aload_n hx hb0 dX7_agree_15 rfl (lv_at hl 0 rfl) ?_
  refine gx_get hx hb0 hts in_RX7 hown hK hP 0 (by decide) (cE_t0 _) rfl 0 (by decide) fl_RX7_10 rfl dX7_agree_16 ?_
  refine gx_vi ⟨hx, hb0, hml, hown, hts⟩ (gKC_keep _ _) hk hK hP hD hS 8 [] [.ref (ad 1)] (c_X6_agreeOnMedian l dC dI P ad tb 8 vb_8 h_2 _ he) gm_X6_agreeOnMedian im_yX6_agreeOnMedian se_yX6_agreeOnMedian ml_RX7_76 (vb_lt0 vb_8) ((cE_0 vb_8) _) rfl rfl rfl ⟨Nat.le_of_ble_eq_true rfl, Nat.le_of_ble_eq_true rfl⟩ rfl hl.1 rfl (Nat.le_of_ble_eq_true rfl) dX7_agree_19 ⟨Nat.zero_le _, Nat.zero_le _⟩ (fun r_3 h_4 he H locs hP hD hS => ?_)
  refine gx_vi ⟨hx, hb0, hml, hown, hts⟩ (gKC_keep _ _) hk hK hP hD hS 1 [.int r_3] [] (c_X2_keepUnlessError l dC dI P ad tb r_3 h_4 _ he) gm_X2_keepUnlessError im_yX2_keepUnlessError se_yX2_keepUnlessError ml_RX7_53 (by decide) (cE_t1 _) rfl rfl rfl ⟨Nat.le_of_ble_eq_true rfl, Nat.le_of_ble_eq_true rfl⟩ rfl hl.1 rfl (Nat.le_of_ble_eq_true rfl) dX7_agree_22 ⟨Nat.zero_le _, Nat.zero_le _⟩ (fun r_5 h_6 he H locs hP hD hS => ?_)
  exact gx_iret hx hb0 hr hlocks hK hP hD hS he dX7_agree_25
theorem gm_X7_agree : gMeth yX7_agree cX7_agree 1 (some .int) 0 := ⟨⟨by decide, by decide, by decide +kernel⟩, ini_RX7, co_yX7_agree⟩
abbrev rm_X7_sail : Room := { frames := 4, cells := 0, slots := 0, locals := 81 }
set_option maxHeartbeats 4000000 in
set_option maxRecDepth 100000 in
theorem c_X7_sail (l : Launch) (dC : Nat → ClassId) (dI : Nat → Nat → Nat) (P : gP) (ad : Nat → Nat) (tb : Nat → Nat) (x1 : Int32) (h0 : Hp) (Q : Int32 → Hp → Prop) (he : F_X7_sail x1 h0 Q) : Met l yX7_sail (Cond.code yX7_sail cX7_sail 2 (some .int) :: TB) rm_X7_sail (gPc (dC, dI) vwCl (tyC P) 162 (cE P ad) ad (gKC tb (gA 162 ad)) h0 [.ref (ad 0), .int x1]) (gQi (dC, dI) vwCl (tyC P) 162 (cE P ad) ad Q) 0 0 (gA 162 ad) := by
  refine gx_start (by decide) (Nat.le_of_ble_eq_true rfl) (fun p e s m below meth c ls hx hb0 hr hlocks hml hown hts hK hk hP hD hS hl => ?_)
  have hl : lv_has ls 2 [(0, .ref (ad 0)), (1, .int x1)] := hl
  have hown : s.vm.findClass RX7 = some m.cls := hown
  unfold F_X7_sail at he
  refine lv_aload_n hx hb0 dX7_sail_0 rfl (lv_at hl 0 rfl) ?_
  refine gx_get hx hb0 hts in_RX7 hown hK hP 0 (by decide) (cE_t0 _) rfl 1 (by decide) fl_RX7_19 rfl dX7_sail_1 ?_
  refine lv_aload_n hx hb0 dX7_sail_4 rfl (lv_at hl 0 rfl) ?_
  refine gx_get hx hb0 hts in_RX7 hown hK hP 0 (by decide) (cE_t0 _) rfl 0 (by decide) fl_RX7_10 rfl dX7_sail_5 ?_
  refine gx_vv ⟨hx, hb0, hml, hown, hts⟩ (gKC_keep _ _) hk hK hP hD hS 1 [.ref (ad 8)] [] (c_X2_hold l dC dI P ad tb 8 vb_8 h0 _ he) gm_X2_hold im_yX2_hold se_yX2_hold ml_RX7_45 (by decide) (cE_t1 _) rfl rfl rfl ⟨Nat.le_of_ble_eq_true rfl, Nat.le_of_ble_eq_true rfl⟩ rfl hl.1 rfl (Nat.le_of_ble_eq_true rfl) dX7_sail_8 ⟨Nat.zero_le _, Nat.zero_le _⟩ (fun h_2 he H locs hP hD hS => ?_)
  refine lv_aload_n hx hb0 dX7_sail_11 rfl (lv_at hl 0 rfl) ?_
  refine gx_get hx hb0 hts in_RX7 hown hK hP 0 (by decide) (cE_t0 _) rfl 1 (by decide) fl_RX7_19 rfl dX7_sail_12 ?_
  refine lv_aload_n hx hb0 dX7_sail_15 rfl (lv_at hl 0 rfl) ?_
  refine gx_get hx hb0 hts in_RX7 hown hK hP 0 (by decide) (cE_t0 _) rfl 0 (by decide) fl_RX7_10 rfl dX7_sail_16 ?_
  refine lv_iload_n hx hb0 dX7_sail_19 rfl (lv_at hl 1 rfl) ?_
  refine gx_vi ⟨hx, hb0, hml, hown, hts⟩ (gKC_keep _ _) hk hK hP hD hS 8 [.int x1] [.ref (ad 1)] (c_X6_sailHours l dC dI P ad tb 8 vb_8 x1 h_2 _ he) gm_X6_sailHours im_yX6_sailHours se_yX6_sailHours ml_RX7_80 (vb_lt0 vb_8) ((cE_0 vb_8) _) rfl rfl rfl ⟨Nat.le_of_ble_eq_true rfl, Nat.le_of_ble_eq_true rfl⟩ rfl hl.1 rfl (Nat.le_of_ble_eq_true rfl) dX7_sail_20 ⟨Nat.zero_le _, Nat.zero_le _⟩ (fun r_3 h_4 he H locs hP hD hS => ?_)
  refine gx_vi ⟨hx, hb0, hml, hown, hts⟩ (gKC_keep _ _) hk hK hP hD hS 1 [.int r_3] [] (c_X2_keepUnlessError l dC dI P ad tb r_3 h_4 _ he) gm_X2_keepUnlessError im_yX2_keepUnlessError se_yX2_keepUnlessError ml_RX7_53 (by decide) (cE_t1 _) rfl rfl rfl ⟨Nat.le_of_ble_eq_true rfl, Nat.le_of_ble_eq_true rfl⟩ rfl hl.1 rfl (Nat.le_of_ble_eq_true rfl) dX7_sail_23 ⟨Nat.zero_le _, Nat.zero_le _⟩ (fun r_5 h_6 he H locs hP hD hS => ?_)
  exact gx_iret hx hb0 hr hlocks hK hP hD hS he dX7_sail_26
theorem gm_X7_sail : gMeth yX7_sail cX7_sail 2 (some .int) 1 := ⟨⟨by decide, by decide, by decide +kernel⟩, ini_RX7, co_yX7_sail⟩
abbrev rm_X7_night : Room := { frames := 4, cells := 0, slots := 0, locals := 81 }
set_option maxHeartbeats 4000000 in
set_option maxRecDepth 100000 in
theorem c_X7_night (l : Launch) (dC : Nat → ClassId) (dI : Nat → Nat → Nat) (P : gP) (ad : Nat → Nat) (tb : Nat → Nat) (h0 : Hp) (Q : Int32 → Hp → Prop) (he : F_X7_night  h0 Q) : Met l yX7_night (Cond.code yX7_night cX7_night 1 (some .int) :: TB) rm_X7_night (gPc (dC, dI) vwCl (tyC P) 162 (cE P ad) ad (gKC tb (gA 162 ad)) h0 [.ref (ad 0)]) (gQi (dC, dI) vwCl (tyC P) 162 (cE P ad) ad Q) 0 0 (gA 162 ad) := by
  refine gx_start (by decide) (Nat.le_of_ble_eq_true rfl) (fun p e s m below meth c ls hx hb0 hr hlocks hml hown hts hK hk hP hD hS hl => ?_)
  have hl : lv_has ls 1 [(0, .ref (ad 0))] := hl
  have hown : s.vm.findClass RX7 = some m.cls := hown
  unfold F_X7_night at he
  refine lv_aload_n hx hb0 dX7_night_0 rfl (lv_at hl 0 rfl) ?_
  refine gx_get hx hb0 hts in_RX7 hown hK hP 0 (by decide) (cE_t0 _) rfl 1 (by decide) fl_RX7_19 rfl dX7_night_1 ?_
  refine lv_aload_n hx hb0 dX7_night_4 rfl (lv_at hl 0 rfl) ?_
  refine gx_get hx hb0 hts in_RX7 hown hK hP 0 (by decide) (cE_t0 _) rfl 0 (by decide) fl_RX7_10 rfl dX7_night_5 ?_
  refine gx_vv ⟨hx, hb0, hml, hown, hts⟩ (gKC_keep _ _) hk hK hP hD hS 1 [.ref (ad 8)] [] (c_X2_hold l dC dI P ad tb 8 vb_8 h0 _ he) gm_X2_hold im_yX2_hold se_yX2_hold ml_RX7_45 (by decide) (cE_t1 _) rfl rfl rfl ⟨Nat.le_of_ble_eq_true rfl, Nat.le_of_ble_eq_true rfl⟩ rfl hl.1 rfl (Nat.le_of_ble_eq_true rfl) dX7_night_8 ⟨Nat.zero_le _, Nat.zero_le _⟩ (fun h_2 he H locs hP hD hS => ?_)
  refine lv_aload_n hx hb0 dX7_night_11 rfl (lv_at hl 0 rfl) ?_
  refine gx_get hx hb0 hts in_RX7 hown hK hP 0 (by decide) (cE_t0 _) rfl 1 (by decide) fl_RX7_19 rfl dX7_night_12 ?_
  refine lv_aload_n hx hb0 dX7_night_15 rfl (lv_at hl 0 rfl) ?_
  refine gx_get hx hb0 hts in_RX7 hown hK hP 0 (by decide) (cE_t0 _) rfl 0 (by decide) fl_RX7_10 rfl dX7_night_16 ?_
  refine gx_vi ⟨hx, hb0, hml, hown, hts⟩ (gKC_keep _ _) hk hK hP hD hS 8 [] [.ref (ad 1)] (c_X6_endNight l dC dI P ad tb 8 vb_8 h_2 _ he) gm_X6_endNight im_yX6_endNight se_yX6_endNight ml_RX7_83 (vb_lt0 vb_8) ((cE_0 vb_8) _) rfl rfl rfl ⟨Nat.le_of_ble_eq_true rfl, Nat.le_of_ble_eq_true rfl⟩ rfl hl.1 rfl (Nat.le_of_ble_eq_true rfl) dX7_night_19 ⟨Nat.zero_le _, Nat.zero_le _⟩ (fun r_3 h_4 he H locs hP hD hS => ?_)
  refine gx_vi ⟨hx, hb0, hml, hown, hts⟩ (gKC_keep _ _) hk hK hP hD hS 1 [.int r_3] [] (c_X2_keepUnlessError l dC dI P ad tb r_3 h_4 _ he) gm_X2_keepUnlessError im_yX2_keepUnlessError se_yX2_keepUnlessError ml_RX7_53 (by decide) (cE_t1 _) rfl rfl rfl ⟨Nat.le_of_ble_eq_true rfl, Nat.le_of_ble_eq_true rfl⟩ rfl hl.1 rfl (Nat.le_of_ble_eq_true rfl) dX7_night_22 ⟨Nat.zero_le _, Nat.zero_le _⟩ (fun r_5 h_6 he H locs hP hD hS => ?_)
  exact gx_iret hx hb0 hr hlocks hK hP hD hS he dX7_night_25
theorem gm_X7_night : gMeth yX7_night cX7_night 1 (some .int) 0 := ⟨⟨by decide, by decide, by decide +kernel⟩, ini_RX7, co_yX7_night⟩
abbrev rm_X7_of : Room := { frames := 2, cells := 0, slots := 0, locals := 44 }
set_option maxHeartbeats 4000000 in
set_option maxRecDepth 100000 in
theorem c_X7_of (l : Launch) (dC : Nat → ClassId) (dI : Nat → Nat → Nat) (P : gP) (ad : Nat → Nat) (tb : Nat → Nat) (x1 : Int32) (x2 : Int32) (h0 : Hp) (Q : Int32 → Hp → Prop) (he : F_X7_of x1 x2 h0 Q) : Met l yX7_of (Cond.code yX7_of cX7_of 3 (some .int) :: TB) rm_X7_of (gPc (dC, dI) vwCl (tyC P) 162 (cE P ad) ad (gKC tb (gA 162 ad)) h0 [.ref (ad 0), .int x1, .int x2]) (gQi (dC, dI) vwCl (tyC P) 162 (cE P ad) ad Q) 0 0 (gA 162 ad) := by
  refine gx_start (by decide) (Nat.le_of_ble_eq_true rfl) (fun p e s m below meth c ls hx hb0 hr hlocks hml hown hts hK hk hP hD hS hl => ?_)
  have hl : lv_has ls 3 [(0, .ref (ad 0)), (1, .int x1), (2, .int x2)] := hl
  have hown : s.vm.findClass RX7 = some m.cls := hown
  unfold F_X7_of at he
  refine lv_iload_n hx hb0 dX7_of_0 rfl (lv_at hl 1 rfl) ?_
  refine gx_si ⟨hx, hb0, hml, hown, hts⟩ (gKC_keep _ _) hk hK hP hD hS [.int x1] [] (c_X7_isNavigator l dC dI P ad tb x1 h0 _ he) gm_X7_isNavigator st_yX7_isNavigator ml_RX7_86 rfl rfl ⟨Nat.le_of_ble_eq_true rfl, Nat.le_of_ble_eq_true rfl⟩ rfl hl.1 rfl (Nat.le_of_ble_eq_true rfl) dX7_of_1 ⟨Nat.zero_le _, Nat.zero_le _⟩ (fun r_1 h_2 he H locs hP hD hS => ?_)
  refine lv_if_eq (tgt := 22) hx hb0 dX7_of_4 (by decide) (fun c_3 => ?_) (fun c_3 => ?_)
  · have he := he.1 c_3
    refine lv_iconst (v := (-1 : Int32)) hx hb0 dX7_of_22 (by decide) ?_
    exact gx_iret hx hb0 hr hlocks hK hP hD hS he dX7_of_23
  · have he := he.2 c_3
    refine lv_aload_n hx hb0 dX7_of_7 rfl (lv_at hl 0 rfl) ?_
    refine gx_get hx hb0 hts in_RX7 hown hK hP 0 (by decide) (cE_t0 _) rfl 0 (by decide) fl_RX7_10 rfl dX7_of_8 ?_
    refine gx_get hx hb0 hts in_RX6 hown hK hP 8 (vb_lt0 vb_8) ((cE_0 vb_8) _) rfl 2 (by decide) fl_RX7_90 rfl dX7_of_11 ?_
    refine lv_iload_n hx hb0 dX7_of_14 rfl (lv_at hl 1 rfl) ?_
    refine lv_iload_n hx hb0 dX7_of_15 rfl (lv_at hl 2 rfl) ?_
    refine gx_vi ⟨hx, hb0, hml, hown, hts⟩ (gKC_keep _ _) hk hK hP hD hS (8 + 4) [.int x1, .int x2] [] (c_X1_factOf l dC dI P ad tb 8 vb_8 x1 x2 h_2 _ he) gm_X1_factOf im_yX1_factOf se_yX1_factOf ml_RX7_94 (vb_lt vb_8 (by decide)) ((cE_4 vb_8) _) rfl rfl rfl ⟨Nat.le_of_ble_eq_true rfl, Nat.le_of_ble_eq_true rfl⟩ rfl hl.1 rfl (Nat.le_of_ble_eq_true rfl) dX7_of_16 ⟨Nat.zero_le _, Nat.zero_le _⟩ (fun r_4 h_5 he H locs hP hD hS => ?_)
    refine lv_goto (tgt := 23) hx hb0 dX7_of_19 (by decide) ?_
    exact gx_iret hx hb0 hr hlocks hK hP hD hS he dX7_of_23
theorem gm_X7_of : gMeth yX7_of cX7_of 3 (some .int) 2 := ⟨⟨by decide, by decide, by decide +kernel⟩, ini_RX7, co_yX7_of⟩
abbrev rm_X7_ofStar : Room := { frames := 5, cells := 0, slots := 0, locals := 102 }
set_option maxHeartbeats 4000000 in
set_option maxRecDepth 100000 in
theorem c_X7_ofStar (l : Launch) (dC : Nat → ClassId) (dI : Nat → Nat → Nat) (P : gP) (ad : Nat → Nat) (tb : Nat → Nat) (x1 : Int32) (x2 : Int32) (h0 : Hp) (Q : Int32 → Hp → Prop) (he : F_X7_ofStar x1 x2 h0 Q) : Met l yX7_ofStar (Cond.code yX7_ofStar cX7_ofStar 3 (some .int) :: TB) rm_X7_ofStar (gPc (dC, dI) vwCl (tyC P) 162 (cE P ad) ad (gKC tb (gA 162 ad)) h0 [.ref (ad 0), .int x1, .int x2]) (gQi (dC, dI) vwCl (tyC P) 162 (cE P ad) ad Q) 0 0 (gA 162 ad) := by
  refine gx_start (by decide) (Nat.le_of_ble_eq_true rfl) (fun p e s m below meth c ls hx hb0 hr hlocks hml hown hts hK hk hP hD hS hl => ?_)
  have hl : lv_has ls 3 [(0, .ref (ad 0)), (1, .int x1), (2, .int x2)] := hl
  have hown : s.vm.findClass RX7 = some m.cls := hown
  unfold F_X7_ofStar at he
  refine lv_aload_n hx hb0 dX7_ofStar_0 rfl (lv_at hl 0 rfl) ?_
  refine gx_get hx hb0 hts in_RX7 hown hK hP 0 (by decide) (cE_t0 _) rfl 0 (by decide) fl_RX7_10 rfl dX7_ofStar_1 ?_
  refine gx_get hx hb0 hts in_RX6 hown hK hP 8 (vb_lt0 vb_8) ((cE_0 vb_8) _) rfl 1 (by decide) fl_RX7_99 rfl dX7_ofStar_4 ?_
  refine lv_iload_n hx hb0 dX7_ofStar_7 rfl (lv_at hl 1 rfl) ?_
  refine gx_vi ⟨hx, hb0, hml, hown, hts⟩ (gKC_keep _ _) hk hK hP hD hS (8 + 2) [.int x1] [] (c_X5_hasStar l dC dI P ad tb 8 vb_8 x1 h0 _ he) gm_X5_hasStar im_yX5_hasStar se_yX5_hasStar ml_RX7_103 (vb_lt vb_8 (by decide)) ((cE_2 vb_8) _) rfl rfl rfl ⟨Nat.le_of_ble_eq_true rfl, Nat.le_of_ble_eq_true rfl⟩ rfl hl.1 rfl (Nat.le_of_ble_eq_true rfl) dX7_ofStar_8 ⟨Nat.zero_le _, Nat.zero_le _⟩ (fun r_1 h_2 he H locs hP hD hS => ?_)
  refine lv_if_eq (tgt := 26) hx hb0 dX7_ofStar_11 (by decide) (fun c_3 => ?_) (fun c_3 => ?_)
  · have he := he.1 c_3
    refine lv_iconst (v := (-1 : Int32)) hx hb0 dX7_ofStar_26 (by decide) ?_
    exact gx_iret hx hb0 hr hlocks hK hP hD hS he dX7_ofStar_27
  · have he := he.2 c_3
    refine lv_aload_n hx hb0 dX7_ofStar_14 rfl (lv_at hl 0 rfl) ?_
    refine gx_get hx hb0 hts in_RX7 hown hK hP 0 (by decide) (cE_t0 _) rfl 0 (by decide) fl_RX7_10 rfl dX7_ofStar_15 ?_
    refine lv_iload_n hx hb0 dX7_ofStar_18 rfl (lv_at hl 1 rfl) ?_
    refine lv_iload_n hx hb0 dX7_ofStar_19 rfl (lv_at hl 2 rfl) ?_
    refine gx_vi ⟨hx, hb0, hml, hown, hts⟩ (gKC_keep _ _) hk hK hP hD hS 8 [.int x1, .int x2] [] (c_X6_factOfStar l dC dI P ad tb 8 vb_8 x1 x2 h_2 _ he) gm_X6_factOfStar im_yX6_factOfStar se_yX6_factOfStar ml_RX7_108 (vb_lt0 vb_8) ((cE_0 vb_8) _) rfl rfl rfl ⟨Nat.le_of_ble_eq_true rfl, Nat.le_of_ble_eq_true rfl⟩ rfl hl.1 rfl (Nat.le_of_ble_eq_true rfl) dX7_ofStar_20 ⟨Nat.zero_le _, Nat.zero_le _⟩ (fun r_4 h_5 he H locs hP hD hS => ?_)
    refine lv_goto (tgt := 27) hx hb0 dX7_ofStar_23 (by decide) ?_
    exact gx_iret hx hb0 hr hlocks hK hP hD hS he dX7_ofStar_27
theorem gm_X7_ofStar : gMeth yX7_ofStar cX7_ofStar 3 (some .int) 2 := ⟨⟨by decide, by decide, by decide +kernel⟩, ini_RX7, co_yX7_ofStar⟩
abbrev rm_X7_log : Room := { frames := 2, cells := 0, slots := 0, locals := 44 }
set_option maxHeartbeats 4000000 in
set_option maxRecDepth 100000 in
theorem c_X7_log (l : Launch) (dC : Nat → ClassId) (dI : Nat → Nat → Nat) (P : gP) (ad : Nat → Nat) (tb : Nat → Nat) (x1 : Int32) (x2 : Int32) (h0 : Hp) (Q : Int32 → Hp → Prop) (he : F_X7_log x1 x2 h0 Q) : Met l yX7_log (Cond.code yX7_log cX7_log 3 (some .int) :: TB) rm_X7_log (gPc (dC, dI) vwCl (tyC P) 162 (cE P ad) ad (gKC tb (gA 162 ad)) h0 [.ref (ad 0), .int x1, .int x2]) (gQi (dC, dI) vwCl (tyC P) 162 (cE P ad) ad Q) 0 0 (gA 162 ad) := by
  refine gx_start (by decide) (Nat.le_of_ble_eq_true rfl) (fun p e s m below meth c ls hx hb0 hr hlocks hml hown hts hK hk hP hD hS hl => ?_)
  have hl : lv_has ls 3 [(0, .ref (ad 0)), (1, .int x1), (2, .int x2)] := hl
  have hown : s.vm.findClass RX7 = some m.cls := hown
  unfold F_X7_log at he
  refine lv_aload_n hx hb0 dX7_log_0 rfl (lv_at hl 0 rfl) ?_
  refine gx_get hx hb0 hts in_RX7 hown hK hP 0 (by decide) (cE_t0 _) rfl 0 (by decide) fl_RX7_10 rfl dX7_log_1 ?_
  refine lv_iload_n hx hb0 dX7_log_4 rfl (lv_at hl 1 rfl) ?_
  refine lv_iload_n hx hb0 dX7_log_5 rfl (lv_at hl 2 rfl) ?_
  refine gx_vi ⟨hx, hb0, hml, hown, hts⟩ (gKC_keep _ _) hk hK hP hD hS 8 [.int x1, .int x2] [] (c_X6_factOfLog l dC dI P ad tb 8 vb_8 x1 x2 h0 _ he) gm_X6_factOfLog im_yX6_factOfLog se_yX6_factOfLog ml_RX7_111 (vb_lt0 vb_8) ((cE_0 vb_8) _) rfl rfl rfl ⟨Nat.le_of_ble_eq_true rfl, Nat.le_of_ble_eq_true rfl⟩ rfl hl.1 rfl (Nat.le_of_ble_eq_true rfl) dX7_log_6 ⟨Nat.zero_le _, Nat.zero_le _⟩ (fun r_1 h_2 he H locs hP hD hS => ?_)
  exact gx_iret hx hb0 hr hlocks hK hP hD hS he dX7_log_9
theorem gm_X7_log : gMeth yX7_log cX7_log 3 (some .int) 2 := ⟨⟨by decide, by decide, by decide +kernel⟩, ini_RX7, co_yX7_log⟩
abbrev rm_X7_count : Room := { frames := 3, cells := 0, slots := 0, locals := 54 }
set_option maxHeartbeats 4000000 in
set_option maxRecDepth 100000 in
theorem c_X7_count (l : Launch) (dC : Nat → ClassId) (dI : Nat → Nat → Nat) (P : gP) (ad : Nat → Nat) (tb : Nat → Nat) (x1 : Int32) (h0 : Hp) (Q : Int32 → Hp → Prop) (he : F_X7_count x1 h0 Q) : Met l yX7_count (Cond.code yX7_count cX7_count 2 (some .int) :: TB) rm_X7_count (gPc (dC, dI) vwCl (tyC P) 162 (cE P ad) ad (gKC tb (gA 162 ad)) h0 [.ref (ad 0), .int x1]) (gQi (dC, dI) vwCl (tyC P) 162 (cE P ad) ad Q) 0 0 (gA 162 ad) := by
  refine gx_start (by decide) (Nat.le_of_ble_eq_true rfl) (fun p e s m below meth c ls hx hb0 hr hlocks hml hown hts hK hk hP hD hS hl => ?_)
  have hl : lv_has ls 2 [(0, .ref (ad 0)), (1, .int x1)] := hl
  have hown : s.vm.findClass RX7 = some m.cls := hown
  unfold F_X7_count at he
  refine lv_iload_n hx hb0 dX7_count_0 rfl (lv_at hl 1 rfl) ?_
  refine lv_bipush (v := (15 : Int32)) hx hb0 dX7_count_1 (by decide) ?_
  refine lv_icmp_ne (tgt := 14) hx hb0 dX7_count_3 (by decide) (fun c_1 => ?_) (fun c_1 => ?_)
  · have he := he.2 c_1
    refine lv_iload_n hx hb0 dX7_count_14 rfl (lv_at hl 1 rfl) ?_
    refine lv_bipush (v := (16 : Int32)) hx hb0 dX7_count_15 (by decide) ?_
    refine lv_icmp_ne (tgt := 28) hx hb0 dX7_count_17 (by decide) (fun c_2 => ?_) (fun c_2 => ?_)
    · have he := he.2 c_2
      refine lv_aload_n hx hb0 dX7_count_28 rfl (lv_at hl 0 rfl) ?_
      refine gx_get hx hb0 hts in_RX7 hown hK hP 0 (by decide) (cE_t0 _) rfl 0 (by decide) fl_RX7_10 rfl dX7_count_29 ?_
      refine lv_iload_n hx hb0 dX7_count_32 rfl (lv_at hl 1 rfl) ?_
      refine gx_vi ⟨hx, hb0, hml, hown, hts⟩ (gKC_keep _ _) hk hK hP hD hS 8 [.int x1] [] (c_X6_numberOf l dC dI P ad tb 8 vb_8 x1 h0 _ he) gm_X6_numberOf im_yX6_numberOf se_yX6_numberOf ml_RX7_121 (vb_lt0 vb_8) ((cE_0 vb_8) _) rfl rfl rfl ⟨Nat.le_of_ble_eq_true rfl, Nat.le_of_ble_eq_true rfl⟩ rfl hl.1 rfl (Nat.le_of_ble_eq_true rfl) dX7_count_33 ⟨Nat.zero_le _, Nat.zero_le _⟩ (fun r_3 h_4 he H locs hP hD hS => ?_)
      exact gx_iret hx hb0 hr hlocks hK hP hD hS he dX7_count_36
    · have he := he.1 c_2
      refine lv_aload_n hx hb0 dX7_count_20 rfl (lv_at hl 0 rfl) ?_
      refine gx_get hx hb0 hts in_RX7 hown hK hP 0 (by decide) (cE_t0 _) rfl 1 (by decide) fl_RX7_19 rfl dX7_count_21 ?_
      refine gx_get hx hb0 hts in_RX2 hown hK hP 1 (by decide) (cE_t1 _) rfl 2 (by decide) fl_RX7_118 rfl dX7_count_24 ?_
      exact gx_iret hx hb0 hr hlocks hK hP hD hS he dX7_count_27
  · have he := he.1 c_1
    refine lv_aload_n hx hb0 dX7_count_6 rfl (lv_at hl 0 rfl) ?_
    refine gx_get hx hb0 hts in_RX7 hown hK hP 0 (by decide) (cE_t0 _) rfl 2 (by decide) fl_RX7_26 rfl dX7_count_7 ?_
    refine gx_get hx hb0 hts in_RX4 hown hK hP 3 (by decide) (cE_t3 _) rfl 1 (by decide) fl_RX7_114 rfl dX7_count_10 ?_
    exact gx_iret hx hb0 hr hlocks hK hP hD hS he dX7_count_13
theorem gm_X7_count : gMeth yX7_count cX7_count 2 (some .int) 1 := ⟨⟨by decide, by decide, by decide +kernel⟩, ini_RX7, co_yX7_count⟩
abbrev rm_X7_why : Room := { frames := 3, cells := 0, slots := 0, locals := 57 }
set_option maxHeartbeats 4000000 in
set_option maxRecDepth 100000 in
theorem c_X7_why (l : Launch) (dC : Nat → ClassId) (dI : Nat → Nat → Nat) (P : gP) (ad : Nat → Nat) (tb : Nat → Nat) (x1 : Int32) (x2 : Int32) (h0 : Hp) (Q : Int32 → Hp → Prop) (he : F_X7_why x1 x2 h0 Q) : Met l yX7_why (Cond.code yX7_why cX7_why 3 (some .int) :: TB) rm_X7_why (gPc (dC, dI) vwCl (tyC P) 162 (cE P ad) ad (gKC tb (gA 162 ad)) h0 [.ref (ad 0), .int x1, .int x2]) (gQi (dC, dI) vwCl (tyC P) 162 (cE P ad) ad Q) 0 0 (gA 162 ad) := by
  refine gx_start (by decide) (Nat.le_of_ble_eq_true rfl) (fun p e s m below meth c ls hx hb0 hr hlocks hml hown hts hK hk hP hD hS hl => ?_)
  have hl : lv_has ls 3 [(0, .ref (ad 0)), (1, .int x1), (2, .int x2)] := hl
  have hown : s.vm.findClass RX7 = some m.cls := hown
  unfold F_X7_why at he
  refine lv_aload_n hx hb0 dX7_why_0 rfl (lv_at hl 0 rfl) ?_
  refine gx_get hx hb0 hts in_RX7 hown hK hP 0 (by decide) (cE_t0 _) rfl 0 (by decide) fl_RX7_10 rfl dX7_why_1 ?_
  refine lv_iload_n hx hb0 dX7_why_4 rfl (lv_at hl 1 rfl) ?_
  refine lv_iload_n hx hb0 dX7_why_5 rfl (lv_at hl 2 rfl) ?_
  refine gx_vi ⟨hx, hb0, hml, hown, hts⟩ (gKC_keep _ _) hk hK hP hD hS 8 [.int x1, .int x2] [] (c_X6_reasonAgainst l dC dI P ad tb 8 vb_8 x1 x2 h0 _ he) gm_X6_reasonAgainst im_yX6_reasonAgainst se_yX6_reasonAgainst ml_RX7_124 (vb_lt0 vb_8) ((cE_0 vb_8) _) rfl rfl rfl ⟨Nat.le_of_ble_eq_true rfl, Nat.le_of_ble_eq_true rfl⟩ rfl hl.1 rfl (Nat.le_of_ble_eq_true rfl) dX7_why_6 ⟨Nat.zero_le _, Nat.zero_le _⟩ (fun r_1 h_2 he H locs hP hD hS => ?_)
  exact gx_iret hx hb0 hr hlocks hK hP hD hS he dX7_why_9
theorem gm_X7_why : gMeth yX7_why cX7_why 3 (some .int) 2 := ⟨⟨by decide, by decide, by decide +kernel⟩, ini_RX7, co_yX7_why⟩
abbrev rm_X7_ifSighted : Room := { frames := 4, cells := 0, slots := 0, locals := 83 }
set_option maxHeartbeats 4000000 in
set_option maxRecDepth 100000 in
theorem c_X7_ifSighted (l : Launch) (dC : Nat → ClassId) (dI : Nat → Nat → Nat) (P : gP) (ad : Nat → Nat) (tb : Nat → Nat) (x1 : Int32) (x2 : Int32) (h0 : Hp) (Q : Int32 → Hp → Prop) (he : F_X7_ifSighted x1 x2 h0 Q) : Met l yX7_ifSighted (Cond.code yX7_ifSighted cX7_ifSighted 3 (some .int) :: TB) rm_X7_ifSighted (gPc (dC, dI) vwCl (tyC P) 162 (cE P ad) ad (gKC tb (gA 162 ad)) h0 [.ref (ad 0), .int x1, .int x2]) (gQi (dC, dI) vwCl (tyC P) 162 (cE P ad) ad Q) 0 0 (gA 162 ad) := by
  refine gx_start (by decide) (Nat.le_of_ble_eq_true rfl) (fun p e s m below meth c ls hx hb0 hr hlocks hml hown hts hK hk hP hD hS hl => ?_)
  have hl : lv_has ls 3 [(0, .ref (ad 0)), (1, .int x1), (2, .int x2)] := hl
  have hown : s.vm.findClass RX7 = some m.cls := hown
  unfold F_X7_ifSighted at he
  refine lv_aload_n hx hb0 dX7_ifSighted_0 rfl (lv_at hl 0 rfl) ?_
  refine gx_get hx hb0 hts in_RX7 hown hK hP 0 (by decide) (cE_t0 _) rfl 0 (by decide) fl_RX7_10 rfl dX7_ifSighted_1 ?_
  refine lv_iload_n hx hb0 dX7_ifSighted_4 rfl (lv_at hl 1 rfl) ?_
  refine lv_iload_n hx hb0 dX7_ifSighted_5 rfl (lv_at hl 2 rfl) ?_
  refine gx_vi ⟨hx, hb0, hml, hown, hts⟩ (gKC_keep _ _) hk hK hP hD hS 8 [.int x1, .int x2] [] (c_X6_tellSight l dC dI P ad tb 8 vb_8 x1 x2 h0 _ he) gm_X6_tellSight im_yX6_tellSight se_yX6_tellSight ml_RX7_127 (vb_lt0 vb_8) ((cE_0 vb_8) _) rfl rfl rfl ⟨Nat.le_of_ble_eq_true rfl, Nat.le_of_ble_eq_true rfl⟩ rfl hl.1 rfl (Nat.le_of_ble_eq_true rfl) dX7_ifSighted_6 ⟨Nat.zero_le _, Nat.zero_le _⟩ (fun r_1 h_2 he H locs hP hD hS => ?_)
  exact gx_iret hx hb0 hr hlocks hK hP hD hS he dX7_ifSighted_9
theorem gm_X7_ifSighted : gMeth yX7_ifSighted cX7_ifSighted 3 (some .int) 2 := ⟨⟨by decide, by decide, by decide +kernel⟩, ini_RX7, co_yX7_ifSighted⟩
abbrev rm_X7_median : Room := { frames := 3, cells := 0, slots := 0, locals := 69 }
set_option maxHeartbeats 4000000 in
set_option maxRecDepth 100000 in
theorem c_X7_median (l : Launch) (dC : Nat → ClassId) (dI : Nat → Nat → Nat) (P : gP) (ad : Nat → Nat) (tb : Nat → Nat) (x1 : Int32) (h0 : Hp) (Q : Int32 → Hp → Prop) (he : F_X7_median x1 h0 Q) : Met l yX7_median (Cond.code yX7_median cX7_median 3 (some .int) :: TB) rm_X7_median (gPc (dC, dI) vwCl (tyC P) 162 (cE P ad) ad (gKC tb (gA 162 ad)) h0 [.ref (ad 0), .int x1]) (gQi (dC, dI) vwCl (tyC P) 162 (cE P ad) ad Q) 0 0 (gA 162 ad) := by
  refine gx_start (by decide) (Nat.le_of_ble_eq_true rfl) (fun p e s m below meth c ls hx hb0 hr hlocks hml hown hts hK hk hP hD hS hl => ?_)
  have hl : lv_has ls 3 [(0, .ref (ad 0)), (1, .int x1)] := hl
  have hown : s.vm.findClass RX7 = some m.cls := hown
  unfold F_X7_median at he
  refine lv_iload_n hx hb0 dX7_median_0 rfl (lv_at hl 1 rfl) ?_
  refine lv_bipush (v := (-6 : Int32)) hx hb0 dX7_median_1 (by decide) ?_
  refine lv_icmp_eq (tgt := 15) hx hb0 dX7_median_3 (by decide) (fun c_1 => ?_) (fun c_1 => ?_)
  · have he := he.1 c_1
    refine lv_aload_n hx hb0 dX7_median_15 rfl (lv_at hl 0 rfl) ?_
    refine gx_get hx hb0 hts in_RX7 hown hK hP 0 (by decide) (cE_t0 _) rfl 0 (by decide) fl_RX7_10 rfl dX7_median_16 ?_
    refine gx_get hx hb0 hts in_RX6 hown hK hP 8 (vb_lt0 vb_8) ((cE_0 vb_8) _) rfl 2 (by decide) fl_RX7_90 rfl dX7_median_19 ?_
    refine lv_iload_n hx hb0 dX7_median_22 rfl (lv_at hl 1 rfl) ?_
    refine gx_vi ⟨hx, hb0, hml, hown, hts⟩ (gKC_keep _ _) hk hK hP hD hS (8 + 4) [.int x1] [] (c_X1_middleWithout l dC dI P ad tb 8 vb_8 x1 h0 _ he) gm_X1_middleWithout im_yX1_middleWithout se_yX1_middleWithout ml_RX7_130 (vb_lt vb_8 (by decide)) ((cE_4 vb_8) _) rfl rfl rfl ⟨Nat.le_of_ble_eq_true rfl, Nat.le_of_ble_eq_true rfl⟩ rfl hl.1 rfl (Nat.le_of_ble_eq_true rfl) dX7_median_23 ⟨Nat.zero_le _, Nat.zero_le _⟩ (fun r_2 h_3 he H locs hP hD hS => ?_)
    refine lv_istore_n (lv' := [(2, .int r_2), (0, .ref (ad 0)), (1, .int x1)]) hx hb0 dX7_median_26 rfl hl (by decide) rfl (fun ls hl => ?_)
    refine lv_iload_n hx hb0 dX7_median_27 rfl (lv_at hl 0 rfl) ?_
    refine lv_sipush (v := (9999 : Int32)) hx hb0 dX7_median_28 (by decide) ?_
    refine lv_icmp_ne (tgt := 39) hx hb0 dX7_median_31 (by decide) (fun c_4 => ?_) (fun c_4 => ?_)
    · have he := he.2 c_4
      refine lv_iload_n hx hb0 dX7_median_39 rfl (lv_at hl 0 rfl) ?_
      refine lv_sipush (v := (5400 : Int32)) hx hb0 dX7_median_40 (by decide) ?_
      refine lv_iadd hx hb0 dX7_median_43 ?_
      exact gx_iret hx hb0 hr hlocks hK hP hD hS he dX7_median_44
    · have he := he.1 c_4
      refine lv_bipush (v := (-5 : Int32)) hx hb0 dX7_median_34 (by decide) ?_
      refine lv_goto (tgt := 44) hx hb0 dX7_median_36 (by decide) ?_
      exact gx_iret hx hb0 hr hlocks hK hP hD hS he dX7_median_44
  · have he := he.2 c_1
    refine lv_iload_n hx hb0 dX7_median_6 rfl (lv_at hl 1 rfl) ?_
    refine gx_si ⟨hx, hb0, hml, hown, hts⟩ (gKC_keep _ _) hk hK hP hD hS [.int x1] [] (c_X7_isNavigator l dC dI P ad tb x1 h0 _ he) gm_X7_isNavigator st_yX7_isNavigator ml_RX7_86 rfl rfl ⟨Nat.le_of_ble_eq_true rfl, Nat.le_of_ble_eq_true rfl⟩ rfl hl.1 rfl (Nat.le_of_ble_eq_true rfl) dX7_median_7 ⟨Nat.zero_le _, Nat.zero_le _⟩ (fun r_5 h_6 he H locs hP hD hS => ?_)
    refine lv_if_ne (tgt := 15) hx hb0 dX7_median_10 (by decide) (fun c_7 => ?_) (fun c_7 => ?_)
    · have he := he.2 c_7
      refine lv_aload_n hx hb0 dX7_median_15 rfl (lv_at hl 0 rfl) ?_
      refine gx_get hx hb0 hts in_RX7 hown hK hP 0 (by decide) (cE_t0 _) rfl 0 (by decide) fl_RX7_10 rfl dX7_median_16 ?_
      refine gx_get hx hb0 hts in_RX6 hown hK hP 8 (vb_lt0 vb_8) ((cE_0 vb_8) _) rfl 2 (by decide) fl_RX7_90 rfl dX7_median_19 ?_
      refine lv_iload_n hx hb0 dX7_median_22 rfl (lv_at hl 1 rfl) ?_
      refine gx_vi ⟨hx, hb0, hml, hown, hts⟩ (gKC_keep _ _) hk hK hP hD hS (8 + 4) [.int x1] [] (c_X1_middleWithout l dC dI P ad tb 8 vb_8 x1 h_6 _ he) gm_X1_middleWithout im_yX1_middleWithout se_yX1_middleWithout ml_RX7_130 (vb_lt vb_8 (by decide)) ((cE_4 vb_8) _) rfl rfl rfl ⟨Nat.le_of_ble_eq_true rfl, Nat.le_of_ble_eq_true rfl⟩ rfl hl.1 rfl (Nat.le_of_ble_eq_true rfl) dX7_median_23 ⟨Nat.zero_le _, Nat.zero_le _⟩ (fun r_8 h_9 he H locs hP hD hS => ?_)
      refine lv_istore_n (lv' := [(2, .int r_8), (0, .ref (ad 0)), (1, .int x1)]) hx hb0 dX7_median_26 rfl hl (by decide) rfl (fun ls hl => ?_)
      refine lv_iload_n hx hb0 dX7_median_27 rfl (lv_at hl 0 rfl) ?_
      refine lv_sipush (v := (9999 : Int32)) hx hb0 dX7_median_28 (by decide) ?_
      refine lv_icmp_ne (tgt := 39) hx hb0 dX7_median_31 (by decide) (fun c_10 => ?_) (fun c_10 => ?_)
      · have he := he.2 c_10
        refine lv_iload_n hx hb0 dX7_median_39 rfl (lv_at hl 0 rfl) ?_
        refine lv_sipush (v := (5400 : Int32)) hx hb0 dX7_median_40 (by decide) ?_
        refine lv_iadd hx hb0 dX7_median_43 ?_
        exact gx_iret hx hb0 hr hlocks hK hP hD hS he dX7_median_44
      · have he := he.1 c_10
        refine lv_bipush (v := (-5 : Int32)) hx hb0 dX7_median_34 (by decide) ?_
        refine lv_goto (tgt := 44) hx hb0 dX7_median_36 (by decide) ?_
        exact gx_iret hx hb0 hr hlocks hK hP hD hS he dX7_median_44
    · have he := he.1 c_7
      refine lv_iconst (v := (-1 : Int32)) hx hb0 dX7_median_13 (by decide) ?_
      exact gx_iret hx hb0 hr hlocks hK hP hD hS he dX7_median_14
theorem gm_X7_median : gMeth yX7_median cX7_median 3 (some .int) 1 := ⟨⟨by decide, by decide, by decide +kernel⟩, ini_RX7, co_yX7_median⟩
abbrev rm_X7_bestStar : Room := { frames := 3, cells := 0, slots := 0, locals := 58 }
set_option maxHeartbeats 4000000 in
set_option maxRecDepth 100000 in
theorem c_X7_bestStar (l : Launch) (dC : Nat → ClassId) (dI : Nat → Nat → Nat) (P : gP) (ad : Nat → Nat) (tb : Nat → Nat) (h0 : Hp) (Q : Int32 → Hp → Prop) (he : F_X7_bestStar  h0 Q) : Met l yX7_bestStar (Cond.code yX7_bestStar cX7_bestStar 1 (some .int) :: TB) rm_X7_bestStar (gPc (dC, dI) vwCl (tyC P) 162 (cE P ad) ad (gKC tb (gA 162 ad)) h0 [.ref (ad 0)]) (gQi (dC, dI) vwCl (tyC P) 162 (cE P ad) ad Q) 0 0 (gA 162 ad) := by
  refine gx_start (by decide) (Nat.le_of_ble_eq_true rfl) (fun p e s m below meth c ls hx hb0 hr hlocks hml hown hts hK hk hP hD hS hl => ?_)
  have hl : lv_has ls 1 [(0, .ref (ad 0))] := hl
  have hown : s.vm.findClass RX7 = some m.cls := hown
  unfold F_X7_bestStar at he
  refine lv_aload_n hx hb0 dX7_bestStar_0 rfl (lv_at hl 0 rfl) ?_
  refine gx_get hx hb0 hts in_RX7 hown hK hP 0 (by decide) (cE_t0 _) rfl 0 (by decide) fl_RX7_10 rfl dX7_bestStar_1 ?_
  refine gx_vi ⟨hx, hb0, hml, hown, hts⟩ (gKC_keep _ _) hk hK hP hD hS 8 [] [] (c_X6_highestStar l dC dI P ad tb 8 vb_8 h0 _ he) gm_X6_highestStar im_yX6_highestStar se_yX6_highestStar ml_RX7_133 (vb_lt0 vb_8) ((cE_0 vb_8) _) rfl rfl rfl ⟨Nat.le_of_ble_eq_true rfl, Nat.le_of_ble_eq_true rfl⟩ rfl hl.1 rfl (Nat.le_of_ble_eq_true rfl) dX7_bestStar_4 ⟨Nat.zero_le _, Nat.zero_le _⟩ (fun r_1 h_2 he H locs hP hD hS => ?_)
  exact gx_iret hx hb0 hr hlocks hK hP hD hS he dX7_bestStar_7
theorem gm_X7_bestStar : gMeth yX7_bestStar cX7_bestStar 1 (some .int) 0 := ⟨⟨by decide, by decide, by decide +kernel⟩, ini_RX7, co_yX7_bestStar⟩
abbrev rm_X7_nearest : Room := { frames := 2, cells := 0, slots := 0, locals := 38 }
set_option maxHeartbeats 4000000 in
set_option maxRecDepth 100000 in
theorem c_X7_nearest (l : Launch) (dC : Nat → ClassId) (dI : Nat → Nat → Nat) (P : gP) (ad : Nat → Nat) (tb : Nat → Nat) (x1 : Int32) (h0 : Hp) (Q : Int32 → Hp → Prop) (he : F_X7_nearest x1 h0 Q) : Met l yX7_nearest (Cond.code yX7_nearest cX7_nearest 2 (some .int) :: TB) rm_X7_nearest (gPc (dC, dI) vwCl (tyC P) 162 (cE P ad) ad (gKC tb (gA 162 ad)) h0 [.ref (ad 0), .int x1]) (gQi (dC, dI) vwCl (tyC P) 162 (cE P ad) ad Q) 0 0 (gA 162 ad) := by
  refine gx_start (by decide) (Nat.le_of_ble_eq_true rfl) (fun p e s m below meth c ls hx hb0 hr hlocks hml hown hts hK hk hP hD hS hl => ?_)
  have hl : lv_has ls 2 [(0, .ref (ad 0)), (1, .int x1)] := hl
  have hown : s.vm.findClass RX7 = some m.cls := hown
  unfold F_X7_nearest at he
  refine lv_aload_n hx hb0 dX7_nearest_0 rfl (lv_at hl 0 rfl) ?_
  refine gx_get hx hb0 hts in_RX7 hown hK hP 0 (by decide) (cE_t0 _) rfl 0 (by decide) fl_RX7_10 rfl dX7_nearest_1 ?_
  refine lv_iload_n hx hb0 dX7_nearest_4 rfl (lv_at hl 1 rfl) ?_
  refine gx_vi ⟨hx, hb0, hml, hown, hts⟩ (gKC_keep _ _) hk hK hP hD hS 8 [.int x1] [] (c_X6_nearestNavigator l dC dI P ad tb 8 vb_8 x1 h0 _ he) gm_X6_nearestNavigator im_yX6_nearestNavigator se_yX6_nearestNavigator ml_RX7_136 (vb_lt0 vb_8) ((cE_0 vb_8) _) rfl rfl rfl ⟨Nat.le_of_ble_eq_true rfl, Nat.le_of_ble_eq_true rfl⟩ rfl hl.1 rfl (Nat.le_of_ble_eq_true rfl) dX7_nearest_5 ⟨Nat.zero_le _, Nat.zero_le _⟩ (fun r_1 h_2 he H locs hP hD hS => ?_)
  exact gx_iret hx hb0 hr hlocks hK hP hD hS he dX7_nearest_8
theorem gm_X7_nearest : gMeth yX7_nearest cX7_nearest 2 (some .int) 1 := ⟨⟨by decide, by decide, by decide +kernel⟩, ini_RX7, co_yX7_nearest⟩
abbrev rm_X7_undo : Room := { frames := 4, cells := 0, slots := 0, locals := 81 }
set_option maxHeartbeats 4000000 in
set_option maxRecDepth 100000 in
theorem c_X7_undo (l : Launch) (dC : Nat → ClassId) (dI : Nat → Nat → Nat) (P : gP) (ad : Nat → Nat) (tb : Nat → Nat) (h0 : Hp) (Q : Int32 → Hp → Prop) (he : F_X7_undo  h0 Q) : Met l yX7_undo (Cond.code yX7_undo cX7_undo 1 (some .int) :: TB) rm_X7_undo (gPc (dC, dI) vwCl (tyC P) 162 (cE P ad) ad (gKC tb (gA 162 ad)) h0 [.ref (ad 0)]) (gQi (dC, dI) vwCl (tyC P) 162 (cE P ad) ad Q) 0 0 (gA 162 ad) := by
  refine gx_start (by decide) (Nat.le_of_ble_eq_true rfl) (fun p e s m below meth c ls hx hb0 hr hlocks hml hown hts hK hk hP hD hS hl => ?_)
  have hl : lv_has ls 1 [(0, .ref (ad 0))] := hl
  have hown : s.vm.findClass RX7 = some m.cls := hown
  unfold F_X7_undo at he
  refine lv_aload_n hx hb0 dX7_undo_0 rfl (lv_at hl 0 rfl) ?_
  refine gx_get hx hb0 hts in_RX7 hown hK hP 0 (by decide) (cE_t0 _) rfl 1 (by decide) fl_RX7_19 rfl dX7_undo_1 ?_
  refine lv_aload_n hx hb0 dX7_undo_4 rfl (lv_at hl 0 rfl) ?_
  refine gx_get hx hb0 hts in_RX7 hown hK hP 0 (by decide) (cE_t0 _) rfl 0 (by decide) fl_RX7_10 rfl dX7_undo_5 ?_
  refine gx_vi ⟨hx, hb0, hml, hown, hts⟩ (gKC_keep _ _) hk hK hP hD hS 1 [.ref (ad 8)] [] (c_X2_takeBack l dC dI P ad tb 8 vb_8 h0 _ he) gm_X2_takeBack im_yX2_takeBack se_yX2_takeBack ml_RX7_166 (by decide) (cE_t1 _) rfl rfl rfl ⟨Nat.le_of_ble_eq_true rfl, Nat.le_of_ble_eq_true rfl⟩ rfl hl.1 rfl (Nat.le_of_ble_eq_true rfl) dX7_undo_8 ⟨Nat.zero_le _, Nat.zero_le _⟩ (fun r_1 h_2 he H locs hP hD hS => ?_)
  exact gx_iret hx hb0 hr hlocks hK hP hD hS he dX7_undo_11
theorem gm_X7_undo : gMeth yX7_undo cX7_undo 1 (some .int) 0 := ⟨⟨by decide, by decide, by decide +kernel⟩, ini_RX7, co_yX7_undo⟩
