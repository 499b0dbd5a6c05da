abbrev rm_X8_setOf : Room := { frames := 0, cells := 0, slots := 0, locals := 0 }
set_option maxHeartbeats 4000000 in
set_option maxRecDepth 100000 in
theorem c_X8_setOf (l : Launch) (dC : Nat → ClassId) (dI : Nat → Nat → Nat) (P : gP) (ad : Nat → Nat) (x1 : Int32) (x2 : Int32) (x3 : Int32) (h0 : Hp) (Q : Hp → Prop) (he : F_X8_setOf x1 x2 x3 h0 Q) : Met l yX8_setOf (Cond.code yX8_setOf cX8_setOf 4 none :: TB) rm_X8_setOf (gPc (dC, dI) vwCl (tyC P) 7 (mE P ad) ad gKM h0 [.ref (ad 0), .int x1, .int x2, .int x3]) (gQv (dC, dI) vwCl (tyC P) 7 (mE P ad) ad Q) 0 0 (gA 7 ad) := by
  refine gx_start (by decide) (Nat.le_of_ble_eq_true rfl) (fun p e s m below meth c ls hx hb0 hr hlocks hml hown hts hK hk hP hD hS hl => ?_)
  have hl : lv_has ls 4 [(0, .ref (ad 0)), (1, .int x1), (2, .int x2), (3, .int x3)] := hl
  have hown : s.vm.findClass RX8 = some m.cls := hown
  unfold F_X8_setOf at he
  refine lv_aload_n hx hb0 dX8_setOf_0 rfl (lv_at hl 0 rfl) ?_
  refine gx_get hx hb0 hts in_RX8 hown hK hP 0 (by decide) (mE_0 _) rfl 0 (by decide) fl_RX8_7 rfl dX8_setOf_1 ?_
  refine lv_bipush (v := (31 : Int32)) hx hb0 dX8_setOf_4 (by decide) ?_
  refine lv_bipush (v := (8 : Int32)) hx hb0 dX8_setOf_6 (by decide) ?_
  refine lv_iload_n hx hb0 dX8_setOf_8 rfl (lv_at hl 1 rfl) ?_
  refine lv_imul hx hb0 dX8_setOf_9 ?_
  refine lv_iadd hx hb0 dX8_setOf_10 ?_
  refine lv_iload_n hx hb0 dX8_setOf_11 rfl (lv_at hl 2 rfl) ?_
  refine lv_iadd hx hb0 dX8_setOf_12 ?_
  refine lv_iload_n hx hb0 dX8_setOf_13 rfl (lv_at hl 3 rfl) ?_
  obtain ⟨v_2, he⟩ := he
  refine gx_iast hx hb0 hK hP hD hS 1 0 (by decide) mE_1 rfl v_2 dX8_setOf_14 (fun h_1 eh_1 H locs hP hD hS => ?_)
  have he := he h_1 eh_1
  exact gx_vret hx hb0 hr hlocks hK hP hD hS he dX8_setOf_15
theorem gm_X8_setOf : gMeth yX8_setOf cX8_setOf 4 none 3 := ⟨⟨by decide, by decide, by decide +kernel⟩, ini_RX8, co_yX8_setOf⟩
abbrev rm_X8_within : Room := { frames := 0, cells := 0, slots := 0, locals := 0 }
set_option maxHeartbeats 4000000 in
set_option maxRecDepth 100000 in
theorem c_X8_within (l : Launch) (dC : Nat → ClassId) (dI : Nat → Nat → Nat) (P : gP) (ad : Nat → Nat) (x0 : Int32) (x1 : Int32) (x2 : Int32) (h0 : Hp) (Q : Int32 → Hp → Prop) (he : F_X8_within x0 x1 x2 h0 Q) : Met l yX8_within (Cond.code yX8_within cX8_within 3 (some .boolean) :: TB) rm_X8_within (gPc (dC, dI) vwCl (tyC P) 7 (mE P ad) ad gKM h0 [.int x0, .int x1, .int x2]) (gQi (dC, dI) vwCl (tyC P) 7 (mE P ad) ad Q) 0 0 (gA 7 ad) := by
  refine gx_start (by decide) (Nat.le_of_ble_eq_true rfl) (fun p e s m below meth c ls hx hb0 hr hlocks hml hown hts hK hk hP hD hS hl => ?_)
  have hl : lv_has ls 3 [(0, .int x0), (1, .int x1), (2, .int x2)] := hl
  have hown : s.vm.findClass RX8 = some m.cls := hown
  unfold F_X8_within at he
  refine lv_iload_n hx hb0 dX8_within_0 rfl (lv_at hl 0 rfl) ?_
  refine lv_iload_n hx hb0 dX8_within_1 rfl (lv_at hl 1 rfl) ?_
  refine lv_icmp_lt (tgt := 14) hx hb0 dX8_within_2 (by decide) (fun c_1 => ?_) (fun c_1 => ?_)
  · have he := he.1 c_1
    refine lv_iconst (v := (0 : Int32)) hx hb0 dX8_within_14 (by decide) ?_
    exact gx_zret hx hb0 hr (by decide) hlocks hK hP hD hS he dX8_within_15
  · have he := he.2 c_1
    refine lv_iload_n hx hb0 dX8_within_5 rfl (lv_at hl 0 rfl) ?_
    refine lv_iload_n hx hb0 dX8_within_6 rfl (lv_at hl 2 rfl) ?_
    refine lv_icmp_gt (tgt := 14) hx hb0 dX8_within_7 (by decide) (fun c_2 => ?_) (fun c_2 => ?_)
    · have he := he.1 c_2
      refine lv_iconst (v := (0 : Int32)) hx hb0 dX8_within_14 (by decide) ?_
      exact gx_zret hx hb0 hr (by decide) hlocks hK hP hD hS he dX8_within_15
    · have he := he.2 c_2
      refine lv_iconst (v := (1 : Int32)) hx hb0 dX8_within_10 (by decide) ?_
      refine lv_goto (tgt := 15) hx hb0 dX8_within_11 (by decide) ?_
      exact gx_zret hx hb0 hr (by decide) hlocks hK hP hD hS he dX8_within_15
theorem gm_X8_within : gMeth yX8_within cX8_within 3 (some .boolean) 3 := ⟨⟨by decide, by decide, by decide +kernel⟩, ini_RX8, co_yX8_within⟩
abbrev rm_X8_sizeOf : Room := { frames := 0, cells := 0, slots := 0, locals := 0 }
set_option maxHeartbeats 4000000 in
set_option maxRecDepth 100000 in
theorem c_X8_sizeOf (l : Launch) (dC : Nat → ClassId) (dI : Nat → Nat → Nat) (P : gP) (ad : Nat → Nat) (x0 : Int32) (h0 : Hp) (Q : Int32 → Hp → Prop) (he : F_X8_sizeOf x0 h0 Q) : Met l yX8_sizeOf (Cond.code yX8_sizeOf cX8_sizeOf 1 (some .int) :: TB) rm_X8_sizeOf (gPc (dC, dI) vwCl (tyC P) 7 (mE P ad) ad gKM h0 [.int x0]) (gQi (dC, dI) vwCl (tyC P) 7 (mE P ad) ad Q) 0 0 (gA 7 ad) := by
  refine gx_start (by decide) (Nat.le_of_ble_eq_true rfl) (fun p e s m below meth c ls hx hb0 hr hlocks hml hown hts hK hk hP hD hS hl => ?_)
  have hl : lv_has ls 1 [(0, .int x0)] := hl
  have hown : s.vm.findClass RX8 = some m.cls := hown
  unfold F_X8_sizeOf at he
  refine lv_iload_n hx hb0 dX8_sizeOf_0 rfl (lv_at hl 0 rfl) ?_
  refine lv_if_ge (tgt := 9) hx hb0 dX8_sizeOf_1 (by decide) (fun c_1 => ?_) (fun c_1 => ?_)
  · have he := he.1 c_1
    refine lv_iload_n hx hb0 dX8_sizeOf_9 rfl (lv_at hl 0 rfl) ?_
    exact gx_iret hx hb0 hr hlocks hK hP hD hS he dX8_sizeOf_10
  · have he := he.2 c_1
    refine lv_iload_n hx hb0 dX8_sizeOf_4 rfl (lv_at hl 0 rfl) ?_
    refine lv_ineg hx hb0 dX8_sizeOf_5 ?_
    refine lv_goto (tgt := 10) hx hb0 dX8_sizeOf_6 (by decide) ?_
    exact gx_iret hx hb0 hr hlocks hK hP hD hS he dX8_sizeOf_10
theorem gm_X8_sizeOf : gMeth yX8_sizeOf cX8_sizeOf 1 (some .int) 1 := ⟨⟨by decide, by decide, by decide +kernel⟩, ini_RX8, co_yX8_sizeOf⟩
abbrev rm_X8_bounded : Room := { frames := 0, cells := 0, slots := 0, locals := 0 }
set_option maxHeartbeats 4000000 in
set_option maxRecDepth 100000 in
theorem c_X8_bounded (l : Launch) (dC : Nat → ClassId) (dI : Nat → Nat → Nat) (P : gP) (ad : Nat → Nat) (x0 : Int32) (h0 : Hp) (Q : Int32 → Hp → Prop) (he : F_X8_bounded x0 h0 Q) : Met l yX8_bounded (Cond.code yX8_bounded cX8_bounded 1 (some .int) :: TB) rm_X8_bounded (gPc (dC, dI) vwCl (tyC P) 7 (mE P ad) ad gKM h0 [.int x0]) (gQi (dC, dI) vwCl (tyC P) 7 (mE P ad) ad Q) 0 0 (gA 7 ad) := by
  refine gx_start (by decide) (Nat.le_of_ble_eq_true rfl) (fun p e s m below meth c ls hx hb0 hr hlocks hml hown hts hK hk hP hD hS hl => ?_)
  have hl : lv_has ls 1 [(0, .int x0)] := hl
  have hown : s.vm.findClass RX8 = some m.cls := hown
  unfold F_X8_bounded at he
  refine lv_iload_n hx hb0 dX8_bounded_0 rfl (lv_at hl 0 rfl) ?_
  refine lv_sipush (v := (-5400 : Int32)) hx hb0 dX8_bounded_1 (by decide) ?_
  refine lv_icmp_ge (tgt := 13) hx hb0 dX8_bounded_4 (by decide) (fun c_1 => ?_) (fun c_1 => ?_)
  · have he := he.1 c_1
    refine lv_iload_n hx hb0 dX8_bounded_13 rfl (lv_at hl 0 rfl) ?_
    refine lv_sipush (v := (5400 : Int32)) hx hb0 dX8_bounded_14 (by decide) ?_
    refine lv_icmp_le (tgt := 26) hx hb0 dX8_bounded_17 (by decide) (fun c_2 => ?_) (fun c_2 => ?_)
    · have he := he.1 c_2
      refine lv_iload_n hx hb0 dX8_bounded_26 rfl (lv_at hl 0 rfl) ?_
      exact gx_iret hx hb0 hr hlocks hK hP hD hS he dX8_bounded_27
    · have he := he.2 c_2
      refine lv_sipush (v := (5400 : Int32)) hx hb0 dX8_bounded_20 (by decide) ?_
      refine lv_goto (tgt := 27) hx hb0 dX8_bounded_23 (by decide) ?_
      exact gx_iret hx hb0 hr hlocks hK hP hD hS he dX8_bounded_27
  · have he := he.2 c_1
    refine lv_sipush (v := (-5400 : Int32)) hx hb0 dX8_bounded_7 (by decide) ?_
    refine lv_goto (tgt := 27) hx hb0 dX8_bounded_10 (by decide) ?_
    exact gx_iret hx hb0 hr hlocks hK hP hD hS he dX8_bounded_27
theorem gm_X8_bounded : gMeth yX8_bounded cX8_bounded 1 (some .int) 1 := ⟨⟨by decide, by decide, by decide +kernel⟩, ini_RX8, co_yX8_bounded⟩
abbrev rm_X8_isLatitude : Room := { frames := 1, cells := 0, slots := 0, locals := 22 }
set_option maxHeartbeats 4000000 in
set_option maxRecDepth 100000 in
theorem c_X8_isLatitude (l : Launch) (dC : Nat → ClassId) (dI : Nat → Nat → Nat) (P : gP) (ad : Nat → Nat) (x0 : Int32) (h0 : Hp) (Q : Int32 → Hp → Prop) (he : F_X8_isLatitude x0 h0 Q) : Met l yX8_isLatitude (Cond.code yX8_isLatitude cX8_isLatitude 1 (some .boolean) :: TB) rm_X8_isLatitude (gPc (dC, dI) vwCl (tyC P) 7 (mE P ad) ad gKM h0 [.int x0]) (gQi (dC, dI) vwCl (tyC P) 7 (mE P ad) ad Q) 0 0 (gA 7 ad) := by
  refine gx_start (by decide) (Nat.le_of_ble_eq_true rfl) (fun p e s m below meth c ls hx hb0 hr hlocks hml hown hts hK hk hP hD hS hl => ?_)
  have hl : lv_has ls 1 [(0, .int x0)] := hl
  have hown : s.vm.findClass RX8 = some m.cls := hown
  unfold F_X8_isLatitude at he
  refine lv_iload_n hx hb0 dX8_isLatitude_0 rfl (lv_at hl 0 rfl) ?_
  refine lv_sipush (v := (-5400 : Int32)) hx hb0 dX8_isLatitude_1 (by decide) ?_
  refine lv_sipush (v := (5400 : Int32)) hx hb0 dX8_isLatitude_4 (by decide) ?_
  refine gx_si ⟨hx, hb0, hml, hown, hts⟩ (gKM_keep _) hk hK hP hD hS [.int x0, .int (-5400 : Int32), .int (5400 : Int32)] [] (c_X8_within l dC dI P ad x0 (-5400 : Int32) (5400 : Int32) h0 _ he) gm_X8_within st_yX8_within ml_RX8_32 rfl rfl ⟨Nat.le_of_ble_eq_true rfl, Nat.le_of_ble_eq_true rfl⟩ rfl hl.1 rfl (Nat.le_of_ble_eq_true rfl) dX8_isLatitude_7 ⟨Nat.zero_le _, Nat.zero_le _⟩ (fun r_1 h_2 he H locs hP hD hS => ?_)
  obtain ⟨z_3, he⟩ := he
  exact gx_zret hx hb0 hr z_3 hlocks hK hP hD hS he dX8_isLatitude_10
theorem gm_X8_isLatitude : gMeth yX8_isLatitude cX8_isLatitude 1 (some .boolean) 1 := ⟨⟨by decide, by decide, by decide +kernel⟩, ini_RX8, co_yX8_isLatitude⟩
abbrev rm_X8_isStar : Room := { frames := 1, cells := 0, slots := 0, locals := 22 }
set_option maxHeartbeats 4000000 in
set_option maxRecDepth 100000 in
theorem c_X8_isStar (l : Launch) (dC : Nat → ClassId) (dI : Nat → Nat → Nat) (P : gP) (ad : Nat → Nat) (x1 : Int32) (h0 : Hp) (Q : Int32 → Hp → Prop) (he : F_X8_isStar x1 h0 Q) : Met l yX8_isStar (Cond.code yX8_isStar cX8_isStar 2 (some .boolean) :: TB) rm_X8_isStar (gPc (dC, dI) vwCl (tyC P) 7 (mE P ad) ad gKM h0 [.ref (ad 0), .int x1]) (gQi (dC, dI) vwCl (tyC P) 7 (mE P ad) ad Q) 0 0 (gA 7 ad) := by
  refine gx_start (by decide) (Nat.le_of_ble_eq_true rfl) (fun p e s m below meth c ls hx hb0 hr hlocks hml hown hts hK hk hP hD hS hl => ?_)
  have hl : lv_has ls 2 [(0, .ref (ad 0)), (1, .int x1)] := hl
  have hown : s.vm.findClass RX8 = some m.cls := hown
  unfold F_X8_isStar at he
  refine lv_iload_n hx hb0 dX8_isStar_0 rfl (lv_at hl 1 rfl) ?_
  refine lv_iconst (v := (0 : Int32)) hx hb0 dX8_isStar_1 (by decide) ?_
  refine lv_aload_n hx hb0 dX8_isStar_2 rfl (lv_at hl 0 rfl) ?_
  refine gx_get hx hb0 hts in_RX8 hown hK hP 0 (by decide) (mE_0 _) rfl 0 (by decide) fl_RX8_7 rfl dX8_isStar_3 ?_
  refine lv_bipush (v := (13 : Int32)) hx hb0 dX8_isStar_6 (by decide) ?_
  refine gx_ialdK hx hb0 hK hP 1 0 (by decide) mE_1 rfl (vp_lit (13 : Int32) (by decide) (by decide)) 13 rfl dX8_isStar_8 ?_
  refine lv_iconst (v := (1 : Int32)) hx hb0 dX8_isStar_9 (by decide) ?_
  refine lv_isub hx hb0 dX8_isStar_10 ?_
  refine gx_si ⟨hx, hb0, hml, hown, hts⟩ (gKM_keep _) hk hK hP hD hS [.int x1, .int (0 : Int32), .int ((h0 1 13) - (1 : Int32))] [] (c_X8_within l dC dI P ad x1 (0 : Int32) ((h0 1 13) - (1 : Int32)) h0 _ he) gm_X8_within st_yX8_within ml_RX8_32 rfl rfl ⟨Nat.le_of_ble_eq_true rfl, Nat.le_of_ble_eq_true rfl⟩ rfl hl.1 rfl (Nat.le_of_ble_eq_true rfl) dX8_isStar_11 ⟨Nat.zero_le _, Nat.zero_le _⟩ (fun r_1 h_2 he H locs hP hD hS => ?_)
  obtain ⟨z_3, he⟩ := he
  exact gx_zret hx hb0 hr z_3 hlocks hK hP hD hS he dX8_isStar_14
theorem gm_X8_isStar : gMeth yX8_isStar cX8_isStar 2 (some .boolean) 1 := ⟨⟨by decide, by decide, by decide +kernel⟩, ini_RX8, co_yX8_isStar⟩
abbrev rm_X8_isNavigator : Room := { frames := 1, cells := 0, slots := 0, locals := 22 }
set_option maxHeartbeats 4000000 in
set_option maxRecDepth 100000 in
theorem c_X8_isNavigator (l : Launch) (dC : Nat → ClassId) (dI : Nat → Nat → Nat) (P : gP) (ad : Nat → Nat) (x0 : Int32) (h0 : Hp) (Q : Int32 → Hp → Prop) (he : F_X8_isNavigator x0 h0 Q) : Met l yX8_isNavigator (Cond.code yX8_isNavigator cX8_isNavigator 1 (some .boolean) :: TB) rm_X8_isNavigator (gPc (dC, dI) vwCl (tyC P) 7 (mE P ad) ad gKM h0 [.int x0]) (gQi (dC, dI) vwCl (tyC P) 7 (mE P ad) ad Q) 0 0 (gA 7 ad) := by
  refine gx_start (by decide) (Nat.le_of_ble_eq_true rfl) (fun p e s m below meth c ls hx hb0 hr hlocks hml hown hts hK hk hP hD hS hl => ?_)
  have hl : lv_has ls 1 [(0, .int x0)] := hl
  have hown : s.vm.findClass RX8 = some m.cls := hown
  unfold F_X8_isNavigator at he
  refine lv_iload_n hx hb0 dX8_isNavigator_0 rfl (lv_at hl 0 rfl) ?_
  refine lv_iconst (v := (0 : Int32)) hx hb0 dX8_isNavigator_1 (by decide) ?_
  refine lv_bipush (v := (6 : Int32)) hx hb0 dX8_isNavigator_2 (by decide) ?_
  refine gx_si ⟨hx, hb0, hml, hown, hts⟩ (gKM_keep _) hk hK hP hD hS [.int x0, .int (0 : Int32), .int (6 : Int32)] [] (c_X8_within l dC dI P ad x0 (0 : Int32) (6 : Int32) h0 _ he) gm_X8_within st_yX8_within ml_RX8_32 rfl rfl ⟨Nat.le_of_ble_eq_true rfl, Nat.le_of_ble_eq_true rfl⟩ rfl hl.1 rfl (Nat.le_of_ble_eq_true rfl) dX8_isNavigator_4 ⟨Nat.zero_le _, Nat.zero_le _⟩ (fun r_1 h_2 he H locs hP hD hS => ?_)
  obtain ⟨z_3, he⟩ := he
  exact gx_zret hx hb0 hr z_3 hlocks hK hP hD hS he dX8_isNavigator_7
theorem gm_X8_isNavigator : gMeth yX8_isNavigator cX8_isNavigator 1 (some .boolean) 1 := ⟨⟨by decide, by decide, by decide +kernel⟩, ini_RX8, co_yX8_isNavigator⟩
abbrev rm_X8_number : Room := { frames := 0, cells := 0, slots := 0, locals := 0 }
set_option maxHeartbeats 4000000 in
set_option maxRecDepth 100000 in
theorem c_X8_number (l : Launch) (dC : Nat → ClassId) (dI : Nat → Nat → Nat) (P : gP) (ad : Nat → Nat) (x1 : Int32) (x2 : Int32) (h0 : Hp) (Q : Int32 → Hp → Prop) (he : F_X8_number x1 x2 h0 Q) : Met l yX8_number (Cond.code yX8_number cX8_number 3 (some .int) :: TB) rm_X8_number (gPc (dC, dI) vwCl (tyC P) 7 (mE P ad) ad gKM h0 [.ref (ad 0), .int x1, .int x2]) (gQi (dC, dI) vwCl (tyC P) 7 (mE P ad) ad Q) 0 0 (gA 7 ad) := by
  refine gx_start (by decide) (Nat.le_of_ble_eq_true rfl) (fun p e s m below meth c ls hx hb0 hr hlocks hml hown hts hK hk hP hD hS hl => ?_)
  have hl : lv_has ls 3 [(0, .ref (ad 0)), (1, .int x1), (2, .int x2)] := hl
  have hown : s.vm.findClass RX8 = some m.cls := hown
  unfold F_X8_number at he
  refine lv_aload_n hx hb0 dX8_number_0 rfl (lv_at hl 0 rfl) ?_
  refine gx_get hx hb0 hts in_RX8 hown hK hP 0 (by decide) (mE_0 _) rfl 0 (by decide) fl_RX8_7 rfl dX8_number_1 ?_
  refine lv_bipush (v := (31 : Int32)) hx hb0 dX8_number_4 (by decide) ?_
  refine lv_bipush (v := (8 : Int32)) hx hb0 dX8_number_6 (by decide) ?_
  refine lv_iload_n hx hb0 dX8_number_8 rfl (lv_at hl 1 rfl) ?_
  refine lv_imul hx hb0 dX8_number_9 ?_
  refine lv_iadd hx hb0 dX8_number_10 ?_
  refine lv_iload_n hx hb0 dX8_number_11 rfl (lv_at hl 2 rfl) ?_
  refine lv_iadd hx hb0 dX8_number_12 ?_
  obtain ⟨v_1, he⟩ := he
  refine gx_iald hx hb0 hK hP 1 0 (by decide) mE_1 rfl v_1 dX8_number_13 ?_
  exact gx_iret hx hb0 hr hlocks hK hP hD hS he dX8_number_14
theorem gm_X8_number : gMeth yX8_number cX8_number 3 (some .int) 2 := ⟨⟨by decide, by decide, by decide +kernel⟩, ini_RX8, co_yX8_number⟩
abbrev rm_X8_putAside : Room := { frames := 0, cells := 0, slots := 0, locals := 0 }
set_option maxHeartbeats 4000000 in
set_option maxRecDepth 100000 in
theorem l_X8_putAside_2 (l : Launch) (dC : Nat → ClassId) (dI : Nat → Nat → Nat) (P : gP) (ad : Nat → Nat) {p : Program} {e : Env} {s : State} {m : MethodId} {args : Array Value} {below : List Frame} {meth : Method} {c : Code} (hx : p.tables.exec = Jvm.exec) (hb0 : c.code = cX8_putAside) (hr : meth.sig.returnType = none) (hlocks : meth.locks = false) (hml : c.maxLocals = 2) (hown : s.vm.findClass RX8 = some m.cls) (hts : ∀ w ∈ TB, w.before args s = true) (hK : va_K (dC, dI) vwCl (tyC P) s) (hk : gKM s) (Q : Hp → Prop) : ∀ (n : Nat) (y1 : Int32) (h0 : Hp), F_X8_putAside_L2  n y1 h0 Q → ∀ (H : Heap) (locs : List Loc) (ls : Array Slot), va_P (dC, dI) vwCl (gW 7 (mE P ad) ad h0) H → va_D (gA 7 ad) (gW 7 (mE P ad) ad h0) → va_S (gA 7 ad) s.heap H locs → lv_has ls 2 [(0, .ref (ad 0)), (1, .int y1)] → W p l e rm_X8_putAside s m args below meth c H locs 0 0 (MQ below (gQv (dC, dI) vwCl (tyC P) 7 (mE P ad) ad Q) args s 0 0 (gA 7 ad)) (F0 m 2 ls []) := by
  intro n
  induction n with
  | zero =>
    intro y1 h0 he
    exact he.elim
  | succ n ih =>
    intro y1 h0 he H locs ls hP hD hS hl
    rw [F_X8_putAside_L2] at he
    refine lv_iload_n hx hb0 dX8_putAside_2 rfl (lv_at hl 1 rfl) ?_
    refine lv_bipush (v := (119 : Int32)) hx hb0 dX8_putAside_3 (by decide) ?_
    refine lv_icmp_ge (tgt := 26) hx hb0 dX8_putAside_5 (by decide) (fun c_1 => ?_) (fun c_1 => ?_)
    · have he := he.1 c_1
      exact gx_vret hx hb0 hr hlocks hK hP hD hS he dX8_putAside_26
    · have he := he.2 c_1
      refine lv_aload_n hx hb0 dX8_putAside_8 rfl (lv_at hl 0 rfl) ?_
      refine gx_get hx hb0 hts in_RX8 hown hK hP 0 (by decide) (mE_0 _) rfl 1 (by decide) fl_RX8_13 rfl dX8_putAside_9 ?_
      refine lv_iload_n hx hb0 dX8_putAside_12 rfl (lv_at hl 1 rfl) ?_
      refine lv_aload_n hx hb0 dX8_putAside_13 rfl (lv_at hl 0 rfl) ?_
      refine gx_get hx hb0 hts in_RX8 hown hK hP 0 (by decide) (mE_0 _) rfl 0 (by decide) fl_RX8_7 rfl dX8_putAside_14 ?_
      refine lv_iload_n hx hb0 dX8_putAside_17 rfl (lv_at hl 1 rfl) ?_
      obtain ⟨v_2, he⟩ := he
      refine gx_iald hx hb0 hK hP 1 0 (by decide) mE_1 rfl v_2 dX8_putAside_18 ?_
      obtain ⟨v_4, he⟩ := he
      refine gx_iast hx hb0 hK hP hD hS 2 0 (by decide) mE_2 rfl v_4 dX8_putAside_19 (fun h_3 eh_3 H locs hP hD hS => ?_)
      have he := he h_3 eh_3
      obtain ⟨x_5, ex_5⟩ : ∃ y : Int32, y = y1 + 1 := ⟨_, rfl⟩
      have he := he x_5 ex_5
      refine lv_iinc (v := x_5) (lv' := [(1, .int x_5), (0, .ref (ad 0))]) hx hb0 dX8_putAside_20 hl (k := 1) rfl (by rw [ex_5]; rfl) (by decide) rfl (fun ls hl => ?_)
      refine lv_goto (tgt := 2) hx hb0 dX8_putAside_23 (by decide) ?_
      exact ih x_5 h_3 he _ _ ls hP hD hS (lv_sub hl [1, 0] rfl)
set_option maxHeartbeats 4000000 in
set_option maxRecDepth 100000 in
theorem c_X8_putAside (l : Launch) (dC : Nat → ClassId) (dI : Nat → Nat → Nat) (P : gP) (ad : Nat → Nat) (h0 : Hp) (Q : Hp → Prop) (he : F_X8_putAside  h0 Q) : Met l yX8_putAside (Cond.code yX8_putAside cX8_putAside 2 none :: TB) rm_X8_putAside (gPc (dC, dI) vwCl (tyC P) 7 (mE P ad) ad gKM h0 [.ref (ad 0)]) (gQv (dC, dI) vwCl (tyC P) 7 (mE P ad) ad Q) 0 0 (gA 7 ad) := by
  refine gx_start (by decide) (Nat.le_of_ble_eq_true rfl) (fun p e s m below meth c ls hx hb0 hr hlocks hml hown hts hK hk hP hD hS hl => ?_)
  have hl : lv_has ls 2 [(0, .ref (ad 0))] := hl
  have hown : s.vm.findClass RX8 = some m.cls := hown
  unfold F_X8_putAside at he
  refine lv_iconst (v := (0 : Int32)) hx hb0 dX8_putAside_0 (by decide) ?_
  refine lv_istore_n (lv' := [(1, .int (0 : Int32)), (0, .ref (ad 0))]) hx hb0 dX8_putAside_1 rfl hl (by decide) rfl (fun ls hl => ?_)
  obtain ⟨n_6, he⟩ := he
  exact l_X8_putAside_2 l dC dI P ad  hx hb0 hr hlocks hml hown hts hK hk Q n_6 (0 : Int32) h0 he _ _ ls hP hD hS (lv_sub hl [1, 0] rfl)
theorem gm_X8_putAside : gMeth yX8_putAside cX8_putAside 2 none 0 := ⟨⟨by decide, by decide, by decide +kernel⟩, ini_RX8, co_yX8_putAside⟩
abbrev rm_X8_takeBack : Room := { frames := 0, cells := 0, slots := 0, locals := 0 }
set_option maxHeartbeats 4000000 in
set_option maxRecDepth 100000 in
theorem l_X8_takeBack_2 (l : Launch) (dC : Nat → ClassId) (dI : Nat → Nat → Nat) (P : gP) (ad : Nat → Nat) {p : Program} {e : Env} {s : State} {m : MethodId} {args : Array Value} {below : List Frame} {meth : Method} {c : Code} (hx : p.tables.exec = Jvm.exec) (hb0 : c.code = cX8_takeBack) (hr : meth.sig.returnType = none) (hlocks : meth.locks = false) (hml : c.maxLocals = 2) (hown : s.vm.findClass RX8 = some m.cls) (hts : ∀ w ∈ TB, w.before args s = true) (hK : va_K (dC, dI) vwCl (tyC P) s) (hk : gKM s) (Q : Hp → Prop) : ∀ (n : Nat) (y1 : Int32) (h0 : Hp), F_X8_takeBack_L2  n y1 h0 Q → ∀ (H : Heap) (locs : List Loc) (ls : Array Slot), va_P (dC, dI) vwCl (gW 7 (mE P ad) ad h0) H → va_D (gA 7 ad) (gW 7 (mE P ad) ad h0) → va_S (gA 7 ad) s.heap H locs → lv_has ls 2 [(0, .ref (ad 0)), (1, .int y1)] → W p l e rm_X8_takeBack s m args below meth c H locs 0 0 (MQ below (gQv (dC, dI) vwCl (tyC P) 7 (mE P ad) ad Q) args s 0 0 (gA 7 ad)) (F0 m 2 ls []) := by
  intro n
  induction n with
  | zero =>
    intro y1 h0 he
    exact he.elim
  | succ n ih =>
    intro y1 h0 he H locs ls hP hD hS hl
    rw [F_X8_takeBack_L2] at he
    refine lv_iload_n hx hb0 dX8_takeBack_2 rfl (lv_at hl 1 rfl) ?_
    refine lv_bipush (v := (119 : Int32)) hx hb0 dX8_takeBack_3 (by decide) ?_
    refine lv_icmp_ge (tgt := 26) hx hb0 dX8_takeBack_5 (by decide) (fun c_1 => ?_) (fun c_1 => ?_)
    · have he := he.1 c_1
      exact gx_vret hx hb0 hr hlocks hK hP hD hS he dX8_takeBack_26
    · have he := he.2 c_1
      refine lv_aload_n hx hb0 dX8_takeBack_8 rfl (lv_at hl 0 rfl) ?_
      refine gx_get hx hb0 hts in_RX8 hown hK hP 0 (by decide) (mE_0 _) rfl 0 (by decide) fl_RX8_7 rfl dX8_takeBack_9 ?_
      refine lv_iload_n hx hb0 dX8_takeBack_12 rfl (lv_at hl 1 rfl) ?_
      refine lv_aload_n hx hb0 dX8_takeBack_13 rfl (lv_at hl 0 rfl) ?_
      refine gx_get hx hb0 hts in_RX8 hown hK hP 0 (by decide) (mE_0 _) rfl 1 (by decide) fl_RX8_13 rfl dX8_takeBack_14 ?_
      refine lv_iload_n hx hb0 dX8_takeBack_17 rfl (lv_at hl 1 rfl) ?_
      obtain ⟨v_2, he⟩ := he
      refine gx_iald hx hb0 hK hP 2 0 (by decide) mE_2 rfl v_2 dX8_takeBack_18 ?_
      obtain ⟨v_4, he⟩ := he
      refine gx_iast hx hb0 hK hP hD hS 1 0 (by decide) mE_1 rfl v_4 dX8_takeBack_19 (fun h_3 eh_3 H locs hP hD hS => ?_)
      have he := he h_3 eh_3
      obtain ⟨x_5, ex_5⟩ : ∃ y : Int32, y = y1 + 1 := ⟨_, rfl⟩
      have he := he x_5 ex_5
      refine lv_iinc (v := x_5) (lv' := [(1, .int x_5), (0, .ref (ad 0))]) hx hb0 dX8_takeBack_20 hl (k := 1) rfl (by rw [ex_5]; rfl) (by decide) rfl (fun ls hl => ?_)
      refine lv_goto (tgt := 2) hx hb0 dX8_takeBack_23 (by decide) ?_
      exact ih x_5 h_3 he _ _ ls hP hD hS (lv_sub hl [1, 0] rfl)
set_option maxHeartbeats 4000000 in
set_option maxRecDepth 100000 in
theorem c_X8_takeBack (l : Launch) (dC : Nat → ClassId) (dI : Nat → Nat → Nat) (P : gP) (ad : Nat → Nat) (h0 : Hp) (Q : Hp → Prop) (he : F_X8_takeBack  h0 Q) : Met l yX8_takeBack (Cond.code yX8_takeBack cX8_takeBack 2 none :: TB) rm_X8_takeBack (gPc (dC, dI) vwCl (tyC P) 7 (mE P ad) ad gKM h0 [.ref (ad 0)]) (gQv (dC, dI) vwCl (tyC P) 7 (mE P ad) ad Q) 0 0 (gA 7 ad) := by
  refine gx_start (by decide) (Nat.le_of_ble_eq_true rfl) (fun p e s m below meth c ls hx hb0 hr hlocks hml hown hts hK hk hP hD hS hl => ?_)
  have hl : lv_has ls 2 [(0, .ref (ad 0))] := hl
  have hown : s.vm.findClass RX8 = some m.cls := hown
  unfold F_X8_takeBack at he
  refine lv_iconst (v := (0 : Int32)) hx hb0 dX8_takeBack_0 (by decide) ?_
  refine lv_istore_n (lv' := [(1, .int (0 : Int32)), (0, .ref (ad 0))]) hx hb0 dX8_takeBack_1 rfl hl (by decide) rfl (fun ls hl => ?_)
  obtain ⟨n_6, he⟩ := he
  exact l_X8_takeBack_2 l dC dI P ad  hx hb0 hr hlocks hml hown hts hK hk Q n_6 (0 : Int32) h0 he _ _ ls hP hD hS (lv_sub hl [1, 0] rfl)
theorem gm_X8_takeBack : gMeth yX8_takeBack cX8_takeBack 2 none 0 := ⟨⟨by decide, by decide, by decide +kernel⟩, ini_RX8, co_yX8_takeBack⟩
abbrev rm_X8_push : Room := { frames := 0, cells := 0, slots := 0, locals := 0 }
set_option maxHeartbeats 4000000 in
set_option maxRecDepth 100000 in
theorem l_X8_push_51 (l : Launch) (dC : Nat → ClassId) (dI : Nat → Nat → Nat) (P : gP) (ad : Nat → Nat) {p : Program} {e : Env} {s : State} {m : MethodId} {args : Array Value} {below : List Frame} {meth : Method} {c : Code} (hx : p.tables.exec = Jvm.exec) (hb0 : c.code = cX8_push) (hr : meth.sig.returnType = none) (hlocks : meth.locks = false) (hml : c.maxLocals = 2) (hown : s.vm.findClass RX8 = some m.cls) (hts : ∀ w ∈ TB, w.before args s = true) (hK : va_K (dC, dI) vwCl (tyC P) s) (hk : gKM s) (Q : Hp → Prop) : ∀ (n : Nat) (y1 : Int32) (h0 : Hp), F_X8_push_L51  n y1 h0 Q → ∀ (H : Heap) (locs : List Loc) (ls : Array Slot), va_P (dC, dI) vwCl (gW 7 (mE P ad) ad h0) H → va_D (gA 7 ad) (gW 7 (mE P ad) ad h0) → va_S (gA 7 ad) s.heap H locs → lv_has ls 2 [(0, .ref (ad 0)), (1, .int y1)] → W p l e rm_X8_push s m args below meth c H locs 0 0 (MQ below (gQv (dC, dI) vwCl (tyC P) 7 (mE P ad) ad Q) args s 0 0 (gA 7 ad)) (F0 m 51 ls []) := by
  intro n
  induction n with
  | zero =>
    intro y1 h0 he
    exact he.elim
  | succ n ih =>
    intro y1 h0 he H locs ls hP hD hS hl
    rw [F_X8_push_L51] at he
    refine lv_iload_n hx hb0 dX8_push_51 rfl (lv_at hl 1 rfl) ?_
    refine lv_bipush (v := (119 : Int32)) hx hb0 dX8_push_52 (by decide) ?_
    refine lv_icmp_ge (tgt := 83) hx hb0 dX8_push_54 (by decide) (fun c_2 => ?_) (fun c_2 => ?_)
    · have he := he.1 c_2
      refine lv_aload_n hx hb0 dX8_push_83 rfl (lv_at hl 0 rfl) ?_
      refine lv_dup hx hb0 dX8_push_84 rfl ?_
      refine gx_get hx hb0 hts in_RX8 hown hK hP 0 (by decide) (mE_0 _) rfl 3 (by decide) fl_RX8_36 rfl dX8_push_85 ?_
      refine lv_iconst (v := (1 : Int32)) hx hb0 dX8_push_88 (by decide) ?_
      refine lv_iadd hx hb0 dX8_push_89 ?_
      refine gx_put hx hb0 hts in_RX8 tyX8 tyX8_ok nmX8 hown hK hP hD hS 0 (by decide) mE_0 rfl 3 (by decide) fl_RX8_36 rfl (tyX8_ok 3 (by decide)) (Nat.le_of_ble_eq_true rfl) rfl dX8_push_90 (fun h_3 eh_3 H locs hP hD hS => ?_)
      have he := he h_3 eh_3
      exact gx_vret hx hb0 hr hlocks hK hP hD hS he dX8_push_93
    · have he := he.2 c_2
      refine lv_aload_n hx hb0 dX8_push_57 rfl (lv_at hl 0 rfl) ?_
      refine gx_get hx hb0 hts in_RX8 hown hK hP 0 (by decide) (mE_0 _) rfl 2 (by decide) fl_RX8_16 rfl dX8_push_58 ?_
      refine lv_aload_n hx hb0 dX8_push_61 rfl (lv_at hl 0 rfl) ?_
      refine gx_get hx hb0 hts in_RX8 hown hK hP 0 (by decide) (mE_0 _) rfl 3 (by decide) fl_RX8_36 rfl dX8_push_62 ?_
      refine lv_bipush (v := (119 : Int32)) hx hb0 dX8_push_65 (by decide) ?_
      refine lv_imul hx hb0 dX8_push_67 ?_
      refine lv_iload_n hx hb0 dX8_push_68 rfl (lv_at hl 1 rfl) ?_
      refine lv_iadd hx hb0 dX8_push_69 ?_
      refine lv_aload_n hx hb0 dX8_push_70 rfl (lv_at hl 0 rfl) ?_
      refine gx_get hx hb0 hts in_RX8 hown hK hP 0 (by decide) (mE_0 _) rfl 1 (by decide) fl_RX8_13 rfl dX8_push_71 ?_
      refine lv_iload_n hx hb0 dX8_push_74 rfl (lv_at hl 1 rfl) ?_
      obtain ⟨v_4, he⟩ := he
      refine gx_iald hx hb0 hK hP 2 0 (by decide) mE_2 rfl v_4 dX8_push_75 ?_
      obtain ⟨v_6, he⟩ := he
      refine gx_iast hx hb0 hK hP hD hS 3 0 (by decide) mE_3 rfl v_6 dX8_push_76 (fun h_5 eh_5 H locs hP hD hS => ?_)
      have he := he h_5 eh_5
      obtain ⟨x_7, ex_7⟩ : ∃ y : Int32, y = y1 + 1 := ⟨_, rfl⟩
      have he := he x_7 ex_7
      refine lv_iinc (v := x_7) (lv' := [(1, .int x_7), (0, .ref (ad 0))]) hx hb0 dX8_push_77 hl (k := 1) rfl (by rw [ex_7]; rfl) (by decide) rfl (fun ls hl => ?_)
      refine lv_goto (tgt := 51) hx hb0 dX8_push_80 (by decide) ?_
      exact ih x_7 h_5 he _ _ ls hP hD hS (lv_sub hl [1, 0] rfl)
set_option maxHeartbeats 4000000 in
set_option maxRecDepth 100000 in
theorem l_X8_push_11 (l : Launch) (dC : Nat → ClassId) (dI : Nat → Nat → Nat) (P : gP) (ad : Nat → Nat) {p : Program} {e : Env} {s : State} {m : MethodId} {args : Array Value} {below : List Frame} {meth : Method} {c : Code} (hx : p.tables.exec = Jvm.exec) (hb0 : c.code = cX8_push) (hr : meth.sig.returnType = none) (hlocks : meth.locks = false) (hml : c.maxLocals = 2) (hown : s.vm.findClass RX8 = some m.cls) (hts : ∀ w ∈ TB, w.before args s = true) (hK : va_K (dC, dI) vwCl (tyC P) s) (hk : gKM s) (Q : Hp → Prop) : ∀ (n : Nat) (y1 : Int32) (h0 : Hp), F_X8_push_L11  n y1 h0 Q → ∀ (H : Heap) (locs : List Loc) (ls : Array Slot), va_P (dC, dI) vwCl (gW 7 (mE P ad) ad h0) H → va_D (gA 7 ad) (gW 7 (mE P ad) ad h0) → va_S (gA 7 ad) s.heap H locs → lv_has ls 2 [(0, .ref (ad 0)), (1, .int y1)] → W p l e rm_X8_push s m args below meth c H locs 0 0 (MQ below (gQv (dC, dI) vwCl (tyC P) 7 (mE P ad) ad Q) args s 0 0 (gA 7 ad)) (F0 m 11 ls []) := by
  intro n
  induction n with
  | zero =>
    intro y1 h0 he
    exact he.elim
  | succ n ih =>
    intro y1 h0 he H locs ls hP hD hS hl
    rw [F_X8_push_L11] at he
    refine lv_iload_n hx hb0 dX8_push_11 rfl (lv_at hl 1 rfl) ?_
    refine lv_sipush (v := (595 : Int32)) hx hb0 dX8_push_12 (by decide) ?_
    refine lv_icmp_ge (tgt := 39) hx hb0 dX8_push_15 (by decide) (fun c_9 => ?_) (fun c_9 => ?_)
    · have he := he.1 c_9
      refine lv_aload_n hx hb0 dX8_push_39 rfl (lv_at hl 0 rfl) ?_
      refine lv_dup hx hb0 dX8_push_40 rfl ?_
      refine gx_get hx hb0 hts in_RX8 hown hK hP 0 (by decide) (mE_0 _) rfl 3 (by decide) fl_RX8_36 rfl dX8_push_41 ?_
      refine lv_iconst (v := (1 : Int32)) hx hb0 dX8_push_44 (by decide) ?_
      refine lv_isub hx hb0 dX8_push_45 ?_
      refine gx_put hx hb0 hts in_RX8 tyX8 tyX8_ok nmX8 hown hK hP hD hS 0 (by decide) mE_0 rfl 3 (by decide) fl_RX8_36 rfl (tyX8_ok 3 (by decide)) (Nat.le_of_ble_eq_true rfl) rfl dX8_push_46 (fun h_10 eh_10 H locs hP hD hS => ?_)
      have he := he h_10 eh_10
      refine lv_iconst (v := (0 : Int32)) hx hb0 dX8_push_49 (by decide) ?_
      refine lv_istore_n (lv' := [(1, .int (0 : Int32)), (0, .ref (ad 0))]) hx hb0 dX8_push_50 rfl hl (by decide) rfl (fun ls hl => ?_)
      obtain ⟨n_11, he⟩ := he
      exact l_X8_push_51 l dC dI P ad  hx hb0 hr hlocks hml hown hts hK hk Q n_11 (0 : Int32) h_10 he _ _ ls hP hD hS (lv_sub hl [1, 0] rfl)
    · have he := he.2 c_9
      refine lv_aload_n hx hb0 dX8_push_18 rfl (lv_at hl 0 rfl) ?_
      refine gx_get hx hb0 hts in_RX8 hown hK hP 0 (by decide) (mE_0 _) rfl 2 (by decide) fl_RX8_16 rfl dX8_push_19 ?_
      refine lv_iload_n hx hb0 dX8_push_22 rfl (lv_at hl 1 rfl) ?_
      refine lv_aload_n hx hb0 dX8_push_23 rfl (lv_at hl 0 rfl) ?_
      refine gx_get hx hb0 hts in_RX8 hown hK hP 0 (by decide) (mE_0 _) rfl 2 (by decide) fl_RX8_16 rfl dX8_push_24 ?_
      refine lv_iload_n hx hb0 dX8_push_27 rfl (lv_at hl 1 rfl) ?_
      refine lv_bipush (v := (119 : Int32)) hx hb0 dX8_push_28 (by decide) ?_
      refine lv_iadd hx hb0 dX8_push_30 ?_
      obtain ⟨v_12, he⟩ := he
      refine gx_iald hx hb0 hK hP 3 0 (by decide) mE_3 rfl v_12 dX8_push_31 ?_
      obtain ⟨v_14, he⟩ := he
      refine gx_iast hx hb0 hK hP hD hS 3 0 (by decide) mE_3 rfl v_14 dX8_push_32 (fun h_13 eh_13 H locs hP hD hS => ?_)
      have he := he h_13 eh_13
      obtain ⟨x_15, ex_15⟩ : ∃ y : Int32, y = y1 + 1 := ⟨_, rfl⟩
      have he := he x_15 ex_15
      refine lv_iinc (v := x_15) (lv' := [(1, .int x_15), (0, .ref (ad 0))]) hx hb0 dX8_push_33 hl (k := 1) rfl (by rw [ex_15]; rfl) (by decide) rfl (fun ls hl => ?_)
      refine lv_goto (tgt := 11) hx hb0 dX8_push_36 (by decide) ?_
      exact ih x_15 h_13 he _ _ ls hP hD hS (lv_sub hl [1, 0] rfl)
set_option maxHeartbeats 4000000 in
set_option maxRecDepth 100000 in
theorem c_X8_push (l : Launch) (dC : Nat → ClassId) (dI : Nat → Nat → Nat) (P : gP) (ad : Nat → Nat) (h0 : Hp) (Q : Hp → Prop) (he : F_X8_push  h0 Q) : Met l yX8_push (Cond.code yX8_push cX8_push 2 none :: TB) rm_X8_push (gPc (dC, dI) vwCl (tyC P) 7 (mE P ad) ad gKM h0 [.ref (ad 0)]) (gQv (dC, dI) vwCl (tyC P) 7 (mE P ad) ad Q) 0 0 (gA 7 ad) := by
  refine gx_start (by decide) (Nat.le_of_ble_eq_true rfl) (fun p e s m below meth c ls hx hb0 hr hlocks hml hown hts hK hk hP hD hS hl => ?_)
  have hl : lv_has ls 2 [(0, .ref (ad 0))] := hl
  have hown : s.vm.findClass RX8 = some m.cls := hown
  unfold F_X8_push at he
  refine lv_aload_n hx hb0 dX8_push_0 rfl (lv_at hl 0 rfl) ?_
  refine gx_get hx hb0 hts in_RX8 hown hK hP 0 (by decide) (mE_0 _) rfl 3 (by decide) fl_RX8_36 rfl dX8_push_1 ?_
  refine lv_bipush (v := (6 : Int32)) hx hb0 dX8_push_4 (by decide) ?_
  refine lv_icmp_ne (tgt := 49) hx hb0 dX8_push_6 (by decide) (fun c_1 => ?_) (fun c_1 => ?_)
  · have he := he.2 c_1
    refine lv_iconst (v := (0 : Int32)) hx hb0 dX8_push_49 (by decide) ?_
    refine lv_istore_n (lv' := [(1, .int (0 : Int32)), (0, .ref (ad 0))]) hx hb0 dX8_push_50 rfl hl (by decide) rfl (fun ls hl => ?_)
    obtain ⟨n_8, he⟩ := he
    exact l_X8_push_51 l dC dI P ad  hx hb0 hr hlocks hml hown hts hK hk Q n_8 (0 : Int32) h0 he _ _ ls hP hD hS (lv_sub hl [1, 0] rfl)
  · have he := he.1 c_1
    refine lv_iconst (v := (0 : Int32)) hx hb0 dX8_push_9 (by decide) ?_
    refine lv_istore_n (lv' := [(1, .int (0 : Int32)), (0, .ref (ad 0))]) hx hb0 dX8_push_10 rfl hl (by decide) rfl (fun ls hl => ?_)
    obtain ⟨n_16, he⟩ := he
    exact l_X8_push_11 l dC dI P ad  hx hb0 hr hlocks hml hown hts hK hk Q n_16 (0 : Int32) h0 he _ _ ls hP hD hS (lv_sub hl [1, 0] rfl)
theorem gm_X8_push : gMeth yX8_push cX8_push 2 none 0 := ⟨⟨by decide, by decide, by decide +kernel⟩, ini_RX8, co_yX8_push⟩
abbrev rm_X8_recorded : Room := { frames := 1, cells := 0, slots := 0, locals := 21 }
set_option maxHeartbeats 4000000 in
set_option maxRecDepth 100000 in
theorem c_X8_recorded (l : Launch) (dC : Nat → ClassId) (dI : Nat → Nat → Nat) (P : gP) (ad : Nat → Nat) (x1 : Int32) (h0 : Hp) (Q : Int32 → Hp → Prop) (he : F_X8_recorded x1 h0 Q) : Met l yX8_recorded (Cond.code yX8_recorded cX8_recorded 2 (some .int) :: TB) rm_X8_recorded (gPc (dC, dI) vwCl (tyC P) 7 (mE P ad) ad gKM h0 [.ref (ad 0), .int x1]) (gQi (dC, dI) vwCl (tyC P) 7 (mE P ad) ad Q) 0 0 (gA 7 ad) := by
  refine gx_start (by decide) (Nat.le_of_ble_eq_true rfl) (fun p e s m below meth c ls hx hb0 hr hlocks hml hown hts hK hk hP hD hS hl => ?_)
  have hl : lv_has ls 2 [(0, .ref (ad 0)), (1, .int x1)] := hl
  have hown : s.vm.findClass RX8 = some m.cls := hown
  unfold F_X8_recorded at he
  refine lv_iload_n hx hb0 dX8_recorded_0 rfl (lv_at hl 1 rfl) ?_
  refine lv_if_lt (tgt := 8) hx hb0 dX8_recorded_1 (by decide) (fun c_1 => ?_) (fun c_1 => ?_)
  · have he := he.1 c_1
    refine lv_iload_n hx hb0 dX8_recorded_8 rfl (lv_at hl 1 rfl) ?_
    exact gx_iret hx hb0 hr hlocks hK hP hD hS he dX8_recorded_9
  · have he := he.2 c_1
    refine lv_aload_n hx hb0 dX8_recorded_4 rfl (lv_at hl 0 rfl) ?_
    refine gx_vv ⟨hx, hb0, hml, hown, hts⟩ (gKM_keep _) hk hK hP hD hS 0 [] [] (c_X8_push l dC dI P ad  h0 _ he) gm_X8_push im_yX8_push se_yX8_push ml_RX8_40 (by decide) (mE_0 _) rfl rfl rfl ⟨Nat.le_of_ble_eq_true rfl, Nat.le_of_ble_eq_true rfl⟩ rfl hl.1 rfl (Nat.le_of_ble_eq_true rfl) dX8_recorded_5 ⟨Nat.zero_le _, Nat.zero_le _⟩ (fun h_3 he H locs hP hD hS => ?_)
    refine lv_iload_n hx hb0 dX8_recorded_8 rfl (lv_at hl 1 rfl) ?_
    exact gx_iret hx hb0 hr hlocks hK hP hD hS he dX8_recorded_9
theorem gm_X8_recorded : gMeth yX8_recorded cX8_recorded 2 (some .int) 1 := ⟨⟨by decide, by decide, by decide +kernel⟩, ini_RX8, co_yX8_recorded⟩
abbrev rm_X8_undo : Room := { frames := 0, cells := 0, slots := 0, locals := 0 }
set_option maxHeartbeats 4000000 in
set_option maxRecDepth 100000 in
theorem l_X8_undo_22 (l : Launch) (dC : Nat → ClassId) (dI : Nat → Nat → Nat) (P : gP) (ad : Nat → Nat) {p : Program} {e : Env} {s : State} {m : MethodId} {args : Array Value} {below : List Frame} {meth : Method} {c : Code} (hx : p.tables.exec = Jvm.exec) (hb0 : c.code = cX8_undo) (hr : meth.sig.returnType = (some .int)) (hlocks : meth.locks = false) (hml : c.maxLocals = 2) (hown : s.vm.findClass RX8 = some m.cls) (hts : ∀ w ∈ TB, w.before args s = true) (hK : va_K (dC, dI) vwCl (tyC P) s) (hk : gKM s) (Q : Int32 → Hp → Prop) : ∀ (n : Nat) (y1 : Int32) (h0 : Hp), F_X8_undo_L22  n y1 h0 Q → ∀ (H : Heap) (locs : List Loc) (ls : Array Slot), va_P (dC, dI) vwCl (gW 7 (mE P ad) ad h0) H → va_D (gA 7 ad) (gW 7 (mE P ad) ad h0) → va_S (gA 7 ad) s.heap H locs → lv_has ls 2 [(0, .ref (ad 0)), (1, .int y1)] → W p l e rm_X8_undo s m args below meth c H locs 0 0 (MQ below (gQi (dC, dI) vwCl (tyC P) 7 (mE P ad) ad Q) args s 0 0 (gA 7 ad)) (F0 m 22 ls []) := by
  intro n
  induction n with
  | zero =>
    intro y1 h0 he
    exact he.elim
  | succ n ih =>
    intro y1 h0 he H locs ls hP hD hS hl
    rw [F_X8_undo_L22] at he
    refine lv_iload_n hx hb0 dX8_undo_22 rfl (lv_at hl 1 rfl) ?_
    refine lv_bipush (v := (119 : Int32)) hx hb0 dX8_undo_23 (by decide) ?_
    refine lv_icmp_ge (tgt := 54) hx hb0 dX8_undo_25 (by decide) (fun c_3 => ?_) (fun c_3 => ?_)
    · have he := he.1 c_3
      refine lv_aload_n hx hb0 dX8_undo_54 rfl (lv_at hl 0 rfl) ?_
      refine gx_get hx hb0 hts in_RX8 hown hK hP 0 (by decide) (mE_0 _) rfl 3 (by decide) fl_RX8_36 rfl dX8_undo_55 ?_
      exact gx_iret hx hb0 hr hlocks hK hP hD hS he dX8_undo_58
    · have he := he.2 c_3
      refine lv_aload_n hx hb0 dX8_undo_28 rfl (lv_at hl 0 rfl) ?_
      refine gx_get hx hb0 hts in_RX8 hown hK hP 0 (by decide) (mE_0 _) rfl 0 (by decide) fl_RX8_7 rfl dX8_undo_29 ?_
      refine lv_iload_n hx hb0 dX8_undo_32 rfl (lv_at hl 1 rfl) ?_
      refine lv_aload_n hx hb0 dX8_undo_33 rfl (lv_at hl 0 rfl) ?_
      refine gx_get hx hb0 hts in_RX8 hown hK hP 0 (by decide) (mE_0 _) rfl 2 (by decide) fl_RX8_16 rfl dX8_undo_34 ?_
      refine lv_aload_n hx hb0 dX8_undo_37 rfl (lv_at hl 0 rfl) ?_
      refine gx_get hx hb0 hts in_RX8 hown hK hP 0 (by decide) (mE_0 _) rfl 3 (by decide) fl_RX8_36 rfl dX8_undo_38 ?_
      refine lv_bipush (v := (119 : Int32)) hx hb0 dX8_undo_41 (by decide) ?_
      refine lv_imul hx hb0 dX8_undo_43 ?_
      refine lv_iload_n hx hb0 dX8_undo_44 rfl (lv_at hl 1 rfl) ?_
      refine lv_iadd hx hb0 dX8_undo_45 ?_
      obtain ⟨v_4, he⟩ := he
      refine gx_iald hx hb0 hK hP 3 0 (by decide) mE_3 rfl v_4 dX8_undo_46 ?_
      obtain ⟨v_6, he⟩ := he
      refine gx_iast hx hb0 hK hP hD hS 1 0 (by decide) mE_1 rfl v_6 dX8_undo_47 (fun h_5 eh_5 H locs hP hD hS => ?_)
      have he := he h_5 eh_5
      obtain ⟨x_7, ex_7⟩ : ∃ y : Int32, y = y1 + 1 := ⟨_, rfl⟩
      have he := he x_7 ex_7
      refine lv_iinc (v := x_7) (lv' := [(1, .int x_7), (0, .ref (ad 0))]) hx hb0 dX8_undo_48 hl (k := 1) rfl (by rw [ex_7]; rfl) (by decide) rfl (fun ls hl => ?_)
      refine lv_goto (tgt := 22) hx hb0 dX8_undo_51 (by decide) ?_
      exact ih x_7 h_5 he _ _ ls hP hD hS (lv_sub hl [1, 0] rfl)
set_option maxHeartbeats 4000000 in
set_option maxRecDepth 100000 in
theorem c_X8_undo (l : Launch) (dC : Nat → ClassId) (dI : Nat → Nat → Nat) (P : gP) (ad : Nat → Nat) (h0 : Hp) (Q : Int32 → Hp → Prop) (he : F_X8_undo  h0 Q) : Met l yX8_undo (Cond.code yX8_undo cX8_undo 2 (some .int) :: TB) rm_X8_undo (gPc (dC, dI) vwCl (tyC P) 7 (mE P ad) ad gKM h0 [.ref (ad 0)]) (gQi (dC, dI) vwCl (tyC P) 7 (mE P ad) ad Q) 0 0 (gA 7 ad) := by
  refine gx_start (by decide) (Nat.le_of_ble_eq_true rfl) (fun p e s m below meth c ls hx hb0 hr hlocks hml hown hts hK hk hP hD hS hl => ?_)
  have hl : lv_has ls 2 [(0, .ref (ad 0))] := hl
  have hown : s.vm.findClass RX8 = some m.cls := hown
  unfold F_X8_undo at he
  refine lv_aload_n hx hb0 dX8_undo_0 rfl (lv_at hl 0 rfl) ?_
  refine gx_get hx hb0 hts in_RX8 hown hK hP 0 (by decide) (mE_0 _) rfl 3 (by decide) fl_RX8_36 rfl dX8_undo_1 ?_
  refine lv_if_ne (tgt := 10) hx hb0 dX8_undo_4 (by decide) (fun c_1 => ?_) (fun c_1 => ?_)
  · have he := he.2 c_1
    refine lv_aload_n hx hb0 dX8_undo_10 rfl (lv_at hl 0 rfl) ?_
    refine lv_dup hx hb0 dX8_undo_11 rfl ?_
    refine gx_get hx hb0 hts in_RX8 hown hK hP 0 (by decide) (mE_0 _) rfl 3 (by decide) fl_RX8_36 rfl dX8_undo_12 ?_
    refine lv_iconst (v := (1 : Int32)) hx hb0 dX8_undo_15 (by decide) ?_
    refine lv_isub hx hb0 dX8_undo_16 ?_
    refine gx_put hx hb0 hts in_RX8 tyX8 tyX8_ok nmX8 hown hK hP hD hS 0 (by decide) mE_0 rfl 3 (by decide) fl_RX8_36 rfl (tyX8_ok 3 (by decide)) (Nat.le_of_ble_eq_true rfl) rfl dX8_undo_17 (fun h_2 eh_2 H locs hP hD hS => ?_)
    have he := he h_2 eh_2
    refine lv_iconst (v := (0 : Int32)) hx hb0 dX8_undo_20 (by decide) ?_
    refine lv_istore_n (lv' := [(1, .int (0 : Int32)), (0, .ref (ad 0))]) hx hb0 dX8_undo_21 rfl hl (by decide) rfl (fun ls hl => ?_)
    obtain ⟨n_8, he⟩ := he
    exact l_X8_undo_22 l dC dI P ad  hx hb0 hr hlocks hml hown hts hK hk Q n_8 (0 : Int32) h_2 he _ _ ls hP hD hS (lv_sub hl [1, 0] rfl)
  · have he := he.1 c_1
    refine lv_bipush (v := (-5 : Int32)) hx hb0 dX8_undo_7 (by decide) ?_
    exact gx_iret hx hb0 hr hlocks hK hP hD hS he dX8_undo_9
theorem gm_X8_undo : gMeth yX8_undo cX8_undo 2 (some .int) 0 := ⟨⟨by decide, by decide, by decide +kernel⟩, ini_RX8, co_yX8_undo⟩
abbrev rm_X8_isSlot : Room := { frames := 1, cells := 0, slots := 0, locals := 22 }
set_option maxHeartbeats 4000000 in
set_option maxRecDepth 100000 in
theorem c_X8_isSlot (l : Launch) (dC : Nat → ClassId) (dI : Nat → Nat → Nat) (P : gP) (ad : Nat → Nat) (x0 : Int32) (h0 : Hp) (Q : Int32 → Hp → Prop) (he : F_X8_isSlot x0 h0 Q) : Met l yX8_isSlot (Cond.code yX8_isSlot cX8_isSlot 1 (some .boolean) :: TB) rm_X8_isSlot (gPc (dC, dI) vwCl (tyC P) 7 (mE P ad) ad gKM h0 [.int x0]) (gQi (dC, dI) vwCl (tyC P) 7 (mE P ad) ad Q) 0 0 (gA 7 ad) := by
  refine gx_start (by decide) (Nat.le_of_ble_eq_true rfl) (fun p e s m below meth c ls hx hb0 hr hlocks hml hown hts hK hk hP hD hS hl => ?_)
  have hl : lv_has ls 1 [(0, .int x0)] := hl
  have hown : s.vm.findClass RX8 = some m.cls := hown
  unfold F_X8_isSlot at he
  refine lv_iload_n hx hb0 dX8_isSlot_0 rfl (lv_at hl 0 rfl) ?_
  refine lv_iconst (v := (0 : Int32)) hx hb0 dX8_isSlot_1 (by decide) ?_
  refine lv_iconst (v := (1 : Int32)) hx hb0 dX8_isSlot_2 (by decide) ?_
  refine gx_si ⟨hx, hb0, hml, hown, hts⟩ (gKM_keep _) hk hK hP hD hS [.int x0, .int (0 : Int32), .int (1 : Int32)] [] (c_X8_within l dC dI P ad x0 (0 : Int32) (1 : Int32) h0 _ he) gm_X8_within st_yX8_within ml_RX8_32 rfl rfl ⟨Nat.le_of_ble_eq_true rfl, Nat.le_of_ble_eq_true rfl⟩ rfl hl.1 rfl (Nat.le_of_ble_eq_true rfl) dX8_isSlot_3 ⟨Nat.zero_le _, Nat.zero_le _⟩ (fun r_1 h_2 he H locs hP hD hS => ?_)
  obtain ⟨z_3, he⟩ := he
  exact gx_zret hx hb0 hr z_3 hlocks hK hP hD hS he dX8_isSlot_6
theorem gm_X8_isSlot : gMeth yX8_isSlot cX8_isSlot 1 (some .boolean) 1 := ⟨⟨by decide, by decide, by decide +kernel⟩, ini_RX8, co_yX8_isSlot⟩
abbrev rm_X8_save : Room := { frames := 2, cells := 0, slots := 0, locals := 42 }
set_option maxHeartbeats 4000000 in
set_option maxRecDepth 100000 in
theorem l_X8_save_12 (l : Launch) (dC : Nat → ClassId) (dI : Nat → Nat → Nat) (P : gP) (ad : Nat → Nat) {p : Program} {e : Env} {s : State} {m : MethodId} {args : Array Value} {below : List Frame} {meth : Method} {c : Code} (hx : p.tables.exec = Jvm.exec) (hb0 : c.code = cX8_save) (hr : meth.sig.returnType = (some .int)) (hlocks : meth.locks = false) (hml : c.maxLocals = 3) (hown : s.vm.findClass RX8 = some m.cls) (hts : ∀ w ∈ TB, w.before args s = true) (hK : va_K (dC, dI) vwCl (tyC P) s) (hk : gKM s) (Q : Int32 → Hp → Prop) : ∀ (n : Nat) (y1 : Int32) (y2 : Int32) (h0 : Hp), F_X8_save_L12  n y1 y2 h0 Q → ∀ (H : Heap) (locs : List Loc) (ls : Array Slot), va_P (dC, dI) vwCl (gW 7 (mE P ad) ad h0) H → va_D (gA 7 ad) (gW 7 (mE P ad) ad h0) → va_S (gA 7 ad) s.heap H locs → lv_has ls 3 [(0, .ref (ad 0)), (1, .int y1), (2, .int y2)] → W p l e rm_X8_save s m args below meth c H locs 0 0 (MQ below (gQi (dC, dI) vwCl (tyC P) 7 (mE P ad) ad Q) args s 0 0 (gA 7 ad)) (F0 m 12 ls []) := by
  intro n
  induction n with
  | zero =>
    intro y1 y2 h0 he
    exact he.elim
  | succ n ih =>
    intro y1 y2 h0 he H locs ls hP hD hS hl
    rw [F_X8_save_L12] at he
    refine lv_iload_n hx hb0 dX8_save_12 rfl (lv_at hl 2 rfl) ?_
    refine lv_bipush (v := (119 : Int32)) hx hb0 dX8_save_13 (by decide) ?_
    refine lv_icmp_ge (tgt := 41) hx hb0 dX8_save_15 (by decide) (fun c_4 => ?_) (fun c_4 => ?_)
    · have he := he.1 c_4
      refine lv_aload_n hx hb0 dX8_save_41 rfl (lv_at hl 0 rfl) ?_
      refine gx_get hx hb0 hts in_RX8 hown hK hP 0 (by decide) (mE_0 _) rfl 5 (by decide) fl_RX8_22 rfl dX8_save_42 ?_
      refine lv_iload_n hx hb0 dX8_save_45 rfl (lv_at hl 1 rfl) ?_
      refine lv_iconst (v := (1 : Int32)) hx hb0 dX8_save_46 (by decide) ?_
      obtain ⟨v_6, he⟩ := he
      refine gx_iast hx hb0 hK hP hD hS 5 0 (by decide) mE_5 rfl v_6 dX8_save_47 (fun h_5 eh_5 H locs hP hD hS => ?_)
      have he := he h_5 eh_5
      refine lv_aload_n hx hb0 dX8_save_48 rfl (lv_at hl 0 rfl) ?_
      refine gx_get hx hb0 hts in_RX8 hown hK hP 0 (by decide) (mE_0 _) rfl 0 (by decide) fl_RX8_7 rfl dX8_save_49 ?_
      refine lv_bipush (v := (13 : Int32)) hx hb0 dX8_save_52 (by decide) ?_
      refine gx_ialdK hx hb0 hK hP 1 0 (by decide) mE_1 rfl (vp_lit (13 : Int32) (by decide) (by decide)) 13 rfl dX8_save_54 ?_
      exact gx_iret hx hb0 hr hlocks hK hP hD hS he dX8_save_55
    · have he := he.2 c_4
      refine lv_aload_n hx hb0 dX8_save_18 rfl (lv_at hl 0 rfl) ?_
      refine gx_get hx hb0 hts in_RX8 hown hK hP 0 (by decide) (mE_0 _) rfl 4 (by decide) fl_RX8_19 rfl dX8_save_19 ?_
      refine lv_iload_n hx hb0 dX8_save_22 rfl (lv_at hl 1 rfl) ?_
      refine lv_bipush (v := (119 : Int32)) hx hb0 dX8_save_23 (by decide) ?_
      refine lv_imul hx hb0 dX8_save_25 ?_
      refine lv_iload_n hx hb0 dX8_save_26 rfl (lv_at hl 2 rfl) ?_
      refine lv_iadd hx hb0 dX8_save_27 ?_
      refine lv_aload_n hx hb0 dX8_save_28 rfl (lv_at hl 0 rfl) ?_
      refine gx_get hx hb0 hts in_RX8 hown hK hP 0 (by decide) (mE_0 _) rfl 0 (by decide) fl_RX8_7 rfl dX8_save_29 ?_
      refine lv_iload_n hx hb0 dX8_save_32 rfl (lv_at hl 2 rfl) ?_
      obtain ⟨v_7, he⟩ := he
      refine gx_iald hx hb0 hK hP 1 0 (by decide) mE_1 rfl v_7 dX8_save_33 ?_
      obtain ⟨v_9, he⟩ := he
      refine gx_iast hx hb0 hK hP hD hS 4 0 (by decide) mE_4 rfl v_9 dX8_save_34 (fun h_8 eh_8 H locs hP hD hS => ?_)
      have he := he h_8 eh_8
      obtain ⟨x_10, ex_10⟩ : ∃ y : Int32, y = y2 + 1 := ⟨_, rfl⟩
      have he := he x_10 ex_10
      refine lv_iinc (v := x_10) (lv' := [(2, .int x_10), (0, .ref (ad 0)), (1, .int y1)]) hx hb0 dX8_save_35 hl (k := 2) rfl (by rw [ex_10]; rfl) (by decide) rfl (fun ls hl => ?_)
      refine lv_goto (tgt := 12) hx hb0 dX8_save_38 (by decide) ?_
      exact ih y1 x_10 h_8 he _ _ ls hP hD hS (lv_sub hl [1, 2, 0] rfl)
set_option maxHeartbeats 4000000 in
set_option maxRecDepth 100000 in
theorem c_X8_save (l : Launch) (dC : Nat → ClassId) (dI : Nat → Nat → Nat) (P : gP) (ad : Nat → Nat) (x1 : Int32) (h0 : Hp) (Q : Int32 → Hp → Prop) (he : F_X8_save x1 h0 Q) : Met l yX8_save (Cond.code yX8_save cX8_save 3 (some .int) :: TB) rm_X8_save (gPc (dC, dI) vwCl (tyC P) 7 (mE P ad) ad gKM h0 [.ref (ad 0), .int x1]) (gQi (dC, dI) vwCl (tyC P) 7 (mE P ad) ad Q) 0 0 (gA 7 ad) := by
  refine gx_start (by decide) (Nat.le_of_ble_eq_true rfl) (fun p e s m below meth c ls hx hb0 hr hlocks hml hown hts hK hk hP hD hS hl => ?_)
  have hl : lv_has ls 3 [(0, .ref (ad 0)), (1, .int x1)] := hl
  have hown : s.vm.findClass RX8 = some m.cls := hown
  unfold F_X8_save at he
  refine lv_iload_n hx hb0 dX8_save_0 rfl (lv_at hl 1 rfl) ?_
  refine gx_si ⟨hx, hb0, hml, hown, hts⟩ (gKM_keep _) hk hK hP hD hS [.int x1] [] (c_X8_isSlot l dC dI P ad x1 h0 _ he) gm_X8_isSlot st_yX8_isSlot ml_RX8_43 rfl rfl ⟨Nat.le_of_ble_eq_true rfl, Nat.le_of_ble_eq_true rfl⟩ rfl hl.1 rfl (Nat.le_of_ble_eq_true rfl) dX8_save_1 ⟨Nat.zero_le _, Nat.zero_le _⟩ (fun r_1 h_2 he H locs hP hD hS => ?_)
  refine lv_if_ne (tgt := 10) hx hb0 dX8_save_4 (by decide) (fun c_3 => ?_) (fun c_3 => ?_)
  · have he := he.2 c_3
    refine lv_iconst (v := (0 : Int32)) hx hb0 dX8_save_10 (by decide) ?_
    refine lv_istore_n (lv' := [(2, .int (0 : Int32)), (0, .ref (ad 0)), (1, .int x1)]) hx hb0 dX8_save_11 rfl hl (by decide) rfl (fun ls hl => ?_)
    obtain ⟨n_11, he⟩ := he
    exact l_X8_save_12 l dC dI P ad  hx hb0 hr hlocks hml hown hts hK hk Q n_11 x1 (0 : Int32) h_2 he _ _ ls hP hD hS (lv_sub hl [1, 2, 0] rfl)
  · have he := he.1 c_3
    refine lv_bipush (v := (-2 : Int32)) hx hb0 dX8_save_7 (by decide) ?_
    exact gx_iret hx hb0 hr hlocks hK hP hD hS he dX8_save_9
theorem gm_X8_save : gMeth yX8_save cX8_save 3 (some .int) 1 := ⟨⟨by decide, by decide, by decide +kernel⟩, ini_RX8, co_yX8_save⟩
abbrev rm_X8_restore : Room := { frames := 2, cells := 0, slots := 0, locals := 42 }
set_option maxHeartbeats 4000000 in
set_option maxRecDepth 100000 in
theorem l_X8_restore_32 (l : Launch) (dC : Nat → ClassId) (dI : Nat → Nat → Nat) (P : gP) (ad : Nat → Nat) {p : Program} {e : Env} {s : State} {m : MethodId} {args : Array Value} {below : List Frame} {meth : Method} {c : Code} (hx : p.tables.exec = Jvm.exec) (hb0 : c.code = cX8_restore) (hr : meth.sig.returnType = (some .int)) (hlocks : meth.locks = false) (hml : c.maxLocals = 3) (hown : s.vm.findClass RX8 = some m.cls) (hts : ∀ w ∈ TB, w.before args s = true) (hK : va_K (dC, dI) vwCl (tyC P) s) (hk : gKM s) (Q : Int32 → Hp → Prop) : ∀ (n : Nat) (y1 : Int32) (y2 : Int32) (h0 : Hp), F_X8_restore_L32  n y1 y2 h0 Q → ∀ (H : Heap) (locs : List Loc) (ls : Array Slot), va_P (dC, dI) vwCl (gW 7 (mE P ad) ad h0) H → va_D (gA 7 ad) (gW 7 (mE P ad) ad h0) → va_S (gA 7 ad) s.heap H locs → lv_has ls 3 [(0, .ref (ad 0)), (1, .int y1), (2, .int y2)] → W p l e rm_X8_restore s m args below meth c H locs 0 0 (MQ below (gQi (dC, dI) vwCl (tyC P) 7 (mE P ad) ad Q) args s 0 0 (gA 7 ad)) (F0 m 32 ls []) := by
  intro n
  induction n with
  | zero =>
    intro y1 y2 h0 he
    exact he.elim
  | succ n ih =>
    intro y1 y2 h0 he H locs ls hP hD hS hl
    rw [F_X8_restore_L32] at he
    refine lv_iload_n hx hb0 dX8_restore_32 rfl (lv_at hl 2 rfl) ?_
    refine lv_bipush (v := (119 : Int32)) hx hb0 dX8_restore_33 (by decide) ?_
    refine lv_icmp_ge (tgt := 61) hx hb0 dX8_restore_35 (by decide) (fun c_10 => ?_) (fun c_10 => ?_)
    · have he := he.1 c_10
      refine lv_aload_n hx hb0 dX8_restore_61 rfl (lv_at hl 0 rfl) ?_
      refine gx_get hx hb0 hts in_RX8 hown hK hP 0 (by decide) (mE_0 _) rfl 0 (by decide) fl_RX8_7 rfl dX8_restore_62 ?_
      refine lv_bipush (v := (13 : Int32)) hx hb0 dX8_restore_65 (by decide) ?_
      refine gx_ialdK hx hb0 hK hP 1 0 (by decide) mE_1 rfl (vp_lit (13 : Int32) (by decide) (by decide)) 13 rfl dX8_restore_67 ?_
      exact gx_iret hx hb0 hr hlocks hK hP hD hS he dX8_restore_68
    · have he := he.2 c_10
      refine lv_aload_n hx hb0 dX8_restore_38 rfl (lv_at hl 0 rfl) ?_
      refine gx_get hx hb0 hts in_RX8 hown hK hP 0 (by decide) (mE_0 _) rfl 0 (by decide) fl_RX8_7 rfl dX8_restore_39 ?_
      refine lv_iload_n hx hb0 dX8_restore_42 rfl (lv_at hl 2 rfl) ?_
      refine lv_aload_n hx hb0 dX8_restore_43 rfl (lv_at hl 0 rfl) ?_
      refine gx_get hx hb0 hts in_RX8 hown hK hP 0 (by decide) (mE_0 _) rfl 4 (by decide) fl_RX8_19 rfl dX8_restore_44 ?_
      refine lv_iload_n hx hb0 dX8_restore_47 rfl (lv_at hl 1 rfl) ?_
      refine lv_bipush (v := (119 : Int32)) hx hb0 dX8_restore_48 (by decide) ?_
      refine lv_imul hx hb0 dX8_restore_50 ?_
      refine lv_iload_n hx hb0 dX8_restore_51 rfl (lv_at hl 2 rfl) ?_
      refine lv_iadd hx hb0 dX8_restore_52 ?_
      obtain ⟨v_11, he⟩ := he
      refine gx_iald hx hb0 hK hP 4 0 (by decide) mE_4 rfl v_11 dX8_restore_53 ?_
      obtain ⟨v_13, he⟩ := he
      refine gx_iast hx hb0 hK hP hD hS 1 0 (by decide) mE_1 rfl v_13 dX8_restore_54 (fun h_12 eh_12 H locs hP hD hS => ?_)
      have he := he h_12 eh_12
      obtain ⟨x_14, ex_14⟩ : ∃ y : Int32, y = y2 + 1 := ⟨_, rfl⟩
      have he := he x_14 ex_14
      refine lv_iinc (v := x_14) (lv' := [(2, .int x_14), (0, .ref (ad 0)), (1, .int y1)]) hx hb0 dX8_restore_55 hl (k := 2) rfl (by rw [ex_14]; rfl) (by decide) rfl (fun ls hl => ?_)
      refine lv_goto (tgt := 32) hx hb0 dX8_restore_58 (by decide) ?_
      exact ih y1 x_14 h_12 he _ _ ls hP hD hS (lv_sub hl [1, 2, 0] rfl)
set_option maxHeartbeats 4000000 in
set_option maxRecDepth 100000 in
theorem c_X8_restore (l : Launch) (dC : Nat → ClassId) (dI : Nat → Nat → Nat) (P : gP) (ad : Nat → Nat) (x1 : Int32) (h0 : Hp) (Q : Int32 → Hp → Prop) (he : F_X8_restore x1 h0 Q) : Met l yX8_restore (Cond.code yX8_restore cX8_restore 3 (some .int) :: TB) rm_X8_restore (gPc (dC, dI) vwCl (tyC P) 7 (mE P ad) ad gKM h0 [.ref (ad 0), .int x1]) (gQi (dC, dI) vwCl (tyC P) 7 (mE P ad) ad Q) 0 0 (gA 7 ad) := by
  refine gx_start (by decide) (Nat.le_of_ble_eq_true rfl) (fun p e s m below meth c ls hx hb0 hr hlocks hml hown hts hK hk hP hD hS hl => ?_)
  have hl : lv_has ls 3 [(0, .ref (ad 0)), (1, .int x1)] := hl
  have hown : s.vm.findClass RX8 = some m.cls := hown
  unfold F_X8_restore at he
  refine lv_iload_n hx hb0 dX8_restore_0 rfl (lv_at hl 1 rfl) ?_
  refine gx_si ⟨hx, hb0, hml, hown, hts⟩ (gKM_keep _) hk hK hP hD hS [.int x1] [] (c_X8_isSlot l dC dI P ad x1 h0 _ he) gm_X8_isSlot st_yX8_isSlot ml_RX8_43 rfl rfl ⟨Nat.le_of_ble_eq_true rfl, Nat.le_of_ble_eq_true rfl⟩ rfl hl.1 rfl (Nat.le_of_ble_eq_true rfl) dX8_restore_1 ⟨Nat.zero_le _, Nat.zero_le _⟩ (fun r_1 h_2 he H locs hP hD hS => ?_)
  refine lv_if_ne (tgt := 10) hx hb0 dX8_restore_4 (by decide) (fun c_3 => ?_) (fun c_3 => ?_)
  · have he := he.2 c_3
    refine lv_aload_n hx hb0 dX8_restore_10 rfl (lv_at hl 0 rfl) ?_
    refine gx_get hx hb0 hts in_RX8 hown hK hP 0 (by decide) (mE_0 _) rfl 5 (by decide) fl_RX8_22 rfl dX8_restore_11 ?_
    refine lv_iload_n hx hb0 dX8_restore_14 rfl (lv_at hl 1 rfl) ?_
    obtain ⟨v_4, he⟩ := he
    refine gx_iald hx hb0 hK hP 5 0 (by decide) mE_5 rfl v_4 dX8_restore_15 ?_
    refine lv_if_ne (tgt := 22) hx hb0 dX8_restore_16 (by decide) (fun c_5 => ?_) (fun c_5 => ?_)
    · have he := he.2 c_5
      refine lv_aload_n hx hb0 dX8_restore_22 rfl (lv_at hl 0 rfl) ?_
      refine gx_vv ⟨hx, hb0, hml, hown, hts⟩ (gKM_keep _) hk hK hP hD hS 0 [] [] (c_X8_putAside l dC dI P ad  h_2 _ he) gm_X8_putAside im_yX8_putAside se_yX8_putAside ml_RX8_47 (by decide) (mE_0 _) rfl rfl rfl ⟨Nat.le_of_ble_eq_true rfl, Nat.le_of_ble_eq_true rfl⟩ rfl hl.1 rfl (Nat.le_of_ble_eq_true rfl) dX8_restore_23 ⟨Nat.zero_le _, Nat.zero_le _⟩ (fun h_7 he H locs hP hD hS => ?_)
      refine lv_aload_n hx hb0 dX8_restore_26 rfl (lv_at hl 0 rfl) ?_
      refine gx_vv ⟨hx, hb0, hml, hown, hts⟩ (gKM_keep _) hk hK hP hD hS 0 [] [] (c_X8_push l dC dI P ad  h_7 _ he) gm_X8_push im_yX8_push se_yX8_push ml_RX8_40 (by decide) (mE_0 _) rfl rfl rfl ⟨Nat.le_of_ble_eq_true rfl, Nat.le_of_ble_eq_true rfl⟩ rfl hl.1 rfl (Nat.le_of_ble_eq_true rfl) dX8_restore_27 ⟨Nat.zero_le _, Nat.zero_le _⟩ (fun h_9 he H locs hP hD hS => ?_)
      refine lv_iconst (v := (0 : Int32)) hx hb0 dX8_restore_30 (by decide) ?_
      refine lv_istore_n (lv' := [(2, .int (0 : Int32)), (0, .ref (ad 0)), (1, .int x1)]) hx hb0 dX8_restore_31 rfl hl (by decide) rfl (fun ls hl => ?_)
      obtain ⟨n_15, he⟩ := he
      exact l_X8_restore_32 l dC dI P ad  hx hb0 hr hlocks hml hown hts hK hk Q n_15 x1 (0 : Int32) h_9 he _ _ ls hP hD hS (lv_sub hl [1, 2, 0] rfl)
    · have he := he.1 c_5
      refine lv_bipush (v := (-5 : Int32)) hx hb0 dX8_restore_19 (by decide) ?_
      exact gx_iret hx hb0 hr hlocks hK hP hD hS he dX8_restore_21
  · have he := he.1 c_3
    refine lv_bipush (v := (-2 : Int32)) hx hb0 dX8_restore_7 (by decide) ?_
    exact gx_iret hx hb0 hr hlocks hK hP hD hS he dX8_restore_9
theorem gm_X8_restore : gMeth yX8_restore cX8_restore 3 (some .int) 1 := ⟨⟨by decide, by decide, by decide +kernel⟩, ini_RX8, co_yX8_restore⟩
abbrev rm_X8_height : Room := { frames := 1, cells := 0, slots := 0, locals := 20 }
set_option maxHeartbeats 4000000 in
set_option maxRecDepth 100000 in
theorem c_X8_height (l : Launch) (dC : Nat → ClassId) (dI : Nat → Nat → Nat) (P : gP) (ad : Nat → Nat) (x1 : Int32) (h0 : Hp) (Q : Int32 → Hp → Prop) (he : F_X8_height x1 h0 Q) : Met l yX8_height (Cond.code yX8_height cX8_height 2 (some .int) :: TB) rm_X8_height (gPc (dC, dI) vwCl (tyC P) 7 (mE P ad) ad gKM h0 [.ref (ad 0), .int x1]) (gQi (dC, dI) vwCl (tyC P) 7 (mE P ad) ad Q) 0 0 (gA 7 ad) := by
  refine gx_start (by decide) (Nat.le_of_ble_eq_true rfl) (fun p e s m below meth c ls hx hb0 hr hlocks hml hown hts hK hk hP hD hS hl => ?_)
  have hl : lv_has ls 2 [(0, .ref (ad 0)), (1, .int x1)] := hl
  have hown : s.vm.findClass RX8 = some m.cls := hown
  unfold F_X8_height at he
  refine lv_sipush (v := (5400 : Int32)) hx hb0 dX8_height_0 (by decide) ?_
  refine lv_aload_n hx hb0 dX8_height_3 rfl (lv_at hl 0 rfl) ?_
  refine gx_get hx hb0 hts in_RX8 hown hK hP 0 (by decide) (mE_0 _) rfl 0 (by decide) fl_RX8_7 rfl dX8_height_4 ?_
  refine lv_bipush (v := (15 : Int32)) hx hb0 dX8_height_7 (by decide) ?_
  refine lv_iload_n hx hb0 dX8_height_9 rfl (lv_at hl 1 rfl) ?_
  refine lv_iadd hx hb0 dX8_height_10 ?_
  obtain ⟨v_1, he⟩ := he
  refine gx_iald hx hb0 hK hP 1 0 (by decide) mE_1 rfl v_1 dX8_height_11 ?_
  refine lv_aload_n hx hb0 dX8_height_12 rfl (lv_at hl 0 rfl) ?_
  refine gx_get hx hb0 hts in_RX8 hown hK hP 0 (by decide) (mE_0 _) rfl 0 (by decide) fl_RX8_7 rfl dX8_height_13 ?_
  refine lv_iconst (v := (4 : Int32)) hx hb0 dX8_height_16 (by decide) ?_
  refine gx_ialdK hx hb0 hK hP 1 0 (by decide) mE_1 rfl (vp_lit (4 : Int32) (by decide) (by decide)) 4 rfl dX8_height_17 ?_
  refine lv_isub hx hb0 dX8_height_18 ?_
  refine gx_si ⟨hx, hb0, hml, hown, hts⟩ (gKM_keep _) hk hK hP hD hS [.int ((h0 1 ((15 : Int32) + x1).toNatClampNeg) - (h0 1 4))] [.int (5400 : Int32)] (c_X8_sizeOf l dC dI P ad ((h0 1 ((15 : Int32) + x1).toNatClampNeg) - (h0 1 4)) h0 _ he) gm_X8_sizeOf st_yX8_sizeOf ml_RX8_50 rfl rfl ⟨Nat.le_of_ble_eq_true rfl, Nat.le_of_ble_eq_true rfl⟩ rfl hl.1 rfl (Nat.le_of_ble_eq_true rfl) dX8_height_19 ⟨Nat.zero_le _, Nat.zero_le _⟩ (fun r_2 h_3 he H locs hP hD hS => ?_)
  refine lv_isub hx hb0 dX8_height_22 ?_
  exact gx_iret hx hb0 hr hlocks hK hP hD hS he dX8_height_23
theorem gm_X8_height : gMeth yX8_height cX8_height 2 (some .int) 1 := ⟨⟨by decide, by decide, by decide +kernel⟩, ini_RX8, co_yX8_height⟩
abbrev rm_X8_reason : Room := { frames := 2, cells := 0, slots := 0, locals := 41 }
set_option maxHeartbeats 4000000 in
set_option maxRecDepth 100000 in
theorem c_X8_reason (l : Launch) (dC : Nat → ClassId) (dI : Nat → Nat → Nat) (P : gP) (ad : Nat → Nat) (x1 : Int32) (x2 : Int32) (h0 : Hp) (Q : Int32 → Hp → Prop) (he : F_X8_reason x1 x2 h0 Q) : Met l yX8_reason (Cond.code yX8_reason cX8_reason 3 (some .int) :: TB) rm_X8_reason (gPc (dC, dI) vwCl (tyC P) 7 (mE P ad) ad gKM h0 [.ref (ad 0), .int x1, .int x2]) (gQi (dC, dI) vwCl (tyC P) 7 (mE P ad) ad Q) 0 0 (gA 7 ad) := by
  refine gx_start (by decide) (Nat.le_of_ble_eq_true rfl) (fun p e s m below meth c ls hx hb0 hr hlocks hml hown hts hK hk hP hD hS hl => ?_)
  have hl : lv_has ls 3 [(0, .ref (ad 0)), (1, .int x1), (2, .int x2)] := hl
  have hown : s.vm.findClass RX8 = some m.cls := hown
  unfold F_X8_reason at he
  refine lv_aload_n hx hb0 dX8_reason_0 rfl (lv_at hl 0 rfl) ?_
  refine lv_iload_n hx hb0 dX8_reason_1 rfl (lv_at hl 1 rfl) ?_
  refine lv_bipush (v := (7 : Int32)) hx hb0 dX8_reason_2 (by decide) ?_
  refine gx_vi ⟨hx, hb0, hml, hown, hts⟩ (gKM_keep _) hk hK hP hD hS 0 [.int x1, .int (7 : Int32)] [] (c_X8_number l dC dI P ad x1 (7 : Int32) h0 _ he) gm_X8_number im_yX8_number se_yX8_number ml_RX8_54 (by decide) (mE_0 _) rfl rfl rfl ⟨Nat.le_of_ble_eq_true rfl, Nat.le_of_ble_eq_true rfl⟩ rfl hl.1 rfl (Nat.le_of_ble_eq_true rfl) dX8_reason_4 ⟨Nat.zero_le _, Nat.zero_le _⟩ (fun r_1 h_2 he H locs hP hD hS => ?_)
  refine lv_if_eq (tgt := 18) hx hb0 dX8_reason_7 (by decide) (fun c_3 => ?_) (fun c_3 => ?_)
  · have he := he.1 c_3
    refine lv_aload_n hx hb0 dX8_reason_18 rfl (lv_at hl 0 rfl) ?_
    refine gx_get hx hb0 hts in_RX8 hown hK hP 0 (by decide) (mE_0 _) rfl 0 (by decide) fl_RX8_7 rfl dX8_reason_19 ?_
    refine lv_bipush (v := (23 : Int32)) hx hb0 dX8_reason_22 (by decide) ?_
    refine lv_iload_n hx hb0 dX8_reason_24 rfl (lv_at hl 2 rfl) ?_
    refine lv_iadd hx hb0 dX8_reason_25 ?_
    obtain ⟨v_4, he⟩ := he
    refine gx_iald hx hb0 hK hP 1 0 (by decide) mE_1 rfl v_4 dX8_reason_26 ?_
    refine lv_iconst (v := (1 : Int32)) hx hb0 dX8_reason_27 (by decide) ?_
    refine lv_icmp_ne (tgt := 35) hx hb0 dX8_reason_28 (by decide) (fun c_5 => ?_) (fun c_5 => ?_)
    · have he := he.2 c_5
      refine lv_aload_n hx hb0 dX8_reason_35 rfl (lv_at hl 0 rfl) ?_
      refine lv_iload_n hx hb0 dX8_reason_36 rfl (lv_at hl 2 rfl) ?_
      refine gx_vi ⟨hx, hb0, hml, hown, hts⟩ (gKM_keep _) hk hK hP hD hS 0 [.int x2] [] (c_X8_height l dC dI P ad x2 h_2 _ he) gm_X8_height im_yX8_height se_yX8_height ml_RX8_58 (by decide) (mE_0 _) rfl rfl rfl ⟨Nat.le_of_ble_eq_true rfl, Nat.le_of_ble_eq_true rfl⟩ rfl hl.1 rfl (Nat.le_of_ble_eq_true rfl) dX8_reason_37 ⟨Nat.zero_le _, Nat.zero_le _⟩ (fun r_6 h_7 he H locs hP hD hS => ?_)
      refine lv_aload_n hx hb0 dX8_reason_40 rfl (lv_at hl 0 rfl) ?_
      refine gx_get hx hb0 hts in_RX8 hown hK hP 0 (by decide) (mE_0 _) rfl 0 (by decide) fl_RX8_7 rfl dX8_reason_41 ?_
      refine lv_iconst (v := (3 : Int32)) hx hb0 dX8_reason_44 (by decide) ?_
      refine gx_ialdK hx hb0 hK hP 1 0 (by decide) mE_1 rfl (vp_lit (3 : Int32) (by decide) (by decide)) 3 rfl dX8_reason_45 ?_
      refine lv_icmp_ge (tgt := 53) hx hb0 dX8_reason_46 (by decide) (fun c_8 => ?_) (fun c_8 => ?_)
      · have he := he.1 c_8
        refine lv_iconst (v := (0 : Int32)) hx hb0 dX8_reason_53 (by decide) ?_
        exact gx_iret hx hb0 hr hlocks hK hP hD hS he dX8_reason_54
      · have he := he.2 c_8
        refine lv_iconst (v := (4 : Int32)) hx hb0 dX8_reason_49 (by decide) ?_
        refine lv_goto (tgt := 54) hx hb0 dX8_reason_50 (by decide) ?_
        exact gx_iret hx hb0 hr hlocks hK hP hD hS he dX8_reason_54
    · have he := he.1 c_5
      refine lv_iconst (v := (3 : Int32)) hx hb0 dX8_reason_31 (by decide) ?_
      refine lv_goto (tgt := 54) hx hb0 dX8_reason_32 (by decide) ?_
      exact gx_iret hx hb0 hr hlocks hK hP hD hS he dX8_reason_54
  · have he := he.2 c_3
    refine lv_aload_n hx hb0 dX8_reason_10 rfl (lv_at hl 0 rfl) ?_
    refine lv_iload_n hx hb0 dX8_reason_11 rfl (lv_at hl 1 rfl) ?_
    refine lv_bipush (v := (7 : Int32)) hx hb0 dX8_reason_12 (by decide) ?_
    refine gx_vi ⟨hx, hb0, hml, hown, hts⟩ (gKM_keep _) hk hK hP hD hS 0 [.int x1, .int (7 : Int32)] [] (c_X8_number l dC dI P ad x1 (7 : Int32) h_2 _ he) gm_X8_number im_yX8_number se_yX8_number ml_RX8_54 (by decide) (mE_0 _) rfl rfl rfl ⟨Nat.le_of_ble_eq_true rfl, Nat.le_of_ble_eq_true rfl⟩ rfl hl.1 rfl (Nat.le_of_ble_eq_true rfl) dX8_reason_14 ⟨Nat.zero_le _, Nat.zero_le _⟩ (fun r_9 h_10 he H locs hP hD hS => ?_)
    exact gx_iret hx hb0 hr hlocks hK hP hD hS he dX8_reason_17
theorem gm_X8_reason : gMeth yX8_reason cX8_reason 3 (some .int) 2 := ⟨⟨by decide, by decide, by decide +kernel⟩, ini_RX8, co_yX8_reason⟩
abbrev rm_X8_error : Room := { frames := 1, cells := 0, slots := 0, locals := 22 }
set_option maxHeartbeats 4000000 in
set_option maxRecDepth 100000 in
theorem c_X8_error (l : Launch) (dC : Nat → ClassId) (dI : Nat → Nat → Nat) (P : gP) (ad : Nat → Nat) (x1 : Int32) (h0 : Hp) (Q : Int32 → Hp → Prop) (he : F_X8_error x1 h0 Q) : Met l yX8_error (Cond.code yX8_error cX8_error 3 (some .int) :: TB) rm_X8_error (gPc (dC, dI) vwCl (tyC P) 7 (mE P ad) ad gKM h0 [.ref (ad 0), .int x1]) (gQi (dC, dI) vwCl (tyC P) 7 (mE P ad) ad Q) 0 0 (gA 7 ad) := by
  refine gx_start (by decide) (Nat.le_of_ble_eq_true rfl) (fun p e s m below meth c ls hx hb0 hr hlocks hml hown hts hK hk hP hD hS hl => ?_)
  have hl : lv_has ls 3 [(0, .ref (ad 0)), (1, .int x1)] := hl
  have hown : s.vm.findClass RX8 = some m.cls := hown
  unfold F_X8_error at he
  refine lv_iconst (v := (3 : Int32)) hx hb0 dX8_error_0 (by decide) ?_
  refine lv_iload_n hx hb0 dX8_error_1 rfl (lv_at hl 1 rfl) ?_
  refine lv_imul hx hb0 dX8_error_2 ?_
  refine lv_bipush (v := (7 : Int32)) hx hb0 dX8_error_3 (by decide) ?_
  refine lv_aload_n hx hb0 dX8_error_5 rfl (lv_at hl 0 rfl) ?_
  refine lv_iload_n hx hb0 dX8_error_6 rfl (lv_at hl 1 rfl) ?_
  refine lv_iconst (v := (4 : Int32)) hx hb0 dX8_error_7 (by decide) ?_
  refine gx_vi ⟨hx, hb0, hml, hown, hts⟩ (gKM_keep _) hk hK hP hD hS 0 [.int x1, .int (4 : Int32)] [.int (7 : Int32), .int ((3 : Int32) * x1)] (c_X8_number l dC dI P ad x1 (4 : Int32) h0 _ he) gm_X8_number im_yX8_number se_yX8_number ml_RX8_54 (by decide) (mE_0 _) rfl rfl rfl ⟨Nat.le_of_ble_eq_true rfl, Nat.le_of_ble_eq_true rfl⟩ rfl hl.1 rfl (Nat.le_of_ble_eq_true rfl) dX8_error_8 ⟨Nat.zero_le _, Nat.zero_le _⟩ (fun r_1 h_2 he H locs hP hD hS => ?_)
  refine lv_imul hx hb0 dX8_error_11 ?_
  refine lv_iadd hx hb0 dX8_error_12 ?_
  refine lv_bipush (v := (11 : Int32)) hx hb0 dX8_error_13 (by decide) ?_
  refine lv_irem hx hb0 dX8_error_15 (by decide) ?_
  refine lv_iconst (v := (5 : Int32)) hx hb0 dX8_error_16 (by decide) ?_
  refine lv_isub hx hb0 dX8_error_17 ?_
  refine lv_topi (fun x_3 ex_3 => ?_)
  have he := he x_3 ex_3
  refine lv_istore_n (lv' := [(2, .int x_3), (0, .ref (ad 0)), (1, .int x1)]) hx hb0 dX8_error_18 rfl hl (by decide) rfl (fun ls hl => ?_)
  refine lv_aload_n hx hb0 dX8_error_19 rfl (lv_at hl 1 rfl) ?_
  refine lv_iload_n hx hb0 dX8_error_20 rfl (lv_at hl 2 rfl) ?_
  refine lv_iconst (v := (1 : Int32)) hx hb0 dX8_error_21 (by decide) ?_
  refine gx_vi ⟨hx, hb0, hml, hown, hts⟩ (gKM_keep _) hk hK hP hD hS 0 [.int x1, .int (1 : Int32)] [] (c_X8_number l dC dI P ad x1 (1 : Int32) h_2 _ he) gm_X8_number im_yX8_number se_yX8_number ml_RX8_54 (by decide) (mE_0 _) rfl rfl rfl ⟨Nat.le_of_ble_eq_true rfl, Nat.le_of_ble_eq_true rfl⟩ rfl hl.1 rfl (Nat.le_of_ble_eq_true rfl) dX8_error_22 ⟨Nat.zero_le _, Nat.zero_le _⟩ (fun r_4 h_5 he H locs hP hD hS => ?_)
  refine lv_bipush (v := (9 : Int32)) hx hb0 dX8_error_25 (by decide) ?_
  refine lv_aload_n hx hb0 dX8_error_27 rfl (lv_at hl 1 rfl) ?_
  refine lv_iload_n hx hb0 dX8_error_28 rfl (lv_at hl 2 rfl) ?_
  refine lv_iconst (v := (0 : Int32)) hx hb0 dX8_error_29 (by decide) ?_
  refine gx_vi ⟨hx, hb0, hml, hown, hts⟩ (gKM_keep _) hk hK hP hD hS 0 [.int x1, .int (0 : Int32)] [.int (9 : Int32), .int r_4] (c_X8_number l dC dI P ad x1 (0 : Int32) h_5 _ he) gm_X8_number im_yX8_number se_yX8_number ml_RX8_54 (by decide) (mE_0 _) rfl rfl rfl ⟨Nat.le_of_ble_eq_true rfl, Nat.le_of_ble_eq_true rfl⟩ rfl hl.1 rfl (Nat.le_of_ble_eq_true rfl) dX8_error_30 ⟨Nat.zero_le _, Nat.zero_le _⟩ (fun r_6 h_7 he H locs hP hD hS => ?_)
  refine lv_isub hx hb0 dX8_error_33 ?_
  refine lv_iload_n hx hb0 dX8_error_34 rfl (lv_at hl 0 rfl) ?_
  refine lv_imul hx hb0 dX8_error_35 ?_
  refine lv_iadd hx hb0 dX8_error_36 ?_
  exact gx_iret hx hb0 hr hlocks hK hP hD hS he dX8_error_37
theorem gm_X8_error : gMeth yX8_error cX8_error 3 (some .int) 1 := ⟨⟨by decide, by decide, by decide +kernel⟩, ini_RX8, co_yX8_error⟩
abbrev rm_X8_wouldBelieve : Room := { frames := 2, cells := 0, slots := 0, locals := 44 }
set_option maxHeartbeats 4000000 in
set_option maxRecDepth 100000 in
theorem c_X8_wouldBelieve (l : Launch) (dC : Nat → ClassId) (dI : Nat → Nat → Nat) (P : gP) (ad : Nat → Nat) (x1 : Int32) (x2 : Int32) (h0 : Hp) (Q : Int32 → Hp → Prop) (he : F_X8_wouldBelieve x1 x2 h0 Q) : Met l yX8_wouldBelieve (Cond.code yX8_wouldBelieve cX8_wouldBelieve 5 (some .int) :: TB) rm_X8_wouldBelieve (gPc (dC, dI) vwCl (tyC P) 7 (mE P ad) ad gKM h0 [.ref (ad 0), .int x1, .int x2]) (gQi (dC, dI) vwCl (tyC P) 7 (mE P ad) ad Q) 0 0 (gA 7 ad) := by
  refine gx_start (by decide) (Nat.le_of_ble_eq_true rfl) (fun p e s m below meth c ls hx hb0 hr hlocks hml hown hts hK hk hP hD hS hl => ?_)
  have hl : lv_has ls 5 [(0, .ref (ad 0)), (1, .int x1), (2, .int x2)] := hl
  have hown : s.vm.findClass RX8 = some m.cls := hown
  unfold F_X8_wouldBelieve at he
  refine lv_sipush (v := (5400 : Int32)) hx hb0 dX8_wouldBelieve_0 (by decide) ?_
  refine lv_aload_n hx hb0 dX8_wouldBelieve_3 rfl (lv_at hl 0 rfl) ?_
  refine lv_iload_n hx hb0 dX8_wouldBelieve_4 rfl (lv_at hl 2 rfl) ?_
  refine gx_vi ⟨hx, hb0, hml, hown, hts⟩ (gKM_keep _) hk hK hP hD hS 0 [.int x2] [.int (5400 : Int32)] (c_X8_height l dC dI P ad x2 h0 _ he) gm_X8_height im_yX8_height se_yX8_height ml_RX8_58 (by decide) (mE_0 _) rfl rfl rfl ⟨Nat.le_of_ble_eq_true rfl, Nat.le_of_ble_eq_true rfl⟩ rfl hl.1 rfl (Nat.le_of_ble_eq_true rfl) dX8_wouldBelieve_5 ⟨Nat.zero_le _, Nat.zero_le _⟩ (fun r_1 h_2 he H locs hP hD hS => ?_)
  refine lv_isub hx hb0 dX8_wouldBelieve_8 ?_
  refine lv_aload_n hx hb0 dX8_wouldBelieve_9 rfl (lv_at hl 0 rfl) ?_
  refine lv_iload_n hx hb0 dX8_wouldBelieve_10 rfl (lv_at hl 1 rfl) ?_
  refine gx_vi ⟨hx, hb0, hml, hown, hts⟩ (gKM_keep _) hk hK hP hD hS 0 [.int x1] [.int ((5400 : Int32) - r_1)] (c_X8_error l dC dI P ad x1 h_2 _ he) gm_X8_error im_yX8_error se_yX8_error ml_RX8_61 (by decide) (mE_0 _) rfl rfl rfl ⟨Nat.le_of_ble_eq_true rfl, Nat.le_of_ble_eq_true rfl⟩ rfl hl.1 rfl (Nat.le_of_ble_eq_true rfl) dX8_wouldBelieve_11 ⟨Nat.zero_le _, Nat.zero_le _⟩ (fun r_3 h_4 he H locs hP hD hS => ?_)
  refine lv_isub hx hb0 dX8_wouldBelieve_14 ?_
  refine gx_si ⟨hx, hb0, hml, hown, hts⟩ (gKM_keep _) hk hK hP hD hS [.int (((5400 : Int32) - r_1) - r_3)] [] (c_X8_sizeOf l dC dI P ad (((5400 : Int32) - r_1) - r_3) h_4 _ he) gm_X8_sizeOf st_yX8_sizeOf ml_RX8_50 rfl rfl ⟨Nat.le_of_ble_eq_true rfl, Nat.le_of_ble_eq_true rfl⟩ rfl hl.1 rfl (Nat.le_of_ble_eq_true rfl) dX8_wouldBelieve_15 ⟨Nat.zero_le _, Nat.zero_le _⟩ (fun r_5 h_6 he H locs hP hD hS => ?_)
  refine lv_istore_n (lv' := [(3, .int r_5), (0, .ref (ad 0)), (1, .int x1), (2, .int x2)]) hx hb0 dX8_wouldBelieve_18 rfl hl (by decide) rfl (fun ls hl => ?_)
  refine lv_aload_n hx hb0 dX8_wouldBelieve_19 rfl (lv_at hl 1 rfl) ?_
  refine gx_get hx hb0 hts in_RX8 hown hK hP 0 (by decide) (mE_0 _) rfl 0 (by decide) fl_RX8_7 rfl dX8_wouldBelieve_20 ?_
  refine lv_bipush (v := (15 : Int32)) hx hb0 dX8_wouldBelieve_23 (by decide) ?_
  refine lv_iload_n hx hb0 dX8_wouldBelieve_25 rfl (lv_at hl 3 rfl) ?_
  refine lv_iadd hx hb0 dX8_wouldBelieve_26 ?_
  obtain ⟨v_7, he⟩ := he
  refine gx_iald hx hb0 hK hP 1 0 (by decide) mE_1 rfl v_7 dX8_wouldBelieve_27 ?_
  refine lv_topi (fun x_8 ex_8 => ?_)
  have he := he x_8 ex_8
  refine lv_istore (lv' := [(4, .int x_8), (3, .int r_5), (0, .ref (ad 0)), (1, .int x1), (2, .int x2)]) hx hb0 dX8_wouldBelieve_28 hl (by decide) rfl (fun ls hl => ?_)
  refine lv_aload_n hx hb0 dX8_wouldBelieve_30 rfl (lv_at hl 2 rfl) ?_
  refine lv_iload_n hx hb0 dX8_wouldBelieve_31 rfl (lv_at hl 3 rfl) ?_
  refine lv_iconst (v := (2 : Int32)) hx hb0 dX8_wouldBelieve_32 (by decide) ?_
  refine gx_vi ⟨hx, hb0, hml, hown, hts⟩ (gKM_keep _) hk hK hP hD hS 0 [.int x1, .int (2 : Int32)] [] (c_X8_number l dC dI P ad x1 (2 : Int32) h_6 _ he) gm_X8_number im_yX8_number se_yX8_number ml_RX8_54 (by decide) (mE_0 _) rfl rfl rfl ⟨Nat.le_of_ble_eq_true rfl, Nat.le_of_ble_eq_true rfl⟩ rfl hl.1 rfl (Nat.le_of_ble_eq_true rfl) dX8_wouldBelieve_33 ⟨Nat.zero_le _, Nat.zero_le _⟩ (fun r_9 h_10 he H locs hP hD hS => ?_)
  refine lv_iconst (v := (1 : Int32)) hx hb0 dX8_wouldBelieve_36 (by decide) ?_
  refine lv_icmp_ne (tgt := 47) hx hb0 dX8_wouldBelieve_37 (by decide) (fun c_11 => ?_) (fun c_11 => ?_)
  · have he := he.2 c_11
    refine lv_iload hx hb0 dX8_wouldBelieve_47 (lv_at hl 0 rfl) ?_
    refine lv_iload_n hx hb0 dX8_wouldBelieve_49 rfl (lv_at hl 1 rfl) ?_
    refine lv_isub hx hb0 dX8_wouldBelieve_50 ?_
    refine gx_si ⟨hx, hb0, hml, hown, hts⟩ (gKM_keep _) hk hK hP hD hS [.int (x_8 - r_5)] [] (c_X8_bounded l dC dI P ad (x_8 - r_5) h_10 _ he) gm_X8_bounded st_yX8_bounded ml_RX8_64 rfl rfl ⟨Nat.le_of_ble_eq_true rfl, Nat.le_of_ble_eq_true rfl⟩ rfl hl.1 rfl (Nat.le_of_ble_eq_true rfl) dX8_wouldBelieve_51 ⟨Nat.zero_le _, Nat.zero_le _⟩ (fun r_12 h_13 he H locs hP hD hS => ?_)
    exact gx_iret hx hb0 hr hlocks hK hP hD hS he dX8_wouldBelieve_54
  · have he := he.1 c_11
    refine lv_iload hx hb0 dX8_wouldBelieve_40 (lv_at hl 0 rfl) ?_
    refine lv_iload_n hx hb0 dX8_wouldBelieve_42 rfl (lv_at hl 1 rfl) ?_
    refine lv_iadd hx hb0 dX8_wouldBelieve_43 ?_
    refine lv_goto (tgt := 51) hx hb0 dX8_wouldBelieve_44 (by decide) ?_
    refine gx_si ⟨hx, hb0, hml, hown, hts⟩ (gKM_keep _) hk hK hP hD hS [.int (x_8 + r_5)] [] (c_X8_bounded l dC dI P ad (x_8 + r_5) h_10 _ he) gm_X8_bounded st_yX8_bounded ml_RX8_64 rfl rfl ⟨Nat.le_of_ble_eq_true rfl, Nat.le_of_ble_eq_true rfl⟩ rfl hl.1 rfl (Nat.le_of_ble_eq_true rfl) dX8_wouldBelieve_51 ⟨Nat.zero_le _, Nat.zero_le _⟩ (fun r_14 h_15 he H locs hP hD hS => ?_)
    exact gx_iret hx hb0 hr hlocks hK hP hD hS he dX8_wouldBelieve_54
theorem gm_X8_wouldBelieve : gMeth yX8_wouldBelieve cX8_wouldBelieve 5 (some .int) 2 := ⟨⟨by decide, by decide, by decide +kernel⟩, ini_RX8, co_yX8_wouldBelieve⟩
abbrev rm_X8_whyNot : Room := { frames := 3, cells := 0, slots := 0, locals := 63 }
set_option maxHeartbeats 4000000 in
set_option maxRecDepth 100000 in
theorem c_X8_whyNot (l : Launch) (dC : Nat → ClassId) (dI : Nat → Nat → Nat) (P : gP) (ad : Nat → Nat) (x1 : Int32) (x2 : Int32) (h0 : Hp) (Q : Int32 → Hp → Prop) (he : F_X8_whyNot x1 x2 h0 Q) : Met l yX8_whyNot (Cond.code yX8_whyNot cX8_whyNot 3 (some .int) :: TB) rm_X8_whyNot (gPc (dC, dI) vwCl (tyC P) 7 (mE P ad) ad gKM h0 [.ref (ad 0), .int x1, .int x2]) (gQi (dC, dI) vwCl (tyC P) 7 (mE P ad) ad Q) 0 0 (gA 7 ad) := by
  refine gx_start (by decide) (Nat.le_of_ble_eq_true rfl) (fun p e s m below meth c ls hx hb0 hr hlocks hml hown hts hK hk hP hD hS hl => ?_)
  have hl : lv_has ls 3 [(0, .ref (ad 0)), (1, .int x1), (2, .int x2)] := hl
  have hown : s.vm.findClass RX8 = some m.cls := hown
  unfold F_X8_whyNot at he
  refine lv_iload_n hx hb0 dX8_whyNot_0 rfl (lv_at hl 1 rfl) ?_
  refine gx_si ⟨hx, hb0, hml, hown, hts⟩ (gKM_keep _) hk hK hP hD hS [.int x1] [] (c_X8_isNavigator l dC dI P ad x1 h0 _ he) gm_X8_isNavigator st_yX8_isNavigator ml_RX8_67 rfl rfl ⟨Nat.le_of_ble_eq_true rfl, Nat.le_of_ble_eq_true rfl⟩ rfl hl.1 rfl (Nat.le_of_ble_eq_true rfl) dX8_whyNot_1 ⟨Nat.zero_le _, Nat.zero_le _⟩ (fun r_1 h_2 he H locs hP hD hS => ?_)
  refine lv_if_eq (tgt := 15) hx hb0 dX8_whyNot_4 (by decide) (fun c_3 => ?_) (fun c_3 => ?_)
  · have he := he.1 c_3
    refine lv_iconst (v := (-1 : Int32)) hx hb0 dX8_whyNot_15 (by decide) ?_
    refine lv_goto (tgt := 34) hx hb0 dX8_whyNot_16 (by decide) ?_
    exact gx_iret hx hb0 hr hlocks hK hP hD hS he dX8_whyNot_34
  · have he := he.2 c_3
    refine lv_aload_n hx hb0 dX8_whyNot_7 rfl (lv_at hl 0 rfl) ?_
    refine lv_iload_n hx hb0 dX8_whyNot_8 rfl (lv_at hl 2 rfl) ?_
    refine gx_vi ⟨hx, hb0, hml, hown, hts⟩ (gKM_keep _) hk hK hP hD hS 0 [.int x2] [] (c_X8_isStar l dC dI P ad x2 h_2 _ he) gm_X8_isStar im_yX8_isStar se_yX8_isStar ml_RX8_70 (by decide) (mE_0 _) rfl rfl rfl ⟨Nat.le_of_ble_eq_true rfl, Nat.le_of_ble_eq_true rfl⟩ rfl hl.1 rfl (Nat.le_of_ble_eq_true rfl) dX8_whyNot_9 ⟨Nat.zero_le _, Nat.zero_le _⟩ (fun r_4 h_5 he H locs hP hD hS => ?_)
    refine lv_if_ne (tgt := 19) hx hb0 dX8_whyNot_12 (by decide) (fun c_6 => ?_) (fun c_6 => ?_)
    · have he := he.2 c_6
      refine lv_aload_n hx hb0 dX8_whyNot_19 rfl (lv_at hl 0 rfl) ?_
      refine lv_iload_n hx hb0 dX8_whyNot_20 rfl (lv_at hl 1 rfl) ?_
      refine lv_iload_n hx hb0 dX8_whyNot_21 rfl (lv_at hl 2 rfl) ?_
      refine gx_vi ⟨hx, hb0, hml, hown, hts⟩ (gKM_keep _) hk hK hP hD hS 0 [.int x1, .int x2] [] (c_X8_reason l dC dI P ad x1 x2 h_5 _ he) gm_X8_reason im_yX8_reason se_yX8_reason ml_RX8_73 (by decide) (mE_0 _) rfl rfl rfl ⟨Nat.le_of_ble_eq_true rfl, Nat.le_of_ble_eq_true rfl⟩ rfl hl.1 rfl (Nat.le_of_ble_eq_true rfl) dX8_whyNot_22 ⟨Nat.zero_le _, Nat.zero_le _⟩ (fun r_7 h_8 he H locs hP hD hS => ?_)
      refine lv_if_eq (tgt := 33) hx hb0 dX8_whyNot_25 (by decide) (fun c_9 => ?_) (fun c_9 => ?_)
      · have he := he.1 c_9
        refine lv_iconst (v := (0 : Int32)) hx hb0 dX8_whyNot_33 (by decide) ?_
        exact gx_iret hx hb0 hr hlocks hK hP hD hS he dX8_whyNot_34
      · have he := he.2 c_9
        refine lv_bipush (v := (-5 : Int32)) hx hb0 dX8_whyNot_28 (by decide) ?_
        refine lv_goto (tgt := 34) hx hb0 dX8_whyNot_30 (by decide) ?_
        exact gx_iret hx hb0 hr hlocks hK hP hD hS he dX8_whyNot_34
    · have he := he.1 c_6
      refine lv_iconst (v := (-1 : Int32)) hx hb0 dX8_whyNot_15 (by decide) ?_
      refine lv_goto (tgt := 34) hx hb0 dX8_whyNot_16 (by decide) ?_
      exact gx_iret hx hb0 hr hlocks hK hP hD hS he dX8_whyNot_34
theorem gm_X8_whyNot : gMeth yX8_whyNot cX8_whyNot 3 (some .int) 2 := ⟨⟨by decide, by decide, by decide +kernel⟩, ini_RX8, co_yX8_whyNot⟩
abbrev rm_X8_sights : Room := { frames := 4, cells := 0, slots := 0, locals := 85 }
set_option maxHeartbeats 4000000 in
set_option maxRecDepth 100000 in
theorem c_X8_sights (l : Launch) (dC : Nat → ClassId) (dI : Nat → Nat → Nat) (P : gP) (ad : Nat → Nat) (x1 : Int32) (x2 : Int32) (h0 : Hp) (Q : Int32 → Hp → Prop) (he : F_X8_sights x1 x2 h0 Q) : Met l yX8_sights (Cond.code yX8_sights cX8_sights 4 (some .int) :: TB) rm_X8_sights (gPc (dC, dI) vwCl (tyC P) 7 (mE P ad) ad gKM h0 [.ref (ad 0), .int x1, .int x2]) (gQi (dC, dI) vwCl (tyC P) 7 (mE P ad) ad Q) 0 0 (gA 7 ad) := by
  refine gx_start (by decide) (Nat.le_of_ble_eq_true rfl) (fun p e s m below meth c ls hx hb0 hr hlocks hml hown hts hK hk hP hD hS hl => ?_)
  have hl : lv_has ls 4 [(0, .ref (ad 0)), (1, .int x1), (2, .int x2)] := hl
  have hown : s.vm.findClass RX8 = some m.cls := hown
  unfold F_X8_sights at he
  refine lv_aload_n hx hb0 dX8_sights_0 rfl (lv_at hl 0 rfl) ?_
  refine lv_iload_n hx hb0 dX8_sights_1 rfl (lv_at hl 1 rfl) ?_
  refine lv_iload_n hx hb0 dX8_sights_2 rfl (lv_at hl 2 rfl) ?_
  refine gx_vi ⟨hx, hb0, hml, hown, hts⟩ (gKM_keep _) hk hK hP hD hS 0 [.int x1, .int x2] [] (c_X8_whyNot l dC dI P ad x1 x2 h0 _ he) gm_X8_whyNot im_yX8_whyNot se_yX8_whyNot ml_RX8_76 (by decide) (mE_0 _) rfl rfl rfl ⟨Nat.le_of_ble_eq_true rfl, Nat.le_of_ble_eq_true rfl⟩ rfl hl.1 rfl (Nat.le_of_ble_eq_true rfl) dX8_sights_3 ⟨Nat.zero_le _, Nat.zero_le _⟩ (fun r_1 h_2 he H locs hP hD hS => ?_)
  refine lv_istore_n (lv' := [(3, .int r_1), (0, .ref (ad 0)), (1, .int x1), (2, .int x2)]) hx hb0 dX8_sights_6 rfl hl (by decide) rfl (fun ls hl => ?_)
  refine lv_iload_n hx hb0 dX8_sights_7 rfl (lv_at hl 0 rfl) ?_
  refine lv_if_eq (tgt := 13) hx hb0 dX8_sights_8 (by decide) (fun c_3 => ?_) (fun c_3 => ?_)
  · have he := he.1 c_3
    refine lv_aload_n hx hb0 dX8_sights_13 rfl (lv_at hl 1 rfl) ?_
    refine lv_iload_n hx hb0 dX8_sights_14 rfl (lv_at hl 2 rfl) ?_
    refine lv_bipush (v := (6 : Int32)) hx hb0 dX8_sights_15 (by decide) ?_
    refine lv_aload_n hx hb0 dX8_sights_17 rfl (lv_at hl 1 rfl) ?_
    refine lv_iload_n hx hb0 dX8_sights_18 rfl (lv_at hl 2 rfl) ?_
    refine lv_iload_n hx hb0 dX8_sights_19 rfl (lv_at hl 3 rfl) ?_
    refine gx_vi ⟨hx, hb0, hml, hown, hts⟩ (gKM_keep _) hk hK hP hD hS 0 [.int x1, .int x2] [.int (6 : Int32), .int x1, .ref (ad 0)] (c_X8_wouldBelieve l dC dI P ad x1 x2 h_2 _ he) gm_X8_wouldBelieve im_yX8_wouldBelieve se_yX8_wouldBelieve ml_RX8_79 (by decide) (mE_0 _) rfl rfl rfl ⟨Nat.le_of_ble_eq_true rfl, Nat.le_of_ble_eq_true rfl⟩ rfl hl.1 rfl (Nat.le_of_ble_eq_true rfl) dX8_sights_20 ⟨Nat.zero_le _, Nat.zero_le _⟩ (fun r_4 h_5 he H locs hP hD hS => ?_)
    refine gx_vv ⟨hx, hb0, hml, hown, hts⟩ (gKM_keep _) hk hK hP hD hS 0 [.int x1, .int (6 : Int32), .int r_4] [] (c_X8_setOf l dC dI P ad x1 (6 : Int32) r_4 h_5 _ he) gm_X8_setOf im_yX8_setOf se_yX8_setOf ml_RX8_28 (by decide) (mE_0 _) rfl rfl rfl ⟨Nat.le_of_ble_eq_true rfl, Nat.le_of_ble_eq_true rfl⟩ rfl hl.1 rfl (Nat.le_of_ble_eq_true rfl) dX8_sights_23 ⟨Nat.zero_le _, Nat.zero_le _⟩ (fun h_7 he H locs hP hD hS => ?_)
    refine lv_aload_n hx hb0 dX8_sights_26 rfl (lv_at hl 1 rfl) ?_
    refine lv_iload_n hx hb0 dX8_sights_27 rfl (lv_at hl 2 rfl) ?_
    refine lv_iconst (v := (5 : Int32)) hx hb0 dX8_sights_28 (by decide) ?_
    refine lv_iconst (v := (1 : Int32)) hx hb0 dX8_sights_29 (by decide) ?_
    refine gx_vv ⟨hx, hb0, hml, hown, hts⟩ (gKM_keep _) hk hK hP hD hS 0 [.int x1, .int (5 : Int32), .int (1 : Int32)] [] (c_X8_setOf l dC dI P ad x1 (5 : Int32) (1 : Int32) h_7 _ he) gm_X8_setOf im_yX8_setOf se_yX8_setOf ml_RX8_28 (by decide) (mE_0 _) rfl rfl rfl ⟨Nat.le_of_ble_eq_true rfl, Nat.le_of_ble_eq_true rfl⟩ rfl hl.1 rfl (Nat.le_of_ble_eq_true rfl) dX8_sights_30 ⟨Nat.zero_le _, Nat.zero_le _⟩ (fun h_9 he H locs hP hD hS => ?_)
    refine lv_aload_n hx hb0 dX8_sights_33 rfl (lv_at hl 1 rfl) ?_
    refine lv_iload_n hx hb0 dX8_sights_34 rfl (lv_at hl 2 rfl) ?_
    refine lv_iconst (v := (4 : Int32)) hx hb0 dX8_sights_35 (by decide) ?_
    refine lv_aload_n hx hb0 dX8_sights_36 rfl (lv_at hl 1 rfl) ?_
    refine lv_iload_n hx hb0 dX8_sights_37 rfl (lv_at hl 2 rfl) ?_
    refine lv_iconst (v := (4 : Int32)) hx hb0 dX8_sights_38 (by decide) ?_
    refine gx_vi ⟨hx, hb0, hml, hown, hts⟩ (gKM_keep _) hk hK hP hD hS 0 [.int x1, .int (4 : Int32)] [.int (4 : Int32), .int x1, .ref (ad 0)] (c_X8_number l dC dI P ad x1 (4 : Int32) h_9 _ he) gm_X8_number im_yX8_number se_yX8_number ml_RX8_54 (by decide) (mE_0 _) rfl rfl rfl ⟨Nat.le_of_ble_eq_true rfl, Nat.le_of_ble_eq_true rfl⟩ rfl hl.1 rfl (Nat.le_of_ble_eq_true rfl) dX8_sights_39 ⟨Nat.zero_le _, Nat.zero_le _⟩ (fun r_10 h_11 he H locs hP hD hS => ?_)
    refine lv_iconst (v := (1 : Int32)) hx hb0 dX8_sights_42 (by decide) ?_
    refine lv_iadd hx hb0 dX8_sights_43 ?_
    refine gx_vv ⟨hx, hb0, hml, hown, hts⟩ (gKM_keep _) hk hK hP hD hS 0 [.int x1, .int (4 : Int32), .int (r_10 + (1 : Int32))] [] (c_X8_setOf l dC dI P ad x1 (4 : Int32) (r_10 + (1 : Int32)) h_11 _ he) gm_X8_setOf im_yX8_setOf se_yX8_setOf ml_RX8_28 (by decide) (mE_0 _) rfl rfl rfl ⟨Nat.le_of_ble_eq_true rfl, Nat.le_of_ble_eq_true rfl⟩ rfl hl.1 rfl (Nat.le_of_ble_eq_true rfl) dX8_sights_44 ⟨Nat.zero_le _, Nat.zero_le _⟩ (fun h_13 he H locs hP hD hS => ?_)
    refine lv_aload_n hx hb0 dX8_sights_47 rfl (lv_at hl 1 rfl) ?_
    refine gx_get hx hb0 hts in_RX8 hown hK hP 0 (by decide) (mE_0 _) rfl 0 (by decide) fl_RX8_7 rfl dX8_sights_48 ?_
    refine lv_bipush (v := (10 : Int32)) hx hb0 dX8_sights_51 (by decide) ?_
    refine lv_dup2_11 hx hb0 dX8_sights_53 rfl rfl ?_
    refine gx_ialdK hx hb0 hK hP 1 0 (by decide) mE_1 rfl (vp_lit (10 : Int32) (by decide) (by decide)) 10 rfl dX8_sights_54 ?_
    refine lv_iconst (v := (1 : Int32)) hx hb0 dX8_sights_55 (by decide) ?_
    refine lv_iadd hx hb0 dX8_sights_56 ?_
    refine gx_iastK hx hb0 hK hP hD hS 1 0 (by decide) mE_1 rfl (vp_lit (10 : Int32) (by decide) (by decide)) 10 rfl dX8_sights_57 (fun h_14 eh_14 H locs hP hD hS => ?_)
    have he := he h_14 eh_14
    refine lv_aload_n hx hb0 dX8_sights_58 rfl (lv_at hl 1 rfl) ?_
    refine lv_iload_n hx hb0 dX8_sights_59 rfl (lv_at hl 2 rfl) ?_
    refine lv_bipush (v := (6 : Int32)) hx hb0 dX8_sights_60 (by decide) ?_
    refine gx_vi ⟨hx, hb0, hml, hown, hts⟩ (gKM_keep _) hk hK hP hD hS 0 [.int x1, .int (6 : Int32)] [] (c_X8_number l dC dI P ad x1 (6 : Int32) h_14 _ he) gm_X8_number im_yX8_number se_yX8_number ml_RX8_54 (by decide) (mE_0 _) rfl rfl rfl ⟨Nat.le_of_ble_eq_true rfl, Nat.le_of_ble_eq_true rfl⟩ rfl hl.1 rfl (Nat.le_of_ble_eq_true rfl) dX8_sights_62 ⟨Nat.zero_le _, Nat.zero_le _⟩ (fun r_15 h_16 he H locs hP hD hS => ?_)
    refine lv_sipush (v := (5400 : Int32)) hx hb0 dX8_sights_65 (by decide) ?_
    refine lv_iadd hx hb0 dX8_sights_68 ?_
    exact gx_iret hx hb0 hr hlocks hK hP hD hS he dX8_sights_69
  · have he := he.2 c_3
    refine lv_iload_n hx hb0 dX8_sights_11 rfl (lv_at hl 0 rfl) ?_
    exact gx_iret hx hb0 hr hlocks hK hP hD hS he dX8_sights_12
theorem gm_X8_sights : gMeth yX8_sights cX8_sights 4 (some .int) 2 := ⟨⟨by decide, by decide, by decide +kernel⟩, ini_RX8, co_yX8_sights⟩
abbrev rm_X8_takesPart : Room := { frames := 1, cells := 0, slots := 0, locals := 22 }
set_option maxHeartbeats 4000000 in
set_option maxRecDepth 100000 in
theorem c_X8_takesPart (l : Launch) (dC : Nat → ClassId) (dI : Nat → Nat → Nat) (P : gP) (ad : Nat → Nat) (x1 : Int32) (x2 : Int32) (h0 : Hp) (Q : Int32 → Hp → Prop) (he : F_X8_takesPart x1 x2 h0 Q) : Met l yX8_takesPart (Cond.code yX8_takesPart cX8_takesPart 3 (some .boolean) :: TB) rm_X8_takesPart (gPc (dC, dI) vwCl (tyC P) 7 (mE P ad) ad gKM h0 [.ref (ad 0), .int x1, .int x2]) (gQi (dC, dI) vwCl (tyC P) 7 (mE P ad) ad Q) 0 0 (gA 7 ad) := by
  refine gx_start (by decide) (Nat.le_of_ble_eq_true rfl) (fun p e s m below meth c ls hx hb0 hr hlocks hml hown hts hK hk hP hD hS hl => ?_)
  have hl : lv_has ls 3 [(0, .ref (ad 0)), (1, .int x1), (2, .int x2)] := hl
  have hown : s.vm.findClass RX8 = some m.cls := hown
  unfold F_X8_takesPart at he
  refine lv_iload_n hx hb0 dX8_takesPart_0 rfl (lv_at hl 1 rfl) ?_
  refine lv_iload_n hx hb0 dX8_takesPart_1 rfl (lv_at hl 2 rfl) ?_
  refine lv_icmp_eq (tgt := 29) hx hb0 dX8_takesPart_2 (by decide) (fun c_1 => ?_) (fun c_1 => ?_)
  · have he := he.1 c_1
    refine lv_iconst (v := (0 : Int32)) hx hb0 dX8_takesPart_29 (by decide) ?_
    exact gx_zret hx hb0 hr (by decide) hlocks hK hP hD hS he dX8_takesPart_30
  · have he := he.2 c_1
    refine lv_aload_n hx hb0 dX8_takesPart_5 rfl (lv_at hl 0 rfl) ?_
    refine lv_iload_n hx hb0 dX8_takesPart_6 rfl (lv_at hl 1 rfl) ?_
    refine lv_bipush (v := (7 : Int32)) hx hb0 dX8_takesPart_7 (by decide) ?_
    refine gx_vi ⟨hx, hb0, hml, hown, hts⟩ (gKM_keep _) hk hK hP hD hS 0 [.int x1, .int (7 : Int32)] [] (c_X8_number l dC dI P ad x1 (7 : Int32) h0 _ he) gm_X8_number im_yX8_number se_yX8_number ml_RX8_54 (by decide) (mE_0 _) rfl rfl rfl ⟨Nat.le_of_ble_eq_true rfl, Nat.le_of_ble_eq_true rfl⟩ rfl hl.1 rfl (Nat.le_of_ble_eq_true rfl) dX8_takesPart_9 ⟨Nat.zero_le _, Nat.zero_le _⟩ (fun r_2 h_3 he H locs hP hD hS => ?_)
    refine lv_if_ne (tgt := 29) hx hb0 dX8_takesPart_12 (by decide) (fun c_4 => ?_) (fun c_4 => ?_)
    · have he := he.2 c_4
      refine lv_iconst (v := (0 : Int32)) hx hb0 dX8_takesPart_29 (by decide) ?_
      exact gx_zret hx hb0 hr (by decide) hlocks hK hP hD hS he dX8_takesPart_30
    · have he := he.1 c_4
      refine lv_aload_n hx hb0 dX8_takesPart_15 rfl (lv_at hl 0 rfl) ?_
      refine lv_iload_n hx hb0 dX8_takesPart_16 rfl (lv_at hl 1 rfl) ?_
      refine lv_iconst (v := (5 : Int32)) hx hb0 dX8_takesPart_17 (by decide) ?_
      refine gx_vi ⟨hx, hb0, hml, hown, hts⟩ (gKM_keep _) hk hK hP hD hS 0 [.int x1, .int (5 : Int32)] [] (c_X8_number l dC dI P ad x1 (5 : Int32) h_3 _ he) gm_X8_number im_yX8_number se_yX8_number ml_RX8_54 (by decide) (mE_0 _) rfl rfl rfl ⟨Nat.le_of_ble_eq_true rfl, Nat.le_of_ble_eq_true rfl⟩ rfl hl.1 rfl (Nat.le_of_ble_eq_true rfl) dX8_takesPart_18 ⟨Nat.zero_le _, Nat.zero_le _⟩ (fun r_5 h_6 he H locs hP hD hS => ?_)
      refine lv_iconst (v := (1 : Int32)) hx hb0 dX8_takesPart_21 (by decide) ?_
      refine lv_icmp_ne (tgt := 29) hx hb0 dX8_takesPart_22 (by decide) (fun c_7 => ?_) (fun c_7 => ?_)
      · have he := he.2 c_7
        refine lv_iconst (v := (0 : Int32)) hx hb0 dX8_takesPart_29 (by decide) ?_
        exact gx_zret hx hb0 hr (by decide) hlocks hK hP hD hS he dX8_takesPart_30
      · have he := he.1 c_7
        refine lv_iconst (v := (1 : Int32)) hx hb0 dX8_takesPart_25 (by decide) ?_
        refine lv_goto (tgt := 30) hx hb0 dX8_takesPart_26 (by decide) ?_
        exact gx_zret hx hb0 hr (by decide) hlocks hK hP hD hS he dX8_takesPart_30
theorem gm_X8_takesPart : gMeth yX8_takesPart cX8_takesPart 3 (some .boolean) 2 := ⟨⟨by decide, by decide, by decide +kernel⟩, ini_RX8, co_yX8_takesPart⟩
abbrev rm_X8_parts : Room := { frames := 2, cells := 0, slots := 0, locals := 44 }
set_option maxHeartbeats 4000000 in
set_option maxRecDepth 100000 in
theorem l_X8_parts_4 (l : Launch) (dC : Nat → ClassId) (dI : Nat → Nat → Nat) (P : gP) (ad : Nat → Nat) {p : Program} {e : Env} {s : State} {m : MethodId} {args : Array Value} {below : List Frame} {meth : Method} {c : Code} (hx : p.tables.exec = Jvm.exec) (hb0 : c.code = cX8_parts) (hr : meth.sig.returnType = (some .int)) (hlocks : meth.locks = false) (hml : c.maxLocals = 4) (hown : s.vm.findClass RX8 = some m.cls) (hts : ∀ w ∈ TB, w.before args s = true) (hK : va_K (dC, dI) vwCl (tyC P) s) (hk : gKM s) (Q : Int32 → Hp → Prop) : ∀ (n : Nat) (y1 : Int32) (y2 : Int32) (y3 : Int32) (h0 : Hp), F_X8_parts_L4  n y1 y2 y3 h0 Q → ∀ (H : Heap) (locs : List Loc) (ls : Array Slot), va_P (dC, dI) vwCl (gW 7 (mE P ad) ad h0) H → va_D (gA 7 ad) (gW 7 (mE P ad) ad h0) → va_S (gA 7 ad) s.heap H locs → lv_has ls 4 [(0, .ref (ad 0)), (1, .int y1), (2, .int y2), (3, .int y3)] → W p l e rm_X8_parts s m args below meth c H locs 0 0 (MQ below (gQi (dC, dI) vwCl (tyC P) 7 (mE P ad) ad Q) args s 0 0 (gA 7 ad)) (F0 m 4 ls []) := by
  intro n
  induction n with
  | zero =>
    intro y1 y2 y3 h0 he
    exact he.elim
  | succ n ih =>
    intro y1 y2 y3 h0 he H locs ls hP hD hS hl
    rw [F_X8_parts_L4] at he
    refine lv_iload_n hx hb0 dX8_parts_4 rfl (lv_at hl 3 rfl) ?_
    refine lv_bipush (v := (7 : Int32)) hx hb0 dX8_parts_5 (by decide) ?_
    refine lv_icmp_ge (tgt := 33) hx hb0 dX8_parts_7 (by decide) (fun c_1 => ?_) (fun c_1 => ?_)
    · have he := he.1 c_1
      refine lv_iload_n hx hb0 dX8_parts_33 rfl (lv_at hl 2 rfl) ?_
      exact gx_iret hx hb0 hr hlocks hK hP hD hS he dX8_parts_34
    · have he := he.2 c_1
      refine lv_iload_n hx hb0 dX8_parts_10 rfl (lv_at hl 2 rfl) ?_
      refine lv_aload_n hx hb0 dX8_parts_11 rfl (lv_at hl 0 rfl) ?_
      refine lv_iload_n hx hb0 dX8_parts_12 rfl (lv_at hl 3 rfl) ?_
      refine lv_iload_n hx hb0 dX8_parts_13 rfl (lv_at hl 1 rfl) ?_
      refine gx_vi ⟨hx, hb0, hml, hown, hts⟩ (gKM_keep _) hk hK hP hD hS 0 [.int y3, .int y1] [.int y2] (c_X8_takesPart l dC dI P ad y3 y1 h0 _ he) gm_X8_takesPart im_yX8_takesPart se_yX8_takesPart ml_RX8_82 (by decide) (mE_0 _) rfl rfl rfl ⟨Nat.le_of_ble_eq_true rfl, Nat.le_of_ble_eq_true rfl⟩ rfl hl.1 rfl (Nat.le_of_ble_eq_true rfl) dX8_parts_14 ⟨Nat.zero_le _, Nat.zero_le _⟩ (fun r_2 h_3 he H locs hP hD hS => ?_)
      refine lv_if_eq (tgt := 24) hx hb0 dX8_parts_17 (by decide) (fun c_4 => ?_) (fun c_4 => ?_)
      · have he := he.1 c_4
        refine lv_iconst (v := (0 : Int32)) hx hb0 dX8_parts_24 (by decide) ?_
        refine lv_iadd hx hb0 dX8_parts_25 ?_
        refine lv_topi (fun x_5 ex_5 => ?_)
        have he := he x_5 ex_5
        refine lv_istore_n (lv' := [(2, .int x_5), (0, .ref (ad 0)), (1, .int y1), (3, .int y3)]) hx hb0 dX8_parts_26 rfl hl (by decide) rfl (fun ls hl => ?_)
        obtain ⟨x_6, ex_6⟩ : ∃ y : Int32, y = y3 + 1 := ⟨_, rfl⟩
        have he := he x_6 ex_6
        refine lv_iinc (v := x_6) (lv' := [(3, .int x_6), (2, .int x_5), (0, .ref (ad 0)), (1, .int y1)]) hx hb0 dX8_parts_27 hl (k := 3) rfl (by rw [ex_6]; rfl) (by decide) rfl (fun ls hl => ?_)
        refine lv_goto (tgt := 4) hx hb0 dX8_parts_30 (by decide) ?_
        exact ih y1 x_5 x_6 h_3 he _ _ ls hP hD hS (lv_sub hl [2, 3, 1, 0] rfl)
      · have he := he.2 c_4
        refine lv_iconst (v := (1 : Int32)) hx hb0 dX8_parts_20 (by decide) ?_
        refine lv_goto (tgt := 25) hx hb0 dX8_parts_21 (by decide) ?_
        refine lv_iadd hx hb0 dX8_parts_25 ?_
        refine lv_topi (fun x_7 ex_7 => ?_)
        have he := he x_7 ex_7
        refine lv_istore_n (lv' := [(2, .int x_7), (0, .ref (ad 0)), (1, .int y1), (3, .int y3)]) hx hb0 dX8_parts_26 rfl hl (by decide) rfl (fun ls hl => ?_)
        obtain ⟨x_8, ex_8⟩ : ∃ y : Int32, y = y3 + 1 := ⟨_, rfl⟩
        have he := he x_8 ex_8
        refine lv_iinc (v := x_8) (lv' := [(3, .int x_8), (2, .int x_7), (0, .ref (ad 0)), (1, .int y1)]) hx hb0 dX8_parts_27 hl (k := 3) rfl (by rw [ex_8]; rfl) (by decide) rfl (fun ls hl => ?_)
        refine lv_goto (tgt := 4) hx hb0 dX8_parts_30 (by decide) ?_
        exact ih y1 x_7 x_8 h_3 he _ _ ls hP hD hS (lv_sub hl [2, 3, 1, 0] rfl)
set_option maxHeartbeats 4000000 in
set_option maxRecDepth 100000 in
theorem c_X8_parts (l : Launch) (dC : Nat → ClassId) (dI : Nat → Nat → Nat) (P : gP) (ad : Nat → Nat) (x1 : Int32) (h0 : Hp) (Q : Int32 → Hp → Prop) (he : F_X8_parts x1 h0 Q) : Met l yX8_parts (Cond.code yX8_parts cX8_parts 4 (some .int) :: TB) rm_X8_parts (gPc (dC, dI) vwCl (tyC P) 7 (mE P ad) ad gKM h0 [.ref (ad 0), .int x1]) (gQi (dC, dI) vwCl (tyC P) 7 (mE P ad) ad Q) 0 0 (gA 7 ad) := by
  refine gx_start (by decide) (Nat.le_of_ble_eq_true rfl) (fun p e s m below meth c ls hx hb0 hr hlocks hml hown hts hK hk hP hD hS hl => ?_)
  have hl : lv_has ls 4 [(0, .ref (ad 0)), (1, .int x1)] := hl
  have hown : s.vm.findClass RX8 = some m.cls := hown
  unfold F_X8_parts at he
  refine lv_iconst (v := (0 : Int32)) hx hb0 dX8_parts_0 (by decide) ?_
  refine lv_istore_n (lv' := [(2, .int (0 : Int32)), (0, .ref (ad 0)), (1, .int x1)]) hx hb0 dX8_parts_1 rfl hl (by decide) rfl (fun ls hl => ?_)
  refine lv_iconst (v := (0 : Int32)) hx hb0 dX8_parts_2 (by decide) ?_
  refine lv_istore_n (lv' := [(3, .int (0 : Int32)), (2, .int (0 : Int32)), (0, .ref (ad 0)), (1, .int x1)]) hx hb0 dX8_parts_3 rfl hl (by decide) rfl (fun ls hl => ?_)
  obtain ⟨n_9, he⟩ := he
  exact l_X8_parts_4 l dC dI P ad  hx hb0 hr hlocks hml hown hts hK hk Q n_9 x1 (0 : Int32) (0 : Int32) h0 he _ _ ls hP hD hS (lv_sub hl [2, 3, 1, 0] rfl)
theorem gm_X8_parts : gMeth yX8_parts cX8_parts 4 (some .int) 1 := ⟨⟨by decide, by decide, by decide +kernel⟩, ini_RX8, co_yX8_parts⟩
abbrev rm_X8_lower : Room := { frames := 2, cells := 0, slots := 0, locals := 44 }
set_option maxHeartbeats 4000000 in
set_option maxRecDepth 100000 in
theorem l_X8_lower_14 (l : Launch) (dC : Nat → ClassId) (dI : Nat → Nat → Nat) (P : gP) (ad : Nat → Nat) {p : Program} {e : Env} {s : State} {m : MethodId} {args : Array Value} {below : List Frame} {meth : Method} {c : Code} (hx : p.tables.exec = Jvm.exec) (hb0 : c.code = cX8_lower) (hr : meth.sig.returnType = (some .int)) (hlocks : meth.locks = false) (hml : c.maxLocals = 7) (hown : s.vm.findClass RX8 = some m.cls) (hts : ∀ w ∈ TB, w.before args s = true) (hK : va_K (dC, dI) vwCl (tyC P) s) (hk : gKM s) (Q : Int32 → Hp → Prop) : ∀ (n : Nat) (y1 : Int32) (y2 : Int32) (y3 : Int32) (y4 : Int32) (y5 : Int32) (h0 : Hp), F_X8_lower_L14  n y1 y2 y3 y4 y5 h0 Q → ∀ (H : Heap) (locs : List Loc) (ls : Array Slot), va_P (dC, dI) vwCl (gW 7 (mE P ad) ad h0) H → va_D (gA 7 ad) (gW 7 (mE P ad) ad h0) → va_S (gA 7 ad) s.heap H locs → lv_has ls 7 [(0, .ref (ad 0)), (1, .int y1), (2, .int y2), (3, .int y3), (4, .int y4), (5, .int y5)] → W p l e rm_X8_lower s m args below meth c H locs 0 0 (MQ below (gQi (dC, dI) vwCl (tyC P) 7 (mE P ad) ad Q) args s 0 0 (gA 7 ad)) (F0 m 14 ls []) := by
  intro n
  induction n with
  | zero =>
    intro y1 y2 y3 y4 y5 h0 he
    exact he.elim
  | succ n ih =>
    intro y1 y2 y3 y4 y5 h0 he H locs ls hP hD hS hl
    rw [F_X8_lower_L14] at he
    refine lv_iload hx hb0 dX8_lower_14 (lv_at hl 5 rfl) ?_
    refine lv_bipush (v := (7 : Int32)) hx hb0 dX8_lower_16 (by decide) ?_
    refine lv_icmp_ge (tgt := 75) hx hb0 dX8_lower_18 (by decide) (fun c_3 => ?_) (fun c_3 => ?_)
    · have he := he.1 c_3
      refine lv_iload_n hx hb0 dX8_lower_75 rfl (lv_at hl 3 rfl) ?_
      exact gx_iret hx hb0 hr hlocks hK hP hD hS he dX8_lower_76
    · have he := he.2 c_3
      refine lv_aload_n hx hb0 dX8_lower_21 rfl (lv_at hl 0 rfl) ?_
      refine lv_iload hx hb0 dX8_lower_22 (lv_at hl 5 rfl) ?_
      refine lv_bipush (v := (6 : Int32)) hx hb0 dX8_lower_24 (by decide) ?_
      refine gx_vi ⟨hx, hb0, hml, hown, hts⟩ (gKM_keep _) hk hK hP hD hS 0 [.int y5, .int (6 : Int32)] [] (c_X8_number l dC dI P ad y5 (6 : Int32) h0 _ he) gm_X8_number im_yX8_number se_yX8_number ml_RX8_54 (by decide) (mE_0 _) rfl rfl rfl ⟨Nat.le_of_ble_eq_true rfl, Nat.le_of_ble_eq_true rfl⟩ rfl hl.1 rfl (Nat.le_of_ble_eq_true rfl) dX8_lower_26 ⟨Nat.zero_le _, Nat.zero_le _⟩ (fun r_4 h_5 he H locs hP hD hS => ?_)
      refine lv_istore (lv' := [(6, .int r_4), (0, .ref (ad 0)), (1, .int y1), (2, .int y2), (3, .int y3), (4, .int y4), (5, .int y5)]) hx hb0 dX8_lower_29 hl (by decide) rfl (fun ls hl => ?_)
      refine lv_iload_n hx hb0 dX8_lower_31 rfl (lv_at hl 4 rfl) ?_
      refine lv_aload_n hx hb0 dX8_lower_32 rfl (lv_at hl 1 rfl) ?_
      refine lv_iload hx hb0 dX8_lower_33 (lv_at hl 6 rfl) ?_
      refine lv_iload_n hx hb0 dX8_lower_35 rfl (lv_at hl 3 rfl) ?_
      refine gx_vi ⟨hx, hb0, hml, hown, hts⟩ (gKM_keep _) hk hK hP hD hS 0 [.int y5, .int y2] [.int y3] (c_X8_takesPart l dC dI P ad y5 y2 h_5 _ he) gm_X8_takesPart im_yX8_takesPart se_yX8_takesPart ml_RX8_82 (by decide) (mE_0 _) rfl rfl rfl ⟨Nat.le_of_ble_eq_true rfl, Nat.le_of_ble_eq_true rfl⟩ rfl hl.1 rfl (Nat.le_of_ble_eq_true rfl) dX8_lower_36 ⟨Nat.zero_le _, Nat.zero_le _⟩ (fun r_6 h_7 he H locs hP hD hS => ?_)
      refine lv_if_eq (tgt := 66) hx hb0 dX8_lower_39 (by decide) (fun c_8 => ?_) (fun c_8 => ?_)
      · have he := he.1 c_8
        refine lv_iconst (v := (0 : Int32)) hx hb0 dX8_lower_66 (by decide) ?_
        refine lv_iadd hx hb0 dX8_lower_67 ?_
        refine lv_topi (fun x_9 ex_9 => ?_)
        have he := he x_9 ex_9
        refine lv_istore_n (lv' := [(3, .int x_9), (6, .int r_4), (0, .ref (ad 0)), (1, .int y1), (2, .int y2), (4, .int y4), (5, .int y5)]) hx hb0 dX8_lower_68 rfl hl (by decide) rfl (fun ls hl => ?_)
        obtain ⟨x_10, ex_10⟩ : ∃ y : Int32, y = y5 + 1 := ⟨_, rfl⟩
        have he := he x_10 ex_10
        refine lv_iinc (v := x_10) (lv' := [(5, .int x_10), (3, .int x_9), (6, .int r_4), (0, .ref (ad 0)), (1, .int y1), (2, .int y2), (4, .int y4)]) hx hb0 dX8_lower_69 hl (k := 6) rfl (by rw [ex_10]; rfl) (by decide) rfl (fun ls hl => ?_)
        refine lv_goto (tgt := 14) hx hb0 dX8_lower_72 (by decide) ?_
        exact ih y1 y2 x_9 y4 x_10 h_7 he _ _ ls hP hD hS (lv_sub hl [3, 4, 5, 1, 6, 0] rfl)
      · have he := he.2 c_8
        refine lv_iload hx hb0 dX8_lower_42 (lv_at hl 0 rfl) ?_
        refine lv_iload hx hb0 dX8_lower_44 (lv_at hl 5 rfl) ?_
        refine lv_icmp_lt (tgt := 62) hx hb0 dX8_lower_46 (by decide) (fun c_11 => ?_) (fun c_11 => ?_)
        · have he := he.1 c_11
          refine lv_iconst (v := (1 : Int32)) hx hb0 dX8_lower_62 (by decide) ?_
          refine lv_goto (tgt := 67) hx hb0 dX8_lower_63 (by decide) ?_
          refine lv_iadd hx hb0 dX8_lower_67 ?_
          refine lv_topi (fun x_12 ex_12 => ?_)
          have he := he x_12 ex_12
          refine lv_istore_n (lv' := [(3, .int x_12), (6, .int r_4), (0, .ref (ad 0)), (1, .int y1), (2, .int y2), (4, .int y4), (5, .int y5)]) hx hb0 dX8_lower_68 rfl hl (by decide) rfl (fun ls hl => ?_)
          obtain ⟨x_13, ex_13⟩ : ∃ y : Int32, y = y5 + 1 := ⟨_, rfl⟩
          have he := he x_13 ex_13
          refine lv_iinc (v := x_13) (lv' := [(5, .int x_13), (3, .int x_12), (6, .int r_4), (0, .ref (ad 0)), (1, .int y1), (2, .int y2), (4, .int y4)]) hx hb0 dX8_lower_69 hl (k := 6) rfl (by rw [ex_13]; rfl) (by decide) rfl (fun ls hl => ?_)
          refine lv_goto (tgt := 14) hx hb0 dX8_lower_72 (by decide) ?_
          exact ih y1 y2 x_12 y4 x_13 h_7 he _ _ ls hP hD hS (lv_sub hl [3, 4, 5, 1, 6, 0] rfl)
        · have he := he.2 c_11
          refine lv_iload hx hb0 dX8_lower_49 (lv_at hl 0 rfl) ?_
          refine lv_iload hx hb0 dX8_lower_51 (lv_at hl 5 rfl) ?_
          refine lv_icmp_ne (tgt := 66) hx hb0 dX8_lower_53 (by decide) (fun c_14 => ?_) (fun c_14 => ?_)
          · have he := he.2 c_14
            refine lv_iconst (v := (0 : Int32)) hx hb0 dX8_lower_66 (by decide) ?_
            refine lv_iadd hx hb0 dX8_lower_67 ?_
            refine lv_topi (fun x_15 ex_15 => ?_)
            have he := he x_15 ex_15
            refine lv_istore_n (lv' := [(3, .int x_15), (6, .int r_4), (0, .ref (ad 0)), (1, .int y1), (2, .int y2), (4, .int y4), (5, .int y5)]) hx hb0 dX8_lower_68 rfl hl (by decide) rfl (fun ls hl => ?_)
            obtain ⟨x_16, ex_16⟩ : ∃ y : Int32, y = y5 + 1 := ⟨_, rfl⟩
            have he := he x_16 ex_16
            refine lv_iinc (v := x_16) (lv' := [(5, .int x_16), (3, .int x_15), (6, .int r_4), (0, .ref (ad 0)), (1, .int y1), (2, .int y2), (4, .int y4)]) hx hb0 dX8_lower_69 hl (k := 6) rfl (by rw [ex_16]; rfl) (by decide) rfl (fun ls hl => ?_)
            refine lv_goto (tgt := 14) hx hb0 dX8_lower_72 (by decide) ?_
            exact ih y1 y2 x_15 y4 x_16 h_7 he _ _ ls hP hD hS (lv_sub hl [3, 4, 5, 1, 6, 0] rfl)
          · have he := he.1 c_14
            refine lv_iload hx hb0 dX8_lower_56 (lv_at hl 6 rfl) ?_
            refine lv_iload_n hx hb0 dX8_lower_58 rfl (lv_at hl 2 rfl) ?_
            refine lv_icmp_ge (tgt := 66) hx hb0 dX8_lower_59 (by decide) (fun c_17 => ?_) (fun c_17 => ?_)
            · have he := he.1 c_17
              refine lv_iconst (v := (0 : Int32)) hx hb0 dX8_lower_66 (by decide) ?_
              refine lv_iadd hx hb0 dX8_lower_67 ?_
              refine lv_topi (fun x_18 ex_18 => ?_)
              have he := he x_18 ex_18
              refine lv_istore_n (lv' := [(3, .int x_18), (6, .int r_4), (0, .ref (ad 0)), (1, .int y1), (2, .int y2), (4, .int y4), (5, .int y5)]) hx hb0 dX8_lower_68 rfl hl (by decide) rfl (fun ls hl => ?_)
              obtain ⟨x_19, ex_19⟩ : ∃ y : Int32, y = y5 + 1 := ⟨_, rfl⟩
              have he := he x_19 ex_19
              refine lv_iinc (v := x_19) (lv' := [(5, .int x_19), (3, .int x_18), (6, .int r_4), (0, .ref (ad 0)), (1, .int y1), (2, .int y2), (4, .int y4)]) hx hb0 dX8_lower_69 hl (k := 6) rfl (by rw [ex_19]; rfl) (by decide) rfl (fun ls hl => ?_)
              refine lv_goto (tgt := 14) hx hb0 dX8_lower_72 (by decide) ?_
              exact ih y1 y2 x_18 y4 x_19 h_7 he _ _ ls hP hD hS (lv_sub hl [3, 4, 5, 1, 6, 0] rfl)
            · have he := he.2 c_17
              refine lv_iconst (v := (1 : Int32)) hx hb0 dX8_lower_62 (by decide) ?_
              refine lv_goto (tgt := 67) hx hb0 dX8_lower_63 (by decide) ?_
              refine lv_iadd hx hb0 dX8_lower_67 ?_
              refine lv_topi (fun x_20 ex_20 => ?_)
              have he := he x_20 ex_20
              refine lv_istore_n (lv' := [(3, .int x_20), (6, .int r_4), (0, .ref (ad 0)), (1, .int y1), (2, .int y2), (4, .int y4), (5, .int y5)]) hx hb0 dX8_lower_68 rfl hl (by decide) rfl (fun ls hl => ?_)
              obtain ⟨x_21, ex_21⟩ : ∃ y : Int32, y = y5 + 1 := ⟨_, rfl⟩
              have he := he x_21 ex_21
              refine lv_iinc (v := x_21) (lv' := [(5, .int x_21), (3, .int x_20), (6, .int r_4), (0, .ref (ad 0)), (1, .int y1), (2, .int y2), (4, .int y4)]) hx hb0 dX8_lower_69 hl (k := 6) rfl (by rw [ex_21]; rfl) (by decide) rfl (fun ls hl => ?_)
              refine lv_goto (tgt := 14) hx hb0 dX8_lower_72 (by decide) ?_
              exact ih y1 y2 x_20 y4 x_21 h_7 he _ _ ls hP hD hS (lv_sub hl [3, 4, 5, 1, 6, 0] rfl)
set_option maxHeartbeats 4000000 in
set_option maxRecDepth 100000 in
theorem c_X8_lower (l : Launch) (dC : Nat → ClassId) (dI : Nat → Nat → Nat) (P : gP) (ad : Nat → Nat) (x1 : Int32) (x2 : Int32) (h0 : Hp) (Q : Int32 → Hp → Prop) (he : F_X8_lower x1 x2 h0 Q) : Met l yX8_lower (Cond.code yX8_lower cX8_lower 7 (some .int) :: TB) rm_X8_lower (gPc (dC, dI) vwCl (tyC P) 7 (mE P ad) ad gKM h0 [.ref (ad 0), .int x1, .int x2]) (gQi (dC, dI) vwCl (tyC P) 7 (mE P ad) ad Q) 0 0 (gA 7 ad) := by
  refine gx_start (by decide) (Nat.le_of_ble_eq_true rfl) (fun p e s m below meth c ls hx hb0 hr hlocks hml hown hts hK hk hP hD hS hl => ?_)
  have hl : lv_has ls 7 [(0, .ref (ad 0)), (1, .int x1), (2, .int x2)] := hl
  have hown : s.vm.findClass RX8 = some m.cls := hown
  unfold F_X8_lower at he
  refine lv_iconst (v := (0 : Int32)) hx hb0 dX8_lower_0 (by decide) ?_
  refine lv_istore_n (lv' := [(3, .int (0 : Int32)), (0, .ref (ad 0)), (1, .int x1), (2, .int x2)]) hx hb0 dX8_lower_1 rfl hl (by decide) rfl (fun ls hl => ?_)
  refine lv_aload_n hx hb0 dX8_lower_2 rfl (lv_at hl 1 rfl) ?_
  refine lv_iload_n hx hb0 dX8_lower_3 rfl (lv_at hl 2 rfl) ?_
  refine lv_bipush (v := (6 : Int32)) hx hb0 dX8_lower_4 (by decide) ?_
  refine gx_vi ⟨hx, hb0, hml, hown, hts⟩ (gKM_keep _) hk hK hP hD hS 0 [.int x1, .int (6 : Int32)] [] (c_X8_number l dC dI P ad x1 (6 : Int32) h0 _ he) gm_X8_number im_yX8_number se_yX8_number ml_RX8_54 (by decide) (mE_0 _) rfl rfl rfl ⟨Nat.le_of_ble_eq_true rfl, Nat.le_of_ble_eq_true rfl⟩ rfl hl.1 rfl (Nat.le_of_ble_eq_true rfl) dX8_lower_6 ⟨Nat.zero_le _, Nat.zero_le _⟩ (fun r_1 h_2 he H locs hP hD hS => ?_)
  refine lv_istore (lv' := [(4, .int r_1), (3, .int (0 : Int32)), (0, .ref (ad 0)), (1, .int x1), (2, .int x2)]) hx hb0 dX8_lower_9 hl (by decide) rfl (fun ls hl => ?_)
  refine lv_iconst (v := (0 : Int32)) hx hb0 dX8_lower_11 (by decide) ?_
  refine lv_istore (lv' := [(5, .int (0 : Int32)), (4, .int r_1), (3, .int (0 : Int32)), (0, .ref (ad 0)), (1, .int x1), (2, .int x2)]) hx hb0 dX8_lower_12 hl (by decide) rfl (fun ls hl => ?_)
  obtain ⟨n_22, he⟩ := he
  exact l_X8_lower_14 l dC dI P ad  hx hb0 hr hlocks hml hown hts hK hk Q n_22 x1 x2 (0 : Int32) r_1 (0 : Int32) h_2 he _ _ ls hP hD hS (lv_sub hl [3, 4, 5, 2, 1, 0] rfl)
theorem gm_X8_lower : gMeth yX8_lower cX8_lower 7 (some .int) 2 := ⟨⟨by decide, by decide, by decide +kernel⟩, ini_RX8, co_yX8_lower⟩
abbrev rm_X8_middle : Room := { frames := 3, cells := 0, slots := 0, locals := 70 }
set_option maxHeartbeats 4000000 in
set_option maxRecDepth 100000 in
theorem l_X8_middle_15 (l : Launch) (dC : Nat → ClassId) (dI : Nat → Nat → Nat) (P : gP) (ad : Nat → Nat) {p : Program} {e : Env} {s : State} {m : MethodId} {args : Array Value} {below : List Frame} {meth : Method} {c : Code} (hx : p.tables.exec = Jvm.exec) (hb0 : c.code = cX8_middle) (hr : meth.sig.returnType = (some .int)) (hlocks : meth.locks = false) (hml : c.maxLocals = 5) (hown : s.vm.findClass RX8 = some m.cls) (hts : ∀ w ∈ TB, w.before args s = true) (hK : va_K (dC, dI) vwCl (tyC P) s) (hk : gKM s) (Q : Int32 → Hp → Prop) : ∀ (n : Nat) (y1 : Int32) (y2 : Int32) (y3 : Int32) (y4 : Int32) (h0 : Hp), F_X8_middle_L15  n y1 y2 y3 y4 h0 Q → ∀ (H : Heap) (locs : List Loc) (ls : Array Slot), va_P (dC, dI) vwCl (gW 7 (mE P ad) ad h0) H → va_D (gA 7 ad) (gW 7 (mE P ad) ad h0) → va_S (gA 7 ad) s.heap H locs → lv_has ls 5 [(0, .ref (ad 0)), (1, .int y1), (2, .int y2), (3, .int y3), (4, .int y4)] → W p l e rm_X8_middle s m args below meth c H locs 0 0 (MQ below (gQi (dC, dI) vwCl (tyC P) 7 (mE P ad) ad Q) args s 0 0 (gA 7 ad)) (F0 m 15 ls []) := by
  intro n
  induction n with
  | zero =>
    intro y1 y2 y3 y4 h0 he
    exact he.elim
  | succ n ih =>
    intro y1 y2 y3 y4 h0 he H locs ls hP hD hS hl
    rw [F_X8_middle_L15] at he
    refine lv_iload hx hb0 dX8_middle_15 (lv_at hl 4 rfl) ?_
    refine lv_bipush (v := (7 : Int32)) hx hb0 dX8_middle_17 (by decide) ?_
    refine lv_icmp_ge (tgt := 62) hx hb0 dX8_middle_19 (by decide) (fun c_4 => ?_) (fun c_4 => ?_)
    · have he := he.1 c_4
      refine lv_iload_n hx hb0 dX8_middle_62 rfl (lv_at hl 3 rfl) ?_
      exact gx_iret hx hb0 hr hlocks hK hP hD hS he dX8_middle_63
    · have he := he.2 c_4
      refine lv_aload_n hx hb0 dX8_middle_22 rfl (lv_at hl 0 rfl) ?_
      refine lv_iload hx hb0 dX8_middle_23 (lv_at hl 4 rfl) ?_
      refine lv_iload_n hx hb0 dX8_middle_25 rfl (lv_at hl 1 rfl) ?_
      refine gx_vi ⟨hx, hb0, hml, hown, hts⟩ (gKM_keep _) hk hK hP hD hS 0 [.int y4, .int y1] [] (c_X8_takesPart l dC dI P ad y4 y1 h0 _ he) gm_X8_takesPart im_yX8_takesPart se_yX8_takesPart ml_RX8_82 (by decide) (mE_0 _) rfl rfl rfl ⟨Nat.le_of_ble_eq_true rfl, Nat.le_of_ble_eq_true rfl⟩ rfl hl.1 rfl (Nat.le_of_ble_eq_true rfl) dX8_middle_26 ⟨Nat.zero_le _, Nat.zero_le _⟩ (fun r_5 h_6 he H locs hP hD hS => ?_)
      refine lv_if_eq (tgt := 54) hx hb0 dX8_middle_29 (by decide) (fun c_7 => ?_) (fun c_7 => ?_)
      · have he := he.1 c_7
        refine lv_iload_n hx hb0 dX8_middle_54 rfl (lv_at hl 3 rfl) ?_
        refine lv_istore_n (lv' := [(3, .int y3), (0, .ref (ad 0)), (1, .int y1), (2, .int y2), (4, .int y4)]) hx hb0 dX8_middle_55 rfl hl (by decide) rfl (fun ls hl => ?_)
        obtain ⟨x_8, ex_8⟩ : ∃ y : Int32, y = y4 + 1 := ⟨_, rfl⟩
        have he := he x_8 ex_8
        refine lv_iinc (v := x_8) (lv' := [(4, .int x_8), (3, .int y3), (0, .ref (ad 0)), (1, .int y1), (2, .int y2)]) hx hb0 dX8_middle_56 hl (k := 4) rfl (by rw [ex_8]; rfl) (by decide) rfl (fun ls hl => ?_)
        refine lv_goto (tgt := 15) hx hb0 dX8_middle_59 (by decide) ?_
        exact ih y1 y2 y3 x_8 h_6 he _ _ ls hP hD hS (lv_sub hl [2, 3, 4, 1, 0] rfl)
      · have he := he.2 c_7
        refine lv_aload_n hx hb0 dX8_middle_32 rfl (lv_at hl 0 rfl) ?_
        refine lv_iload hx hb0 dX8_middle_33 (lv_at hl 4 rfl) ?_
        refine lv_iload_n hx hb0 dX8_middle_35 rfl (lv_at hl 1 rfl) ?_
        refine gx_vi ⟨hx, hb0, hml, hown, hts⟩ (gKM_keep _) hk hK hP hD hS 0 [.int y4, .int y1] [] (c_X8_lower l dC dI P ad y4 y1 h_6 _ he) gm_X8_lower im_yX8_lower se_yX8_lower ml_RX8_89 (by decide) (mE_0 _) rfl rfl rfl ⟨Nat.le_of_ble_eq_true rfl, Nat.le_of_ble_eq_true rfl⟩ rfl hl.1 rfl (Nat.le_of_ble_eq_true rfl) dX8_middle_36 ⟨Nat.zero_le _, Nat.zero_le _⟩ (fun r_9 h_10 he H locs hP hD hS => ?_)
        refine lv_iload_n hx hb0 dX8_middle_39 rfl (lv_at hl 2 rfl) ?_
        refine lv_icmp_ne (tgt := 54) hx hb0 dX8_middle_40 (by decide) (fun c_11 => ?_) (fun c_11 => ?_)
        · have he := he.2 c_11
          refine lv_iload_n hx hb0 dX8_middle_54 rfl (lv_at hl 3 rfl) ?_
          refine lv_istore_n (lv' := [(3, .int y3), (0, .ref (ad 0)), (1, .int y1), (2, .int y2), (4, .int y4)]) hx hb0 dX8_middle_55 rfl hl (by decide) rfl (fun ls hl => ?_)
          obtain ⟨x_12, ex_12⟩ : ∃ y : Int32, y = y4 + 1 := ⟨_, rfl⟩
          have he := he x_12 ex_12
          refine lv_iinc (v := x_12) (lv' := [(4, .int x_12), (3, .int y3), (0, .ref (ad 0)), (1, .int y1), (2, .int y2)]) hx hb0 dX8_middle_56 hl (k := 4) rfl (by rw [ex_12]; rfl) (by decide) rfl (fun ls hl => ?_)
          refine lv_goto (tgt := 15) hx hb0 dX8_middle_59 (by decide) ?_
          exact ih y1 y2 y3 x_12 h_10 he _ _ ls hP hD hS (lv_sub hl [2, 3, 4, 1, 0] rfl)
        · have he := he.1 c_11
          refine lv_aload_n hx hb0 dX8_middle_43 rfl (lv_at hl 0 rfl) ?_
          refine lv_iload hx hb0 dX8_middle_44 (lv_at hl 4 rfl) ?_
          refine lv_bipush (v := (6 : Int32)) hx hb0 dX8_middle_46 (by decide) ?_
          refine gx_vi ⟨hx, hb0, hml, hown, hts⟩ (gKM_keep _) hk hK hP hD hS 0 [.int y4, .int (6 : Int32)] [] (c_X8_number l dC dI P ad y4 (6 : Int32) h_10 _ he) gm_X8_number im_yX8_number se_yX8_number ml_RX8_54 (by decide) (mE_0 _) rfl rfl rfl ⟨Nat.le_of_ble_eq_true rfl, Nat.le_of_ble_eq_true rfl⟩ rfl hl.1 rfl (Nat.le_of_ble_eq_true rfl) dX8_middle_48 ⟨Nat.zero_le _, Nat.zero_le _⟩ (fun r_13 h_14 he H locs hP hD hS => ?_)
          refine lv_goto (tgt := 55) hx hb0 dX8_middle_51 (by decide) ?_
          refine lv_istore_n (lv' := [(3, .int r_13), (0, .ref (ad 0)), (1, .int y1), (2, .int y2), (4, .int y4)]) hx hb0 dX8_middle_55 rfl hl (by decide) rfl (fun ls hl => ?_)
          obtain ⟨x_15, ex_15⟩ : ∃ y : Int32, y = y4 + 1 := ⟨_, rfl⟩
          have he := he x_15 ex_15
          refine lv_iinc (v := x_15) (lv' := [(4, .int x_15), (3, .int r_13), (0, .ref (ad 0)), (1, .int y1), (2, .int y2)]) hx hb0 dX8_middle_56 hl (k := 4) rfl (by rw [ex_15]; rfl) (by decide) rfl (fun ls hl => ?_)
          refine lv_goto (tgt := 15) hx hb0 dX8_middle_59 (by decide) ?_
          exact ih y1 y2 r_13 x_15 h_14 he _ _ ls hP hD hS (lv_sub hl [2, 3, 4, 1, 0] rfl)
set_option maxHeartbeats 4000000 in
set_option maxRecDepth 100000 in
theorem c_X8_middle (l : Launch) (dC : Nat → ClassId) (dI : Nat → Nat → Nat) (P : gP) (ad : Nat → Nat) (x1 : Int32) (h0 : Hp) (Q : Int32 → Hp → Prop) (he : F_X8_middle x1 h0 Q) : Met l yX8_middle (Cond.code yX8_middle cX8_middle 5 (some .int) :: TB) rm_X8_middle (gPc (dC, dI) vwCl (tyC P) 7 (mE P ad) ad gKM h0 [.ref (ad 0), .int x1]) (gQi (dC, dI) vwCl (tyC P) 7 (mE P ad) ad Q) 0 0 (gA 7 ad) := by
  refine gx_start (by decide) (Nat.le_of_ble_eq_true rfl) (fun p e s m below meth c ls hx hb0 hr hlocks hml hown hts hK hk hP hD hS hl => ?_)
  have hl : lv_has ls 5 [(0, .ref (ad 0)), (1, .int x1)] := hl
  have hown : s.vm.findClass RX8 = some m.cls := hown
  unfold F_X8_middle at he
  refine lv_aload_n hx hb0 dX8_middle_0 rfl (lv_at hl 0 rfl) ?_
  refine lv_iload_n hx hb0 dX8_middle_1 rfl (lv_at hl 1 rfl) ?_
  refine gx_vi ⟨hx, hb0, hml, hown, hts⟩ (gKM_keep _) hk hK hP hD hS 0 [.int x1] [] (c_X8_parts l dC dI P ad x1 h0 _ he) gm_X8_parts im_yX8_parts se_yX8_parts ml_RX8_86 (by decide) (mE_0 _) rfl rfl rfl ⟨Nat.le_of_ble_eq_true rfl, Nat.le_of_ble_eq_true rfl⟩ rfl hl.1 rfl (Nat.le_of_ble_eq_true rfl) dX8_middle_2 ⟨Nat.zero_le _, Nat.zero_le _⟩ (fun r_1 h_2 he H locs hP hD hS => ?_)
  refine lv_iconst (v := (1 : Int32)) hx hb0 dX8_middle_5 (by decide) ?_
  refine lv_isub hx hb0 dX8_middle_6 ?_
  refine lv_iconst (v := (2 : Int32)) hx hb0 dX8_middle_7 (by decide) ?_
  refine lv_idiv hx hb0 dX8_middle_8 (by decide) ?_
  refine lv_topi (fun x_3 ex_3 => ?_)
  have he := he x_3 ex_3
  refine lv_istore_n (lv' := [(2, .int x_3), (0, .ref (ad 0)), (1, .int x1)]) hx hb0 dX8_middle_9 rfl hl (by decide) rfl (fun ls hl => ?_)
  refine lv_iconst (v := (0 : Int32)) hx hb0 dX8_middle_10 (by decide) ?_
  refine lv_istore_n (lv' := [(3, .int (0 : Int32)), (2, .int x_3), (0, .ref (ad 0)), (1, .int x1)]) hx hb0 dX8_middle_11 rfl hl (by decide) rfl (fun ls hl => ?_)
  refine lv_iconst (v := (0 : Int32)) hx hb0 dX8_middle_12 (by decide) ?_
  refine lv_istore (lv' := [(4, .int (0 : Int32)), (3, .int (0 : Int32)), (2, .int x_3), (0, .ref (ad 0)), (1, .int x1)]) hx hb0 dX8_middle_13 hl (by decide) rfl (fun ls hl => ?_)
  obtain ⟨n_16, he⟩ := he
  exact l_X8_middle_15 l dC dI P ad  hx hb0 hr hlocks hml hown hts hK hk Q n_16 x1 x_3 (0 : Int32) (0 : Int32) h_2 he _ _ ls hP hD hS (lv_sub hl [3, 4, 2, 1, 0] rfl)
theorem gm_X8_middle : gMeth yX8_middle cX8_middle 5 (some .int) 1 := ⟨⟨by decide, by decide, by decide +kernel⟩, ini_RX8, co_yX8_middle⟩
abbrev rm_X8_judge : Room := { frames := 1, cells := 0, slots := 0, locals := 23 }
set_option maxHeartbeats 4000000 in
set_option maxRecDepth 100000 in
theorem c_X8_judge (l : Launch) (dC : Nat → ClassId) (dI : Nat → Nat → Nat) (P : gP) (ad : Nat → Nat) (x1 : Int32) (x2 : Int32) (h0 : Hp) (Q : Hp → Prop) (he : F_X8_judge x1 x2 h0 Q) : Met l yX8_judge (Cond.code yX8_judge cX8_judge 5 none :: TB) rm_X8_judge (gPc (dC, dI) vwCl (tyC P) 7 (mE P ad) ad gKM h0 [.ref (ad 0), .int x1, .int x2]) (gQv (dC, dI) vwCl (tyC P) 7 (mE P ad) ad Q) 0 0 (gA 7 ad) := by
  refine gx_start (by decide) (Nat.le_of_ble_eq_true rfl) (fun p e s m below meth c ls hx hb0 hr hlocks hml hown hts hK hk hP hD hS hl => ?_)
  have hl : lv_has ls 5 [(0, .ref (ad 0)), (1, .int x1), (2, .int x2)] := hl
  have hown : s.vm.findClass RX8 = some m.cls := hown
  unfold F_X8_judge at he
  refine lv_aload_n hx hb0 dX8_judge_0 rfl (lv_at hl 0 rfl) ?_
  refine lv_iload_n hx hb0 dX8_judge_1 rfl (lv_at hl 1 rfl) ?_
  refine lv_bipush (v := (6 : Int32)) hx hb0 dX8_judge_2 (by decide) ?_
  refine gx_vi ⟨hx, hb0, hml, hown, hts⟩ (gKM_keep _) hk hK hP hD hS 0 [.int x1, .int (6 : Int32)] [] (c_X8_number l dC dI P ad x1 (6 : Int32) h0 _ he) gm_X8_number im_yX8_number se_yX8_number ml_RX8_54 (by decide) (mE_0 _) rfl rfl rfl ⟨Nat.le_of_ble_eq_true rfl, Nat.le_of_ble_eq_true rfl⟩ rfl hl.1 rfl (Nat.le_of_ble_eq_true rfl) dX8_judge_4 ⟨Nat.zero_le _, Nat.zero_le _⟩ (fun r_1 h_2 he H locs hP hD hS => ?_)
  refine lv_iload_n hx hb0 dX8_judge_7 rfl (lv_at hl 2 rfl) ?_
  refine lv_isub hx hb0 dX8_judge_8 ?_
  refine gx_si ⟨hx, hb0, hml, hown, hts⟩ (gKM_keep _) hk hK hP hD hS [.int (r_1 - x2)] [] (c_X8_sizeOf l dC dI P ad (r_1 - x2) h_2 _ he) gm_X8_sizeOf st_yX8_sizeOf ml_RX8_50 rfl rfl ⟨Nat.le_of_ble_eq_true rfl, Nat.le_of_ble_eq_true rfl⟩ rfl hl.1 rfl (Nat.le_of_ble_eq_true rfl) dX8_judge_9 ⟨Nat.zero_le _, Nat.zero_le _⟩ (fun r_3 h_4 he H locs hP hD hS => ?_)
  refine lv_aload_n hx hb0 dX8_judge_12 rfl (lv_at hl 0 rfl) ?_
  refine gx_get hx hb0 hts in_RX8 hown hK hP 0 (by decide) (mE_0 _) rfl 0 (by decide) fl_RX8_7 rfl dX8_judge_13 ?_
  refine lv_iconst (v := (2 : Int32)) hx hb0 dX8_judge_16 (by decide) ?_
  refine gx_ialdK hx hb0 hK hP 1 0 (by decide) mE_1 rfl (vp_lit (2 : Int32) (by decide) (by decide)) 2 rfl dX8_judge_17 ?_
  refine lv_icmp_le (tgt := 25) hx hb0 dX8_judge_18 (by decide) (fun c_5 => ?_) (fun c_5 => ?_)
  · have he := he.1 c_5
    refine lv_iconst (v := (0 : Int32)) hx hb0 dX8_judge_25 (by decide) ?_
    refine lv_istore_n (lv' := [(3, .int (0 : Int32)), (0, .ref (ad 0)), (1, .int x1), (2, .int x2)]) hx hb0 dX8_judge_26 rfl hl (by decide) rfl (fun ls hl => ?_)
    refine lv_iload_n hx hb0 dX8_judge_27 rfl (lv_at hl 0 rfl) ?_
    refine lv_if_eq (tgt := 42) hx hb0 dX8_judge_28 (by decide) (fun c_6 => ?_) (fun c_6 => ?_)
    · refine lv_iconst (v := (0 : Int32)) hx hb0 dX8_judge_42 (by decide) ?_
      refine lv_istore (lv' := [(4, .int (0 : Int32)), (3, .int (0 : Int32)), (0, .ref (ad 0)), (1, .int x1), (2, .int x2)]) hx hb0 dX8_judge_43 hl (by decide) rfl (fun ls hl => ?_)
      refine lv_aload_n hx hb0 dX8_judge_45 rfl (lv_at hl 2 rfl) ?_
      refine lv_iload_n hx hb0 dX8_judge_46 rfl (lv_at hl 3 rfl) ?_
      refine lv_iconst (v := (3 : Int32)) hx hb0 dX8_judge_47 (by decide) ?_
      refine lv_iload hx hb0 dX8_judge_48 (lv_at hl 0 rfl) ?_
      refine gx_vv ⟨hx, hb0, hml, hown, hts⟩ (gKM_keep _) hk hK hP hD hS 0 [.int x1, .int (3 : Int32), .int (0 : Int32)] [] (c_X8_setOf l dC dI P ad x1 (3 : Int32) (0 : Int32) h_4 _ he) gm_X8_setOf im_yX8_setOf se_yX8_setOf ml_RX8_28 (by decide) (mE_0 _) rfl rfl rfl ⟨Nat.le_of_ble_eq_true rfl, Nat.le_of_ble_eq_true rfl⟩ rfl hl.1 rfl (Nat.le_of_ble_eq_true rfl) dX8_judge_50 ⟨Nat.zero_le _, Nat.zero_le _⟩ (fun h_8 he H locs hP hD hS => ?_)
      refine lv_aload_n hx hb0 dX8_judge_53 rfl (lv_at hl 2 rfl) ?_
      refine gx_get hx hb0 hts in_RX8 hown hK hP 0 (by decide) (mE_0 _) rfl 0 (by decide) fl_RX8_7 rfl dX8_judge_54 ?_
      refine lv_bipush (v := (12 : Int32)) hx hb0 dX8_judge_57 (by decide) ?_
      refine lv_dup2_11 hx hb0 dX8_judge_59 rfl rfl ?_
      refine gx_ialdK hx hb0 hK hP 1 0 (by decide) mE_1 rfl (vp_lit (12 : Int32) (by decide) (by decide)) 12 rfl dX8_judge_60 ?_
      refine lv_iload_n hx hb0 dX8_judge_61 rfl (lv_at hl 1 rfl) ?_
      refine lv_if_eq (tgt := 69) hx hb0 dX8_judge_62 (by decide) (fun c_9 => ?_) (fun c_9 => ?_)
      · refine lv_iconst (v := (0 : Int32)) hx hb0 dX8_judge_69 (by decide) ?_
        refine lv_iadd hx hb0 dX8_judge_70 ?_
        refine gx_iastK hx hb0 hK hP hD hS 1 0 (by decide) mE_1 rfl (vp_lit (12 : Int32) (by decide) (by decide)) 12 rfl dX8_judge_71 (fun h_10 eh_10 H locs hP hD hS => ?_)
        have he := he h_10 eh_10
        refine lv_aload_n hx hb0 dX8_judge_72 rfl (lv_at hl 2 rfl) ?_
        refine lv_iload_n hx hb0 dX8_judge_73 rfl (lv_at hl 3 rfl) ?_
        refine lv_iconst (v := (5 : Int32)) hx hb0 dX8_judge_74 (by decide) ?_
        refine lv_iconst (v := (0 : Int32)) hx hb0 dX8_judge_75 (by decide) ?_
        refine gx_vv ⟨hx, hb0, hml, hown, hts⟩ (gKM_keep _) hk hK hP hD hS 0 [.int x1, .int (5 : Int32), .int (0 : Int32)] [] (c_X8_setOf l dC dI P ad x1 (5 : Int32) (0 : Int32) h_10 _ he) gm_X8_setOf im_yX8_setOf se_yX8_setOf ml_RX8_28 (by decide) (mE_0 _) rfl rfl rfl ⟨Nat.le_of_ble_eq_true rfl, Nat.le_of_ble_eq_true rfl⟩ rfl hl.1 rfl (Nat.le_of_ble_eq_true rfl) dX8_judge_76 ⟨Nat.zero_le _, Nat.zero_le _⟩ (fun h_12 he H locs hP hD hS => ?_)
        refine lv_aload_n hx hb0 dX8_judge_79 rfl (lv_at hl 2 rfl) ?_
        refine lv_iload_n hx hb0 dX8_judge_80 rfl (lv_at hl 3 rfl) ?_
        refine lv_bipush (v := (6 : Int32)) hx hb0 dX8_judge_81 (by decide) ?_
        refine lv_iconst (v := (0 : Int32)) hx hb0 dX8_judge_83 (by decide) ?_
        refine gx_vv ⟨hx, hb0, hml, hown, hts⟩ (gKM_keep _) hk hK hP hD hS 0 [.int x1, .int (6 : Int32), .int (0 : Int32)] [] (c_X8_setOf l dC dI P ad x1 (6 : Int32) (0 : Int32) h_12 _ he) gm_X8_setOf im_yX8_setOf se_yX8_setOf ml_RX8_28 (by decide) (mE_0 _) rfl rfl rfl ⟨Nat.le_of_ble_eq_true rfl, Nat.le_of_ble_eq_true rfl⟩ rfl hl.1 rfl (Nat.le_of_ble_eq_true rfl) dX8_judge_84 ⟨Nat.zero_le _, Nat.zero_le _⟩ (fun h_14 he H locs hP hD hS => ?_)
        refine lv_iload hx hb0 dX8_judge_87 (lv_at hl 0 rfl) ?_
        refine lv_iconst (v := (3 : Int32)) hx hb0 dX8_judge_89 (by decide) ?_
        refine lv_icmp_lt (tgt := 101) hx hb0 dX8_judge_90 (by decide) (fun c_15 => ?_) (fun c_15 => ?_)
        · exact gx_vret hx hb0 hr hlocks hK hP hD hS he dX8_judge_101
        · exact absurd c_15 (by decide)
      · exact absurd c_9 (by decide)
    · exact absurd c_6 (by decide)
  · have he := he.2 c_5
    refine lv_iconst (v := (1 : Int32)) hx hb0 dX8_judge_21 (by decide) ?_
    refine lv_goto (tgt := 26) hx hb0 dX8_judge_22 (by decide) ?_
    refine lv_istore_n (lv' := [(3, .int (1 : Int32)), (0, .ref (ad 0)), (1, .int x1), (2, .int x2)]) hx hb0 dX8_judge_26 rfl hl (by decide) rfl (fun ls hl => ?_)
    refine lv_iload_n hx hb0 dX8_judge_27 rfl (lv_at hl 0 rfl) ?_
    refine lv_if_eq (tgt := 42) hx hb0 dX8_judge_28 (by decide) (fun c_16 => ?_) (fun c_16 => ?_)
    · exact absurd c_16 (by decide)
    · refine lv_aload_n hx hb0 dX8_judge_31 rfl (lv_at hl 1 rfl) ?_
      refine lv_iload_n hx hb0 dX8_judge_32 rfl (lv_at hl 2 rfl) ?_
      refine lv_iconst (v := (3 : Int32)) hx hb0 dX8_judge_33 (by decide) ?_
      refine gx_vi ⟨hx, hb0, hml, hown, hts⟩ (gKM_keep _) hk hK hP hD hS 0 [.int x1, .int (3 : Int32)] [] (c_X8_number l dC dI P ad x1 (3 : Int32) h_4 _ he) gm_X8_number im_yX8_number se_yX8_number ml_RX8_54 (by decide) (mE_0 _) rfl rfl rfl ⟨Nat.le_of_ble_eq_true rfl, Nat.le_of_ble_eq_true rfl⟩ rfl hl.1 rfl (Nat.le_of_ble_eq_true rfl) dX8_judge_34 ⟨Nat.zero_le _, Nat.zero_le _⟩ (fun r_17 h_18 he H locs hP hD hS => ?_)
      refine lv_iconst (v := (1 : Int32)) hx hb0 dX8_judge_37 (by decide) ?_
      refine lv_iadd hx hb0 dX8_judge_38 ?_
      refine lv_goto (tgt := 43) hx hb0 dX8_judge_39 (by decide) ?_
      refine lv_topi (fun x_19 ex_19 => ?_)
      have he := he x_19 ex_19
      refine lv_istore (lv' := [(4, .int x_19), (3, .int (1 : Int32)), (0, .ref (ad 0)), (1, .int x1), (2, .int x2)]) hx hb0 dX8_judge_43 hl (by decide) rfl (fun ls hl => ?_)
      refine lv_aload_n hx hb0 dX8_judge_45 rfl (lv_at hl 2 rfl) ?_
      refine lv_iload_n hx hb0 dX8_judge_46 rfl (lv_at hl 3 rfl) ?_
      refine lv_iconst (v := (3 : Int32)) hx hb0 dX8_judge_47 (by decide) ?_
      refine lv_iload hx hb0 dX8_judge_48 (lv_at hl 0 rfl) ?_
      refine gx_vv ⟨hx, hb0, hml, hown, hts⟩ (gKM_keep _) hk hK hP hD hS 0 [.int x1, .int (3 : Int32), .int x_19] [] (c_X8_setOf l dC dI P ad x1 (3 : Int32) x_19 h_18 _ he) gm_X8_setOf im_yX8_setOf se_yX8_setOf ml_RX8_28 (by decide) (mE_0 _) rfl rfl rfl ⟨Nat.le_of_ble_eq_true rfl, Nat.le_of_ble_eq_true rfl⟩ rfl hl.1 rfl (Nat.le_of_ble_eq_true rfl) dX8_judge_50 ⟨Nat.zero_le _, Nat.zero_le _⟩ (fun h_21 he H locs hP hD hS => ?_)
      refine lv_aload_n hx hb0 dX8_judge_53 rfl (lv_at hl 2 rfl) ?_
      refine gx_get hx hb0 hts in_RX8 hown hK hP 0 (by decide) (mE_0 _) rfl 0 (by decide) fl_RX8_7 rfl dX8_judge_54 ?_
      refine lv_bipush (v := (12 : Int32)) hx hb0 dX8_judge_57 (by decide) ?_
      refine lv_dup2_11 hx hb0 dX8_judge_59 rfl rfl ?_
      refine gx_ialdK hx hb0 hK hP 1 0 (by decide) mE_1 rfl (vp_lit (12 : Int32) (by decide) (by decide)) 12 rfl dX8_judge_60 ?_
      refine lv_iload_n hx hb0 dX8_judge_61 rfl (lv_at hl 1 rfl) ?_
      refine lv_if_eq (tgt := 69) hx hb0 dX8_judge_62 (by decide) (fun c_22 => ?_) (fun c_22 => ?_)
      · exact absurd c_22 (by decide)
      · refine lv_iconst (v := (1 : Int32)) hx hb0 dX8_judge_65 (by decide) ?_
        refine lv_goto (tgt := 70) hx hb0 dX8_judge_66 (by decide) ?_
        refine lv_iadd hx hb0 dX8_judge_70 ?_
        refine gx_iastK hx hb0 hK hP hD hS 1 0 (by decide) mE_1 rfl (vp_lit (12 : Int32) (by decide) (by decide)) 12 rfl dX8_judge_71 (fun h_23 eh_23 H locs hP hD hS => ?_)
        have he := he h_23 eh_23
        refine lv_aload_n hx hb0 dX8_judge_72 rfl (lv_at hl 2 rfl) ?_
        refine lv_iload_n hx hb0 dX8_judge_73 rfl (lv_at hl 3 rfl) ?_
        refine lv_iconst (v := (5 : Int32)) hx hb0 dX8_judge_74 (by decide) ?_
        refine lv_iconst (v := (0 : Int32)) hx hb0 dX8_judge_75 (by decide) ?_
        refine gx_vv ⟨hx, hb0, hml, hown, hts⟩ (gKM_keep _) hk hK hP hD hS 0 [.int x1, .int (5 : Int32), .int (0 : Int32)] [] (c_X8_setOf l dC dI P ad x1 (5 : Int32) (0 : Int32) h_23 _ he) gm_X8_setOf im_yX8_setOf se_yX8_setOf ml_RX8_28 (by decide) (mE_0 _) rfl rfl rfl ⟨Nat.le_of_ble_eq_true rfl, Nat.le_of_ble_eq_true rfl⟩ rfl hl.1 rfl (Nat.le_of_ble_eq_true rfl) dX8_judge_76 ⟨Nat.zero_le _, Nat.zero_le _⟩ (fun h_25 he H locs hP hD hS => ?_)
        refine lv_aload_n hx hb0 dX8_judge_79 rfl (lv_at hl 2 rfl) ?_
        refine lv_iload_n hx hb0 dX8_judge_80 rfl (lv_at hl 3 rfl) ?_
        refine lv_bipush (v := (6 : Int32)) hx hb0 dX8_judge_81 (by decide) ?_
        refine lv_iconst (v := (0 : Int32)) hx hb0 dX8_judge_83 (by decide) ?_
        refine gx_vv ⟨hx, hb0, hml, hown, hts⟩ (gKM_keep _) hk hK hP hD hS 0 [.int x1, .int (6 : Int32), .int (0 : Int32)] [] (c_X8_setOf l dC dI P ad x1 (6 : Int32) (0 : Int32) h_25 _ he) gm_X8_setOf im_yX8_setOf se_yX8_setOf ml_RX8_28 (by decide) (mE_0 _) rfl rfl rfl ⟨Nat.le_of_ble_eq_true rfl, Nat.le_of_ble_eq_true rfl⟩ rfl hl.1 rfl (Nat.le_of_ble_eq_true rfl) dX8_judge_84 ⟨Nat.zero_le _, Nat.zero_le _⟩ (fun h_27 he H locs hP hD hS => ?_)
        refine lv_iload hx hb0 dX8_judge_87 (lv_at hl 0 rfl) ?_
        refine lv_iconst (v := (3 : Int32)) hx hb0 dX8_judge_89 (by decide) ?_
        refine lv_icmp_lt (tgt := 101) hx hb0 dX8_judge_90 (by decide) (fun c_28 => ?_) (fun c_28 => ?_)
        · have he := he.1 c_28
          exact gx_vret hx hb0 hr hlocks hK hP hD hS he dX8_judge_101
        · have he := he.2 c_28
          refine lv_aload_n hx hb0 dX8_judge_93 rfl (lv_at hl 2 rfl) ?_
          refine lv_iload_n hx hb0 dX8_judge_94 rfl (lv_at hl 3 rfl) ?_
          refine lv_bipush (v := (7 : Int32)) hx hb0 dX8_judge_95 (by decide) ?_
          refine lv_iconst (v := (2 : Int32)) hx hb0 dX8_judge_97 (by decide) ?_
          refine gx_vv ⟨hx, hb0, hml, hown, hts⟩ (gKM_keep _) hk hK hP hD hS 0 [.int x1, .int (7 : Int32), .int (2 : Int32)] [] (c_X8_setOf l dC dI P ad x1 (7 : Int32) (2 : Int32) h_27 _ he) gm_X8_setOf im_yX8_setOf se_yX8_setOf ml_RX8_28 (by decide) (mE_0 _) rfl rfl rfl ⟨Nat.le_of_ble_eq_true rfl, Nat.le_of_ble_eq_true rfl⟩ rfl hl.1 rfl (Nat.le_of_ble_eq_true rfl) dX8_judge_98 ⟨Nat.zero_le _, Nat.zero_le _⟩ (fun h_30 he H locs hP hD hS => ?_)
          exact gx_vret hx hb0 hr hlocks hK hP hD hS he dX8_judge_101
theorem gm_X8_judge : gMeth yX8_judge cX8_judge 5 none 2 := ⟨⟨by decide, by decide, by decide +kernel⟩, ini_RX8, co_yX8_judge⟩
abbrev rm_X8_agrees : Room := { frames := 4, cells := 0, slots := 0, locals := 94 }
set_option maxHeartbeats 4000000 in
set_option maxRecDepth 100000 in
theorem l_X8_agrees_22 (l : Launch) (dC : Nat → ClassId) (dI : Nat → Nat → Nat) (P : gP) (ad : Nat → Nat) {p : Program} {e : Env} {s : State} {m : MethodId} {args : Array Value} {below : List Frame} {meth : Method} {c : Code} (hx : p.tables.exec = Jvm.exec) (hb0 : c.code = cX8_agrees) (hr : meth.sig.returnType = (some .int)) (hlocks : meth.locks = false) (hml : c.maxLocals = 3) (hown : s.vm.findClass RX8 = some m.cls) (hts : ∀ w ∈ TB, w.before args s = true) (hK : va_K (dC, dI) vwCl (tyC P) s) (hk : gKM s) (Q : Int32 → Hp → Prop) : ∀ (n : Nat) (y1 : Int32) (y2 : Int32) (h0 : Hp), F_X8_agrees_L22  n y1 y2 h0 Q → ∀ (H : Heap) (locs : List Loc) (ls : Array Slot), va_P (dC, dI) vwCl (gW 7 (mE P ad) ad h0) H → va_D (gA 7 ad) (gW 7 (mE P ad) ad h0) → va_S (gA 7 ad) s.heap H locs → lv_has ls 3 [(0, .ref (ad 0)), (1, .int y1), (2, .int y2)] → W p l e rm_X8_agrees s m args below meth c H locs 0 0 (MQ below (gQi (dC, dI) vwCl (tyC P) 7 (mE P ad) ad Q) args s 0 0 (gA 7 ad)) (F0 m 22 ls []) := by
  intro n
  induction n with
  | zero =>
    intro y1 y2 h0 he
    exact he.elim
  | succ n ih =>
    intro y1 y2 h0 he H locs ls hP hD hS hl
    rw [F_X8_agrees_L22] at he
    refine lv_iload_n hx hb0 dX8_agrees_22 rfl (lv_at hl 2 rfl) ?_
    refine lv_bipush (v := (7 : Int32)) hx hb0 dX8_agrees_23 (by decide) ?_
    refine lv_icmp_ge (tgt := 50) hx hb0 dX8_agrees_25 (by decide) (fun c_6 => ?_) (fun c_6 => ?_)
    · have he := he.1 c_6
      refine lv_aload_n hx hb0 dX8_agrees_50 rfl (lv_at hl 0 rfl) ?_
      refine gx_get hx hb0 hts in_RX8 hown hK hP 0 (by decide) (mE_0 _) rfl 0 (by decide) fl_RX8_7 rfl dX8_agrees_51 ?_
      refine lv_iconst (v := (5 : Int32)) hx hb0 dX8_agrees_54 (by decide) ?_
      refine lv_iconst (v := (1 : Int32)) hx hb0 dX8_agrees_55 (by decide) ?_
      refine gx_iastK hx hb0 hK hP hD hS 1 0 (by decide) mE_1 rfl (vp_lit (5 : Int32) (by decide) (by decide)) 5 rfl dX8_agrees_56 (fun h_7 eh_7 H locs hP hD hS => ?_)
      have he := he h_7 eh_7
      refine lv_aload_n hx hb0 dX8_agrees_57 rfl (lv_at hl 0 rfl) ?_
      refine gx_get hx hb0 hts in_RX8 hown hK hP 0 (by decide) (mE_0 _) rfl 0 (by decide) fl_RX8_7 rfl dX8_agrees_58 ?_
      refine lv_bipush (v := (6 : Int32)) hx hb0 dX8_agrees_61 (by decide) ?_
      refine lv_iload_n hx hb0 dX8_agrees_63 rfl (lv_at hl 1 rfl) ?_
      refine gx_iastK hx hb0 hK hP hD hS 1 0 (by decide) mE_1 rfl (vp_lit (6 : Int32) (by decide) (by decide)) 6 rfl dX8_agrees_64 (fun h_8 eh_8 H locs hP hD hS => ?_)
      have he := he h_8 eh_8
      refine lv_aload_n hx hb0 dX8_agrees_65 rfl (lv_at hl 0 rfl) ?_
      refine gx_get hx hb0 hts in_RX8 hown hK hP 0 (by decide) (mE_0 _) rfl 0 (by decide) fl_RX8_7 rfl dX8_agrees_66 ?_
      refine lv_bipush (v := (11 : Int32)) hx hb0 dX8_agrees_69 (by decide) ?_
      refine lv_dup2_11 hx hb0 dX8_agrees_71 rfl rfl ?_
      refine gx_ialdK hx hb0 hK hP 1 0 (by decide) mE_1 rfl (vp_lit (11 : Int32) (by decide) (by decide)) 11 rfl dX8_agrees_72 ?_
      refine lv_iconst (v := (1 : Int32)) hx hb0 dX8_agrees_73 (by decide) ?_
      refine lv_iadd hx hb0 dX8_agrees_74 ?_
      refine gx_iastK hx hb0 hK hP hD hS 1 0 (by decide) mE_1 rfl (vp_lit (11 : Int32) (by decide) (by decide)) 11 rfl dX8_agrees_75 (fun h_9 eh_9 H locs hP hD hS => ?_)
      have he := he h_9 eh_9
      refine lv_iload_n hx hb0 dX8_agrees_76 rfl (lv_at hl 1 rfl) ?_
      refine lv_sipush (v := (5400 : Int32)) hx hb0 dX8_agrees_77 (by decide) ?_
      refine lv_iadd hx hb0 dX8_agrees_80 ?_
      exact gx_iret hx hb0 hr hlocks hK hP hD hS he dX8_agrees_81
    · have he := he.2 c_6
      refine lv_aload_n hx hb0 dX8_agrees_28 rfl (lv_at hl 0 rfl) ?_
      refine lv_iload_n hx hb0 dX8_agrees_29 rfl (lv_at hl 2 rfl) ?_
      refine lv_bipush (v := (-6 : Int32)) hx hb0 dX8_agrees_30 (by decide) ?_
      refine gx_vi ⟨hx, hb0, hml, hown, hts⟩ (gKM_keep _) hk hK hP hD hS 0 [.int y2, .int (-6 : Int32)] [] (c_X8_takesPart l dC dI P ad y2 (-6 : Int32) h0 _ he) gm_X8_takesPart im_yX8_takesPart se_yX8_takesPart ml_RX8_82 (by decide) (mE_0 _) rfl rfl rfl ⟨Nat.le_of_ble_eq_true rfl, Nat.le_of_ble_eq_true rfl⟩ rfl hl.1 rfl (Nat.le_of_ble_eq_true rfl) dX8_agrees_32 ⟨Nat.zero_le _, Nat.zero_le _⟩ (fun r_10 h_11 he H locs hP hD hS => ?_)
      refine lv_if_eq (tgt := 44) hx hb0 dX8_agrees_35 (by decide) (fun c_12 => ?_) (fun c_12 => ?_)
      · have he := he.1 c_12
        obtain ⟨x_13, ex_13⟩ : ∃ y : Int32, y = y2 + 1 := ⟨_, rfl⟩
        have he := he x_13 ex_13
        refine lv_iinc (v := x_13) (lv' := [(2, .int x_13), (0, .ref (ad 0)), (1, .int y1)]) hx hb0 dX8_agrees_44 hl (k := 2) rfl (by rw [ex_13]; rfl) (by decide) rfl (fun ls hl => ?_)
        refine lv_goto (tgt := 22) hx hb0 dX8_agrees_47 (by decide) ?_
        exact ih y1 x_13 h_11 he _ _ ls hP hD hS (lv_sub hl [1, 2, 0] rfl)
      · have he := he.2 c_12
        refine lv_aload_n hx hb0 dX8_agrees_38 rfl (lv_at hl 0 rfl) ?_
        refine lv_iload_n hx hb0 dX8_agrees_39 rfl (lv_at hl 2 rfl) ?_
        refine lv_iload_n hx hb0 dX8_agrees_40 rfl (lv_at hl 1 rfl) ?_
        refine gx_vv ⟨hx, hb0, hml, hown, hts⟩ (gKM_keep _) hk hK hP hD hS 0 [.int y2, .int y1] [] (c_X8_judge l dC dI P ad y2 y1 h_11 _ he) gm_X8_judge im_yX8_judge se_yX8_judge ml_RX8_95 (by decide) (mE_0 _) rfl rfl rfl ⟨Nat.le_of_ble_eq_true rfl, Nat.le_of_ble_eq_true rfl⟩ rfl hl.1 rfl (Nat.le_of_ble_eq_true rfl) dX8_agrees_41 ⟨Nat.zero_le _, Nat.zero_le _⟩ (fun h_15 he H locs hP hD hS => ?_)
        obtain ⟨x_16, ex_16⟩ : ∃ y : Int32, y = y2 + 1 := ⟨_, rfl⟩
        have he := he x_16 ex_16
        refine lv_iinc (v := x_16) (lv' := [(2, .int x_16), (0, .ref (ad 0)), (1, .int y1)]) hx hb0 dX8_agrees_44 hl (k := 2) rfl (by rw [ex_16]; rfl) (by decide) rfl (fun ls hl => ?_)
        refine lv_goto (tgt := 22) hx hb0 dX8_agrees_47 (by decide) ?_
        exact ih y1 x_16 h_15 he _ _ ls hP hD hS (lv_sub hl [1, 2, 0] rfl)
set_option maxHeartbeats 4000000 in
set_option maxRecDepth 100000 in
theorem c_X8_agrees (l : Launch) (dC : Nat → ClassId) (dI : Nat → Nat → Nat) (P : gP) (ad : Nat → Nat) (h0 : Hp) (Q : Int32 → Hp → Prop) (he : F_X8_agrees  h0 Q) : Met l yX8_agrees (Cond.code yX8_agrees cX8_agrees 3 (some .int) :: TB) rm_X8_agrees (gPc (dC, dI) vwCl (tyC P) 7 (mE P ad) ad gKM h0 [.ref (ad 0)]) (gQi (dC, dI) vwCl (tyC P) 7 (mE P ad) ad Q) 0 0 (gA 7 ad) := by
  refine gx_start (by decide) (Nat.le_of_ble_eq_true rfl) (fun p e s m below meth c ls hx hb0 hr hlocks hml hown hts hK hk hP hD hS hl => ?_)
  have hl : lv_has ls 3 [(0, .ref (ad 0))] := hl
  have hown : s.vm.findClass RX8 = some m.cls := hown
  unfold F_X8_agrees at he
  refine lv_aload_n hx hb0 dX8_agrees_0 rfl (lv_at hl 0 rfl) ?_
  refine lv_bipush (v := (-6 : Int32)) hx hb0 dX8_agrees_1 (by decide) ?_
  refine gx_vi ⟨hx, hb0, hml, hown, hts⟩ (gKM_keep _) hk hK hP hD hS 0 [.int (-6 : Int32)] [] (c_X8_parts l dC dI P ad (-6 : Int32) h0 _ he) gm_X8_parts im_yX8_parts se_yX8_parts ml_RX8_86 (by decide) (mE_0 _) rfl rfl rfl ⟨Nat.le_of_ble_eq_true rfl, Nat.le_of_ble_eq_true rfl⟩ rfl hl.1 rfl (Nat.le_of_ble_eq_true rfl) dX8_agrees_3 ⟨Nat.zero_le _, Nat.zero_le _⟩ (fun r_1 h_2 he H locs hP hD hS => ?_)
  refine lv_iconst (v := (3 : Int32)) hx hb0 dX8_agrees_6 (by decide) ?_
  refine lv_icmp_ge (tgt := 13) hx hb0 dX8_agrees_7 (by decide) (fun c_3 => ?_) (fun c_3 => ?_)
  · have he := he.1 c_3
    refine lv_aload_n hx hb0 dX8_agrees_13 rfl (lv_at hl 0 rfl) ?_
    refine lv_bipush (v := (-6 : Int32)) hx hb0 dX8_agrees_14 (by decide) ?_
    refine gx_vi ⟨hx, hb0, hml, hown, hts⟩ (gKM_keep _) hk hK hP hD hS 0 [.int (-6 : Int32)] [] (c_X8_middle l dC dI P ad (-6 : Int32) h_2 _ he) gm_X8_middle im_yX8_middle se_yX8_middle ml_RX8_92 (by decide) (mE_0 _) rfl rfl rfl ⟨Nat.le_of_ble_eq_true rfl, Nat.le_of_ble_eq_true rfl⟩ rfl hl.1 rfl (Nat.le_of_ble_eq_true rfl) dX8_agrees_16 ⟨Nat.zero_le _, Nat.zero_le _⟩ (fun r_4 h_5 he H locs hP hD hS => ?_)
    refine lv_istore_n (lv' := [(1, .int r_4), (0, .ref (ad 0))]) hx hb0 dX8_agrees_19 rfl hl (by decide) rfl (fun ls hl => ?_)
    refine lv_iconst (v := (0 : Int32)) hx hb0 dX8_agrees_20 (by decide) ?_
    refine lv_istore_n (lv' := [(2, .int (0 : Int32)), (1, .int r_4), (0, .ref (ad 0))]) hx hb0 dX8_agrees_21 rfl hl (by decide) rfl (fun ls hl => ?_)
    obtain ⟨n_17, he⟩ := he
    exact l_X8_agrees_22 l dC dI P ad  hx hb0 hr hlocks hml hown hts hK hk Q n_17 r_4 (0 : Int32) h_5 he _ _ ls hP hD hS (lv_sub hl [2, 1, 0] rfl)
  · have he := he.2 c_3
    refine lv_bipush (v := (-5 : Int32)) hx hb0 dX8_agrees_10 (by decide) ?_
    exact gx_iret hx hb0 hr hlocks hK hP hD hS he dX8_agrees_12
theorem gm_X8_agrees : gMeth yX8_agrees cX8_agrees 3 (some .int) 0 := ⟨⟨by decide, by decide, by decide +kernel⟩, ini_RX8, co_yX8_agrees⟩
abbrev rm_X8_passHour : Room := { frames := 1, cells := 0, slots := 0, locals := 20 }
set_option maxHeartbeats 4000000 in
set_option maxRecDepth 100000 in
theorem c_X8_passHour (l : Launch) (dC : Nat → ClassId) (dI : Nat → Nat → Nat) (P : gP) (ad : Nat → Nat) (h0 : Hp) (Q : Hp → Prop) (he : F_X8_passHour  h0 Q) : Met l yX8_passHour (Cond.code yX8_passHour cX8_passHour 3 none :: TB) rm_X8_passHour (gPc (dC, dI) vwCl (tyC P) 7 (mE P ad) ad gKM h0 [.ref (ad 0)]) (gQv (dC, dI) vwCl (tyC P) 7 (mE P ad) ad Q) 0 0 (gA 7 ad) := by
  refine gx_start (by decide) (Nat.le_of_ble_eq_true rfl) (fun p e s m below meth c ls hx hb0 hr hlocks hml hown hts hK hk hP hD hS hl => ?_)
  have hl : lv_has ls 3 [(0, .ref (ad 0))] := hl
  have hown : s.vm.findClass RX8 = some m.cls := hown
  unfold F_X8_passHour at he
  refine lv_aload_n hx hb0 dX8_passHour_0 rfl (lv_at hl 0 rfl) ?_
  refine gx_get hx hb0 hts in_RX8 hown hK hP 0 (by decide) (mE_0 _) rfl 0 (by decide) fl_RX8_7 rfl dX8_passHour_1 ?_
  refine lv_bipush (v := (7 : Int32)) hx hb0 dX8_passHour_4 (by decide) ?_
  refine gx_ialdK hx hb0 hK hP 1 0 (by decide) mE_1 rfl (vp_lit (7 : Int32) (by decide) (by decide)) 7 rfl dX8_passHour_6 ?_
  refine lv_aload_n hx hb0 dX8_passHour_7 rfl (lv_at hl 0 rfl) ?_
  refine gx_get hx hb0 hts in_RX8 hown hK hP 0 (by decide) (mE_0 _) rfl 0 (by decide) fl_RX8_7 rfl dX8_passHour_8 ?_
  refine lv_bipush (v := (6 : Int32)) hx hb0 dX8_passHour_11 (by decide) ?_
  refine gx_ialdK hx hb0 hK hP 1 0 (by decide) mE_1 rfl (vp_lit (6 : Int32) (by decide) (by decide)) 6 rfl dX8_passHour_13 ?_
  refine lv_isub hx hb0 dX8_passHour_14 ?_
  refine lv_topi (fun x_1 ex_1 => ?_)
  have he := he x_1 ex_1
  refine lv_istore_n (lv' := [(1, .int x_1), (0, .ref (ad 0))]) hx hb0 dX8_passHour_15 rfl hl (by decide) rfl (fun ls hl => ?_)
  refine lv_iload_n hx hb0 dX8_passHour_16 rfl (lv_at hl 0 rfl) ?_
  refine gx_si ⟨hx, hb0, hml, hown, hts⟩ (gKM_keep _) hk hK hP hD hS [.int x_1] [] (c_X8_sizeOf l dC dI P ad x_1 h0 _ he) gm_X8_sizeOf st_yX8_sizeOf ml_RX8_50 rfl rfl ⟨Nat.le_of_ble_eq_true rfl, Nat.le_of_ble_eq_true rfl⟩ rfl hl.1 rfl (Nat.le_of_ble_eq_true rfl) dX8_passHour_17 ⟨Nat.zero_le _, Nat.zero_le _⟩ (fun r_2 h_3 he H locs hP hD hS => ?_)
  refine lv_aload_n hx hb0 dX8_passHour_20 rfl (lv_at hl 1 rfl) ?_
  refine gx_get hx hb0 hts in_RX8 hown hK hP 0 (by decide) (mE_0 _) rfl 0 (by decide) fl_RX8_7 rfl dX8_passHour_21 ?_
  refine lv_iconst (v := (1 : Int32)) hx hb0 dX8_passHour_24 (by decide) ?_
  refine gx_ialdK hx hb0 hK hP 1 0 (by decide) mE_1 rfl (vp_lit (1 : Int32) (by decide) (by decide)) 1 rfl dX8_passHour_25 ?_
  refine lv_icmp_ge (tgt := 36) hx hb0 dX8_passHour_26 (by decide) (fun c_4 => ?_) (fun c_4 => ?_)
  · have he := he.1 c_4
    refine lv_aload_n hx hb0 dX8_passHour_36 rfl (lv_at hl 1 rfl) ?_
    refine gx_get hx hb0 hts in_RX8 hown hK hP 0 (by decide) (mE_0 _) rfl 0 (by decide) fl_RX8_7 rfl dX8_passHour_37 ?_
    refine lv_iconst (v := (1 : Int32)) hx hb0 dX8_passHour_40 (by decide) ?_
    refine gx_ialdK hx hb0 hK hP 1 0 (by decide) mE_1 rfl (vp_lit (1 : Int32) (by decide) (by decide)) 1 rfl dX8_passHour_41 ?_
    refine lv_topi (fun x_5 ex_5 => ?_)
    have he := he x_5 ex_5
    refine lv_istore_n (lv' := [(2, .int x_5), (1, .int x_1), (0, .ref (ad 0))]) hx hb0 dX8_passHour_42 rfl hl (by decide) rfl (fun ls hl => ?_)
    refine lv_aload_n hx hb0 dX8_passHour_43 rfl (lv_at hl 2 rfl) ?_
    refine gx_get hx hb0 hts in_RX8 hown hK hP 0 (by decide) (mE_0 _) rfl 0 (by decide) fl_RX8_7 rfl dX8_passHour_44 ?_
    refine lv_iconst (v := (5 : Int32)) hx hb0 dX8_passHour_47 (by decide) ?_
    refine gx_ialdK hx hb0 hK hP 1 0 (by decide) mE_1 rfl (vp_lit (5 : Int32) (by decide) (by decide)) 5 rfl dX8_passHour_48 ?_
    refine lv_if_ne (tgt := 56) hx hb0 dX8_passHour_49 (by decide) (fun c_6 => ?_) (fun c_6 => ?_)
    · have he := he.2 c_6
      refine lv_iload_n hx hb0 dX8_passHour_56 rfl (lv_at hl 1 rfl) ?_
      refine lv_if_ge (tgt := 65) hx hb0 dX8_passHour_57 (by decide) (fun c_7 => ?_) (fun c_7 => ?_)
      · have he := he.1 c_7
        refine lv_iload_n hx hb0 dX8_passHour_65 rfl (lv_at hl 0 rfl) ?_
        refine lv_istore_n (lv' := [(2, .int x_5), (1, .int x_1), (0, .ref (ad 0))]) hx hb0 dX8_passHour_66 rfl hl (by decide) rfl (fun ls hl => ?_)
        refine lv_aload_n hx hb0 dX8_passHour_67 rfl (lv_at hl 2 rfl) ?_
        refine gx_get hx hb0 hts in_RX8 hown hK hP 0 (by decide) (mE_0 _) rfl 0 (by decide) fl_RX8_7 rfl dX8_passHour_68 ?_
        refine lv_iconst (v := (4 : Int32)) hx hb0 dX8_passHour_71 (by decide) ?_
        refine lv_aload_n hx hb0 dX8_passHour_72 rfl (lv_at hl 2 rfl) ?_
        refine gx_get hx hb0 hts in_RX8 hown hK hP 0 (by decide) (mE_0 _) rfl 0 (by decide) fl_RX8_7 rfl dX8_passHour_73 ?_
        refine lv_iconst (v := (4 : Int32)) hx hb0 dX8_passHour_76 (by decide) ?_
        refine gx_ialdK hx hb0 hK hP 1 0 (by decide) mE_1 rfl (vp_lit (4 : Int32) (by decide) (by decide)) 4 rfl dX8_passHour_77 ?_
        refine lv_iload_n hx hb0 dX8_passHour_78 rfl (lv_at hl 0 rfl) ?_
        refine lv_iadd hx hb0 dX8_passHour_79 ?_
        refine gx_si ⟨hx, hb0, hml, hown, hts⟩ (gKM_keep _) hk hK hP hD hS [.int ((h_3 1 4) + x_5)] [.int (4 : Int32), .ref (ad 1)] (c_X8_bounded l dC dI P ad ((h_3 1 4) + x_5) h_3 _ he) gm_X8_bounded st_yX8_bounded ml_RX8_64 rfl rfl ⟨Nat.le_of_ble_eq_true rfl, Nat.le_of_ble_eq_true rfl⟩ rfl hl.1 rfl (Nat.le_of_ble_eq_true rfl) dX8_passHour_80 ⟨Nat.zero_le _, Nat.zero_le _⟩ (fun r_8 h_9 he H locs hP hD hS => ?_)
        refine gx_iastK hx hb0 hK hP hD hS 1 0 (by decide) mE_1 rfl (vp_lit (4 : Int32) (by decide) (by decide)) 4 rfl dX8_passHour_83 (fun h_10 eh_10 H locs hP hD hS => ?_)
        have he := he h_10 eh_10
        refine lv_aload_n hx hb0 dX8_passHour_84 rfl (lv_at hl 2 rfl) ?_
        refine gx_get hx hb0 hts in_RX8 hown hK hP 0 (by decide) (mE_0 _) rfl 0 (by decide) fl_RX8_7 rfl dX8_passHour_85 ?_
        refine lv_bipush (v := (6 : Int32)) hx hb0 dX8_passHour_88 (by decide) ?_
        refine lv_aload_n hx hb0 dX8_passHour_90 rfl (lv_at hl 2 rfl) ?_
        refine gx_get hx hb0 hts in_RX8 hown hK hP 0 (by decide) (mE_0 _) rfl 0 (by decide) fl_RX8_7 rfl dX8_passHour_91 ?_
        refine lv_bipush (v := (6 : Int32)) hx hb0 dX8_passHour_94 (by decide) ?_
        refine gx_ialdK hx hb0 hK hP 1 0 (by decide) mE_1 rfl (vp_lit (6 : Int32) (by decide) (by decide)) 6 rfl dX8_passHour_96 ?_
        refine lv_iload_n hx hb0 dX8_passHour_97 rfl (lv_at hl 0 rfl) ?_
        refine lv_iadd hx hb0 dX8_passHour_98 ?_
        refine gx_si ⟨hx, hb0, hml, hown, hts⟩ (gKM_keep _) hk hK hP hD hS [.int ((h_10 1 6) + x_5)] [.int (6 : Int32), .ref (ad 1)] (c_X8_bounded l dC dI P ad ((h_10 1 6) + x_5) h_10 _ he) gm_X8_bounded st_yX8_bounded ml_RX8_64 rfl rfl ⟨Nat.le_of_ble_eq_true rfl, Nat.le_of_ble_eq_true rfl⟩ rfl hl.1 rfl (Nat.le_of_ble_eq_true rfl) dX8_passHour_99 ⟨Nat.zero_le _, Nat.zero_le _⟩ (fun r_11 h_12 he H locs hP hD hS => ?_)
        refine gx_iastK hx hb0 hK hP hD hS 1 0 (by decide) mE_1 rfl (vp_lit (6 : Int32) (by decide) (by decide)) 6 rfl dX8_passHour_102 (fun h_13 eh_13 H locs hP hD hS => ?_)
        have he := he h_13 eh_13
        refine lv_aload_n hx hb0 dX8_passHour_103 rfl (lv_at hl 2 rfl) ?_
        refine gx_get hx hb0 hts in_RX8 hown hK hP 0 (by decide) (mE_0 _) rfl 0 (by decide) fl_RX8_7 rfl dX8_passHour_104 ?_
        refine lv_iconst (v := (4 : Int32)) hx hb0 dX8_passHour_107 (by decide) ?_
        refine lv_aload_n hx hb0 dX8_passHour_108 rfl (lv_at hl 2 rfl) ?_
        refine gx_get hx hb0 hts in_RX8 hown hK hP 0 (by decide) (mE_0 _) rfl 0 (by decide) fl_RX8_7 rfl dX8_passHour_109 ?_
        refine lv_iconst (v := (4 : Int32)) hx hb0 dX8_passHour_112 (by decide) ?_
        refine gx_ialdK hx hb0 hK hP 1 0 (by decide) mE_1 rfl (vp_lit (4 : Int32) (by decide) (by decide)) 4 rfl dX8_passHour_113 ?_
        refine lv_aload_n hx hb0 dX8_passHour_114 rfl (lv_at hl 2 rfl) ?_
        refine gx_get hx hb0 hts in_RX8 hown hK hP 0 (by decide) (mE_0 _) rfl 0 (by decide) fl_RX8_7 rfl dX8_passHour_115 ?_
        refine lv_iconst (v := (0 : Int32)) hx hb0 dX8_passHour_118 (by decide) ?_
        refine gx_ialdK hx hb0 hK hP 1 0 (by decide) mE_1 rfl (vp_lit (0 : Int32) (by decide) (by decide)) 0 rfl dX8_passHour_119 ?_
        refine lv_iadd hx hb0 dX8_passHour_120 ?_
        refine gx_si ⟨hx, hb0, hml, hown, hts⟩ (gKM_keep _) hk hK hP hD hS [.int ((h_13 1 4) + (h_13 1 0))] [.int (4 : Int32), .ref (ad 1)] (c_X8_bounded l dC dI P ad ((h_13 1 4) + (h_13 1 0)) h_13 _ he) gm_X8_bounded st_yX8_bounded ml_RX8_64 rfl rfl ⟨Nat.le_of_ble_eq_true rfl, Nat.le_of_ble_eq_true rfl⟩ rfl hl.1 rfl (Nat.le_of_ble_eq_true rfl) dX8_passHour_121 ⟨Nat.zero_le _, Nat.zero_le _⟩ (fun r_14 h_15 he H locs hP hD hS => ?_)
        refine gx_iastK hx hb0 hK hP hD hS 1 0 (by decide) mE_1 rfl (vp_lit (4 : Int32) (by decide) (by decide)) 4 rfl dX8_passHour_124 (fun h_16 eh_16 H locs hP hD hS => ?_)
        have he := he h_16 eh_16
        refine lv_aload_n hx hb0 dX8_passHour_125 rfl (lv_at hl 2 rfl) ?_
        refine gx_get hx hb0 hts in_RX8 hown hK hP 0 (by decide) (mE_0 _) rfl 0 (by decide) fl_RX8_7 rfl dX8_passHour_126 ?_
        refine lv_bipush (v := (8 : Int32)) hx hb0 dX8_passHour_129 (by decide) ?_
        refine lv_dup2_11 hx hb0 dX8_passHour_131 rfl rfl ?_
        refine gx_ialdK hx hb0 hK hP 1 0 (by decide) mE_1 rfl (vp_lit (8 : Int32) (by decide) (by decide)) 8 rfl dX8_passHour_132 ?_
        refine lv_iconst (v := (1 : Int32)) hx hb0 dX8_passHour_133 (by decide) ?_
        refine lv_iadd hx hb0 dX8_passHour_134 ?_
        refine gx_iastK hx hb0 hK hP hD hS 1 0 (by decide) mE_1 rfl (vp_lit (8 : Int32) (by decide) (by decide)) 8 rfl dX8_passHour_135 (fun h_17 eh_17 H locs hP hD hS => ?_)
        have he := he h_17 eh_17
        exact gx_vret hx hb0 hr hlocks hK hP hD hS he dX8_passHour_136
      · have he := he.2 c_7
        refine lv_iload_n hx hb0 dX8_passHour_60 rfl (lv_at hl 0 rfl) ?_
        refine lv_ineg hx hb0 dX8_passHour_61 ?_
        refine lv_goto (tgt := 66) hx hb0 dX8_passHour_62 (by decide) ?_
        refine lv_topi (fun x_18 ex_18 => ?_)
        have he := he x_18 ex_18
        refine lv_istore_n (lv' := [(2, .int x_18), (1, .int x_1), (0, .ref (ad 0))]) hx hb0 dX8_passHour_66 rfl hl (by decide) rfl (fun ls hl => ?_)
        refine lv_aload_n hx hb0 dX8_passHour_67 rfl (lv_at hl 2 rfl) ?_
        refine gx_get hx hb0 hts in_RX8 hown hK hP 0 (by decide) (mE_0 _) rfl 0 (by decide) fl_RX8_7 rfl dX8_passHour_68 ?_
        refine lv_iconst (v := (4 : Int32)) hx hb0 dX8_passHour_71 (by decide) ?_
        refine lv_aload_n hx hb0 dX8_passHour_72 rfl (lv_at hl 2 rfl) ?_
        refine gx_get hx hb0 hts in_RX8 hown hK hP 0 (by decide) (mE_0 _) rfl 0 (by decide) fl_RX8_7 rfl dX8_passHour_73 ?_
        refine lv_iconst (v := (4 : Int32)) hx hb0 dX8_passHour_76 (by decide) ?_
        refine gx_ialdK hx hb0 hK hP 1 0 (by decide) mE_1 rfl (vp_lit (4 : Int32) (by decide) (by decide)) 4 rfl dX8_passHour_77 ?_
        refine lv_iload_n hx hb0 dX8_passHour_78 rfl (lv_at hl 0 rfl) ?_
        refine lv_iadd hx hb0 dX8_passHour_79 ?_
        refine gx_si ⟨hx, hb0, hml, hown, hts⟩ (gKM_keep _) hk hK hP hD hS [.int ((h_3 1 4) + x_18)] [.int (4 : Int32), .ref (ad 1)] (c_X8_bounded l dC dI P ad ((h_3 1 4) + x_18) h_3 _ he) gm_X8_bounded st_yX8_bounded ml_RX8_64 rfl rfl ⟨Nat.le_of_ble_eq_true rfl, Nat.le_of_ble_eq_true rfl⟩ rfl hl.1 rfl (Nat.le_of_ble_eq_true rfl) dX8_passHour_80 ⟨Nat.zero_le _, Nat.zero_le _⟩ (fun r_19 h_20 he H locs hP hD hS => ?_)
        refine gx_iastK hx hb0 hK hP hD hS 1 0 (by decide) mE_1 rfl (vp_lit (4 : Int32) (by decide) (by decide)) 4 rfl dX8_passHour_83 (fun h_21 eh_21 H locs hP hD hS => ?_)
        have he := he h_21 eh_21
        refine lv_aload_n hx hb0 dX8_passHour_84 rfl (lv_at hl 2 rfl) ?_
        refine gx_get hx hb0 hts in_RX8 hown hK hP 0 (by decide) (mE_0 _) rfl 0 (by decide) fl_RX8_7 rfl dX8_passHour_85 ?_
        refine lv_bipush (v := (6 : Int32)) hx hb0 dX8_passHour_88 (by decide) ?_
        refine lv_aload_n hx hb0 dX8_passHour_90 rfl (lv_at hl 2 rfl) ?_
        refine gx_get hx hb0 hts in_RX8 hown hK hP 0 (by decide) (mE_0 _) rfl 0 (by decide) fl_RX8_7 rfl dX8_passHour_91 ?_
        refine lv_bipush (v := (6 : Int32)) hx hb0 dX8_passHour_94 (by decide) ?_
        refine gx_ialdK hx hb0 hK hP 1 0 (by decide) mE_1 rfl (vp_lit (6 : Int32) (by decide) (by decide)) 6 rfl dX8_passHour_96 ?_
        refine lv_iload_n hx hb0 dX8_passHour_97 rfl (lv_at hl 0 rfl) ?_
        refine lv_iadd hx hb0 dX8_passHour_98 ?_
        refine gx_si ⟨hx, hb0, hml, hown, hts⟩ (gKM_keep _) hk hK hP hD hS [.int ((h_21 1 6) + x_18)] [.int (6 : Int32), .ref (ad 1)] (c_X8_bounded l dC dI P ad ((h_21 1 6) + x_18) h_21 _ he) gm_X8_bounded st_yX8_bounded ml_RX8_64 rfl rfl ⟨Nat.le_of_ble_eq_true rfl, Nat.le_of_ble_eq_true rfl⟩ rfl hl.1 rfl (Nat.le_of_ble_eq_true rfl) dX8_passHour_99 ⟨Nat.zero_le _, Nat.zero_le _⟩ (fun r_22 h_23 he H locs hP hD hS => ?_)
        refine gx_iastK hx hb0 hK hP hD hS 1 0 (by decide) mE_1 rfl (vp_lit (6 : Int32) (by decide) (by decide)) 6 rfl dX8_passHour_102 (fun h_24 eh_24 H locs hP hD hS => ?_)
        have he := he h_24 eh_24
        refine lv_aload_n hx hb0 dX8_passHour_103 rfl (lv_at hl 2 rfl) ?_
        refine gx_get hx hb0 hts in_RX8 hown hK hP 0 (by decide) (mE_0 _) rfl 0 (by decide) fl_RX8_7 rfl dX8_passHour_104 ?_
        refine lv_iconst (v := (4 : Int32)) hx hb0 dX8_passHour_107 (by decide) ?_
        refine lv_aload_n hx hb0 dX8_passHour_108 rfl (lv_at hl 2 rfl) ?_
        refine gx_get hx hb0 hts in_RX8 hown hK hP 0 (by decide) (mE_0 _) rfl 0 (by decide) fl_RX8_7 rfl dX8_passHour_109 ?_
        refine lv_iconst (v := (4 : Int32)) hx hb0 dX8_passHour_112 (by decide) ?_
        refine gx_ialdK hx hb0 hK hP 1 0 (by decide) mE_1 rfl (vp_lit (4 : Int32) (by decide) (by decide)) 4 rfl dX8_passHour_113 ?_
        refine lv_aload_n hx hb0 dX8_passHour_114 rfl (lv_at hl 2 rfl) ?_
        refine gx_get hx hb0 hts in_RX8 hown hK hP 0 (by decide) (mE_0 _) rfl 0 (by decide) fl_RX8_7 rfl dX8_passHour_115 ?_
        refine lv_iconst (v := (0 : Int32)) hx hb0 dX8_passHour_118 (by decide) ?_
        refine gx_ialdK hx hb0 hK hP 1 0 (by decide) mE_1 rfl (vp_lit (0 : Int32) (by decide) (by decide)) 0 rfl dX8_passHour_119 ?_
        refine lv_iadd hx hb0 dX8_passHour_120 ?_
        refine gx_si ⟨hx, hb0, hml, hown, hts⟩ (gKM_keep _) hk hK hP hD hS [.int ((h_24 1 4) + (h_24 1 0))] [.int (4 : Int32), .ref (ad 1)] (c_X8_bounded l dC dI P ad ((h_24 1 4) + (h_24 1 0)) h_24 _ he) gm_X8_bounded st_yX8_bounded ml_RX8_64 rfl rfl ⟨Nat.le_of_ble_eq_true rfl, Nat.le_of_ble_eq_true rfl⟩ rfl hl.1 rfl (Nat.le_of_ble_eq_true rfl) dX8_passHour_121 ⟨Nat.zero_le _, Nat.zero_le _⟩ (fun r_25 h_26 he H locs hP hD hS => ?_)
        refine gx_iastK hx hb0 hK hP hD hS 1 0 (by decide) mE_1 rfl (vp_lit (4 : Int32) (by decide) (by decide)) 4 rfl dX8_passHour_124 (fun h_27 eh_27 H locs hP hD hS => ?_)
        have he := he h_27 eh_27
        refine lv_aload_n hx hb0 dX8_passHour_125 rfl (lv_at hl 2 rfl) ?_
        refine gx_get hx hb0 hts in_RX8 hown hK hP 0 (by decide) (mE_0 _) rfl 0 (by decide) fl_RX8_7 rfl dX8_passHour_126 ?_
        refine lv_bipush (v := (8 : Int32)) hx hb0 dX8_passHour_129 (by decide) ?_
        refine lv_dup2_11 hx hb0 dX8_passHour_131 rfl rfl ?_
        refine gx_ialdK hx hb0 hK hP 1 0 (by decide) mE_1 rfl (vp_lit (8 : Int32) (by decide) (by decide)) 8 rfl dX8_passHour_132 ?_
        refine lv_iconst (v := (1 : Int32)) hx hb0 dX8_passHour_133 (by decide) ?_
        refine lv_iadd hx hb0 dX8_passHour_134 ?_
        refine gx_iastK hx hb0 hK hP hD hS 1 0 (by decide) mE_1 rfl (vp_lit (8 : Int32) (by decide) (by decide)) 8 rfl dX8_passHour_135 (fun h_28 eh_28 H locs hP hD hS => ?_)
        have he := he h_28 eh_28
        exact gx_vret hx hb0 hr hlocks hK hP hD hS he dX8_passHour_136
    · have he := he.1 c_6
      refine lv_iconst (v := (0 : Int32)) hx hb0 dX8_passHour_52 (by decide) ?_
      refine lv_goto (tgt := 66) hx hb0 dX8_passHour_53 (by decide) ?_
      refine lv_istore_n (lv' := [(2, .int (0 : Int32)), (1, .int x_1), (0, .ref (ad 0))]) hx hb0 dX8_passHour_66 rfl hl (by decide) rfl (fun ls hl => ?_)
      refine lv_aload_n hx hb0 dX8_passHour_67 rfl (lv_at hl 2 rfl) ?_
      refine gx_get hx hb0 hts in_RX8 hown hK hP 0 (by decide) (mE_0 _) rfl 0 (by decide) fl_RX8_7 rfl dX8_passHour_68 ?_
      refine lv_iconst (v := (4 : Int32)) hx hb0 dX8_passHour_71 (by decide) ?_
      refine lv_aload_n hx hb0 dX8_passHour_72 rfl (lv_at hl 2 rfl) ?_
      refine gx_get hx hb0 hts in_RX8 hown hK hP 0 (by decide) (mE_0 _) rfl 0 (by decide) fl_RX8_7 rfl dX8_passHour_73 ?_
      refine lv_iconst (v := (4 : Int32)) hx hb0 dX8_passHour_76 (by decide) ?_
      refine gx_ialdK hx hb0 hK hP 1 0 (by decide) mE_1 rfl (vp_lit (4 : Int32) (by decide) (by decide)) 4 rfl dX8_passHour_77 ?_
      refine lv_iload_n hx hb0 dX8_passHour_78 rfl (lv_at hl 0 rfl) ?_
      refine lv_iadd hx hb0 dX8_passHour_79 ?_
      refine gx_si ⟨hx, hb0, hml, hown, hts⟩ (gKM_keep _) hk hK hP hD hS [.int ((h_3 1 4) + (0 : Int32))] [.int (4 : Int32), .ref (ad 1)] (c_X8_bounded l dC dI P ad ((h_3 1 4) + (0 : Int32)) h_3 _ he) gm_X8_bounded st_yX8_bounded ml_RX8_64 rfl rfl ⟨Nat.le_of_ble_eq_true rfl, Nat.le_of_ble_eq_true rfl⟩ rfl hl.1 rfl (Nat.le_of_ble_eq_true rfl) dX8_passHour_80 ⟨Nat.zero_le _, Nat.zero_le _⟩ (fun r_29 h_30 he H locs hP hD hS => ?_)
      refine gx_iastK hx hb0 hK hP hD hS 1 0 (by decide) mE_1 rfl (vp_lit (4 : Int32) (by decide) (by decide)) 4 rfl dX8_passHour_83 (fun h_31 eh_31 H locs hP hD hS => ?_)
      have he := he h_31 eh_31
      refine lv_aload_n hx hb0 dX8_passHour_84 rfl (lv_at hl 2 rfl) ?_
      refine gx_get hx hb0 hts in_RX8 hown hK hP 0 (by decide) (mE_0 _) rfl 0 (by decide) fl_RX8_7 rfl dX8_passHour_85 ?_
      refine lv_bipush (v := (6 : Int32)) hx hb0 dX8_passHour_88 (by decide) ?_
      refine lv_aload_n hx hb0 dX8_passHour_90 rfl (lv_at hl 2 rfl) ?_
      refine gx_get hx hb0 hts in_RX8 hown hK hP 0 (by decide) (mE_0 _) rfl 0 (by decide) fl_RX8_7 rfl dX8_passHour_91 ?_
      refine lv_bipush (v := (6 : Int32)) hx hb0 dX8_passHour_94 (by decide) ?_
      refine gx_ialdK hx hb0 hK hP 1 0 (by decide) mE_1 rfl (vp_lit (6 : Int32) (by decide) (by decide)) 6 rfl dX8_passHour_96 ?_
      refine lv_iload_n hx hb0 dX8_passHour_97 rfl (lv_at hl 0 rfl) ?_
      refine lv_iadd hx hb0 dX8_passHour_98 ?_
      refine gx_si ⟨hx, hb0, hml, hown, hts⟩ (gKM_keep _) hk hK hP hD hS [.int ((h_31 1 6) + (0 : Int32))] [.int (6 : Int32), .ref (ad 1)] (c_X8_bounded l dC dI P ad ((h_31 1 6) + (0 : Int32)) h_31 _ he) gm_X8_bounded st_yX8_bounded ml_RX8_64 rfl rfl ⟨Nat.le_of_ble_eq_true rfl, Nat.le_of_ble_eq_true rfl⟩ rfl hl.1 rfl (Nat.le_of_ble_eq_true rfl) dX8_passHour_99 ⟨Nat.zero_le _, Nat.zero_le _⟩ (fun r_32 h_33 he H locs hP hD hS => ?_)
      refine gx_iastK hx hb0 hK hP hD hS 1 0 (by decide) mE_1 rfl (vp_lit (6 : Int32) (by decide) (by decide)) 6 rfl dX8_passHour_102 (fun h_34 eh_34 H locs hP hD hS => ?_)
      have he := he h_34 eh_34
      refine lv_aload_n hx hb0 dX8_passHour_103 rfl (lv_at hl 2 rfl) ?_
      refine gx_get hx hb0 hts in_RX8 hown hK hP 0 (by decide) (mE_0 _) rfl 0 (by decide) fl_RX8_7 rfl dX8_passHour_104 ?_
      refine lv_iconst (v := (4 : Int32)) hx hb0 dX8_passHour_107 (by decide) ?_
      refine lv_aload_n hx hb0 dX8_passHour_108 rfl (lv_at hl 2 rfl) ?_
      refine gx_get hx hb0 hts in_RX8 hown hK hP 0 (by decide) (mE_0 _) rfl 0 (by decide) fl_RX8_7 rfl dX8_passHour_109 ?_
      refine lv_iconst (v := (4 : Int32)) hx hb0 dX8_passHour_112 (by decide) ?_
      refine gx_ialdK hx hb0 hK hP 1 0 (by decide) mE_1 rfl (vp_lit (4 : Int32) (by decide) (by decide)) 4 rfl dX8_passHour_113 ?_
      refine lv_aload_n hx hb0 dX8_passHour_114 rfl (lv_at hl 2 rfl) ?_
      refine gx_get hx hb0 hts in_RX8 hown hK hP 0 (by decide) (mE_0 _) rfl 0 (by decide) fl_RX8_7 rfl dX8_passHour_115 ?_
      refine lv_iconst (v := (0 : Int32)) hx hb0 dX8_passHour_118 (by decide) ?_
      refine gx_ialdK hx hb0 hK hP 1 0 (by decide) mE_1 rfl (vp_lit (0 : Int32) (by decide) (by decide)) 0 rfl dX8_passHour_119 ?_
      refine lv_iadd hx hb0 dX8_passHour_120 ?_
      refine gx_si ⟨hx, hb0, hml, hown, hts⟩ (gKM_keep _) hk hK hP hD hS [.int ((h_34 1 4) + (h_34 1 0))] [.int (4 : Int32), .ref (ad 1)] (c_X8_bounded l dC dI P ad ((h_34 1 4) + (h_34 1 0)) h_34 _ he) gm_X8_bounded st_yX8_bounded ml_RX8_64 rfl rfl ⟨Nat.le_of_ble_eq_true rfl, Nat.le_of_ble_eq_true rfl⟩ rfl hl.1 rfl (Nat.le_of_ble_eq_true rfl) dX8_passHour_121 ⟨Nat.zero_le _, Nat.zero_le _⟩ (fun r_35 h_36 he H locs hP hD hS => ?_)
      refine gx_iastK hx hb0 hK hP hD hS 1 0 (by decide) mE_1 rfl (vp_lit (4 : Int32) (by decide) (by decide)) 4 rfl dX8_passHour_124 (fun h_37 eh_37 H locs hP hD hS => ?_)
      have he := he h_37 eh_37
      refine lv_aload_n hx hb0 dX8_passHour_125 rfl (lv_at hl 2 rfl) ?_
      refine gx_get hx hb0 hts in_RX8 hown hK hP 0 (by decide) (mE_0 _) rfl 0 (by decide) fl_RX8_7 rfl dX8_passHour_126 ?_
      refine lv_bipush (v := (8 : Int32)) hx hb0 dX8_passHour_129 (by decide) ?_
      refine lv_dup2_11 hx hb0 dX8_passHour_131 rfl rfl ?_
      refine gx_ialdK hx hb0 hK hP 1 0 (by decide) mE_1 rfl (vp_lit (8 : Int32) (by decide) (by decide)) 8 rfl dX8_passHour_132 ?_
      refine lv_iconst (v := (1 : Int32)) hx hb0 dX8_passHour_133 (by decide) ?_
      refine lv_iadd hx hb0 dX8_passHour_134 ?_
      refine gx_iastK hx hb0 hK hP hD hS 1 0 (by decide) mE_1 rfl (vp_lit (8 : Int32) (by decide) (by decide)) 8 rfl dX8_passHour_135 (fun h_38 eh_38 H locs hP hD hS => ?_)
      have he := he h_38 eh_38
      exact gx_vret hx hb0 hr hlocks hK hP hD hS he dX8_passHour_136
  · have he := he.2 c_4
    refine lv_iload_n hx hb0 dX8_passHour_29 rfl (lv_at hl 0 rfl) ?_
    refine gx_si ⟨hx, hb0, hml, hown, hts⟩ (gKM_keep _) hk hK hP hD hS [.int x_1] [] (c_X8_sizeOf l dC dI P ad x_1 h_3 _ he) gm_X8_sizeOf st_yX8_sizeOf ml_RX8_50 rfl rfl ⟨Nat.le_of_ble_eq_true rfl, Nat.le_of_ble_eq_true rfl⟩ rfl hl.1 rfl (Nat.le_of_ble_eq_true rfl) dX8_passHour_30 ⟨Nat.zero_le _, Nat.zero_le _⟩ (fun r_39 h_40 he H locs hP hD hS => ?_)
    refine lv_goto (tgt := 42) hx hb0 dX8_passHour_33 (by decide) ?_
    refine lv_istore_n (lv' := [(2, .int r_39), (1, .int x_1), (0, .ref (ad 0))]) hx hb0 dX8_passHour_42 rfl hl (by decide) rfl (fun ls hl => ?_)
    refine lv_aload_n hx hb0 dX8_passHour_43 rfl (lv_at hl 2 rfl) ?_
    refine gx_get hx hb0 hts in_RX8 hown hK hP 0 (by decide) (mE_0 _) rfl 0 (by decide) fl_RX8_7 rfl dX8_passHour_44 ?_
    refine lv_iconst (v := (5 : Int32)) hx hb0 dX8_passHour_47 (by decide) ?_
    refine gx_ialdK hx hb0 hK hP 1 0 (by decide) mE_1 rfl (vp_lit (5 : Int32) (by decide) (by decide)) 5 rfl dX8_passHour_48 ?_
    refine lv_if_ne (tgt := 56) hx hb0 dX8_passHour_49 (by decide) (fun c_41 => ?_) (fun c_41 => ?_)
    · have he := he.2 c_41
      refine lv_iload_n hx hb0 dX8_passHour_56 rfl (lv_at hl 1 rfl) ?_
      refine lv_if_ge (tgt := 65) hx hb0 dX8_passHour_57 (by decide) (fun c_42 => ?_) (fun c_42 => ?_)
      · have he := he.1 c_42
        refine lv_iload_n hx hb0 dX8_passHour_65 rfl (lv_at hl 0 rfl) ?_
        refine lv_istore_n (lv' := [(2, .int r_39), (1, .int x_1), (0, .ref (ad 0))]) hx hb0 dX8_passHour_66 rfl hl (by decide) rfl (fun ls hl => ?_)
        refine lv_aload_n hx hb0 dX8_passHour_67 rfl (lv_at hl 2 rfl) ?_
        refine gx_get hx hb0 hts in_RX8 hown hK hP 0 (by decide) (mE_0 _) rfl 0 (by decide) fl_RX8_7 rfl dX8_passHour_68 ?_
        refine lv_iconst (v := (4 : Int32)) hx hb0 dX8_passHour_71 (by decide) ?_
        refine lv_aload_n hx hb0 dX8_passHour_72 rfl (lv_at hl 2 rfl) ?_
        refine gx_get hx hb0 hts in_RX8 hown hK hP 0 (by decide) (mE_0 _) rfl 0 (by decide) fl_RX8_7 rfl dX8_passHour_73 ?_
        refine lv_iconst (v := (4 : Int32)) hx hb0 dX8_passHour_76 (by decide) ?_
        refine gx_ialdK hx hb0 hK hP 1 0 (by decide) mE_1 rfl (vp_lit (4 : Int32) (by decide) (by decide)) 4 rfl dX8_passHour_77 ?_
        refine lv_iload_n hx hb0 dX8_passHour_78 rfl (lv_at hl 0 rfl) ?_
        refine lv_iadd hx hb0 dX8_passHour_79 ?_
        refine gx_si ⟨hx, hb0, hml, hown, hts⟩ (gKM_keep _) hk hK hP hD hS [.int ((h_40 1 4) + r_39)] [.int (4 : Int32), .ref (ad 1)] (c_X8_bounded l dC dI P ad ((h_40 1 4) + r_39) h_40 _ he) gm_X8_bounded st_yX8_bounded ml_RX8_64 rfl rfl ⟨Nat.le_of_ble_eq_true rfl, Nat.le_of_ble_eq_true rfl⟩ rfl hl.1 rfl (Nat.le_of_ble_eq_true rfl) dX8_passHour_80 ⟨Nat.zero_le _, Nat.zero_le _⟩ (fun r_43 h_44 he H locs hP hD hS => ?_)
        refine gx_iastK hx hb0 hK hP hD hS 1 0 (by decide) mE_1 rfl (vp_lit (4 : Int32) (by decide) (by decide)) 4 rfl dX8_passHour_83 (fun h_45 eh_45 H locs hP hD hS => ?_)
        have he := he h_45 eh_45
        refine lv_aload_n hx hb0 dX8_passHour_84 rfl (lv_at hl 2 rfl) ?_
        refine gx_get hx hb0 hts in_RX8 hown hK hP 0 (by decide) (mE_0 _) rfl 0 (by decide) fl_RX8_7 rfl dX8_passHour_85 ?_
        refine lv_bipush (v := (6 : Int32)) hx hb0 dX8_passHour_88 (by decide) ?_
        refine lv_aload_n hx hb0 dX8_passHour_90 rfl (lv_at hl 2 rfl) ?_
        refine gx_get hx hb0 hts in_RX8 hown hK hP 0 (by decide) (mE_0 _) rfl 0 (by decide) fl_RX8_7 rfl dX8_passHour_91 ?_
        refine lv_bipush (v := (6 : Int32)) hx hb0 dX8_passHour_94 (by decide) ?_
        refine gx_ialdK hx hb0 hK hP 1 0 (by decide) mE_1 rfl (vp_lit (6 : Int32) (by decide) (by decide)) 6 rfl dX8_passHour_96 ?_
        refine lv_iload_n hx hb0 dX8_passHour_97 rfl (lv_at hl 0 rfl) ?_
        refine lv_iadd hx hb0 dX8_passHour_98 ?_
        refine gx_si ⟨hx, hb0, hml, hown, hts⟩ (gKM_keep _) hk hK hP hD hS [.int ((h_45 1 6) + r_39)] [.int (6 : Int32), .ref (ad 1)] (c_X8_bounded l dC dI P ad ((h_45 1 6) + r_39) h_45 _ he) gm_X8_bounded st_yX8_bounded ml_RX8_64 rfl rfl ⟨Nat.le_of_ble_eq_true rfl, Nat.le_of_ble_eq_true rfl⟩ rfl hl.1 rfl (Nat.le_of_ble_eq_true rfl) dX8_passHour_99 ⟨Nat.zero_le _, Nat.zero_le _⟩ (fun r_46 h_47 he H locs hP hD hS => ?_)
        refine gx_iastK hx hb0 hK hP hD hS 1 0 (by decide) mE_1 rfl (vp_lit (6 : Int32) (by decide) (by decide)) 6 rfl dX8_passHour_102 (fun h_48 eh_48 H locs hP hD hS => ?_)
        have he := he h_48 eh_48
        refine lv_aload_n hx hb0 dX8_passHour_103 rfl (lv_at hl 2 rfl) ?_
        refine gx_get hx hb0 hts in_RX8 hown hK hP 0 (by decide) (mE_0 _) rfl 0 (by decide) fl_RX8_7 rfl dX8_passHour_104 ?_
        refine lv_iconst (v := (4 : Int32)) hx hb0 dX8_passHour_107 (by decide) ?_
        refine lv_aload_n hx hb0 dX8_passHour_108 rfl (lv_at hl 2 rfl) ?_
        refine gx_get hx hb0 hts in_RX8 hown hK hP 0 (by decide) (mE_0 _) rfl 0 (by decide) fl_RX8_7 rfl dX8_passHour_109 ?_
        refine lv_iconst (v := (4 : Int32)) hx hb0 dX8_passHour_112 (by decide) ?_
        refine gx_ialdK hx hb0 hK hP 1 0 (by decide) mE_1 rfl (vp_lit (4 : Int32) (by decide) (by decide)) 4 rfl dX8_passHour_113 ?_
        refine lv_aload_n hx hb0 dX8_passHour_114 rfl (lv_at hl 2 rfl) ?_
        refine gx_get hx hb0 hts in_RX8 hown hK hP 0 (by decide) (mE_0 _) rfl 0 (by decide) fl_RX8_7 rfl dX8_passHour_115 ?_
        refine lv_iconst (v := (0 : Int32)) hx hb0 dX8_passHour_118 (by decide) ?_
        refine gx_ialdK hx hb0 hK hP 1 0 (by decide) mE_1 rfl (vp_lit (0 : Int32) (by decide) (by decide)) 0 rfl dX8_passHour_119 ?_
        refine lv_iadd hx hb0 dX8_passHour_120 ?_
        refine gx_si ⟨hx, hb0, hml, hown, hts⟩ (gKM_keep _) hk hK hP hD hS [.int ((h_48 1 4) + (h_48 1 0))] [.int (4 : Int32), .ref (ad 1)] (c_X8_bounded l dC dI P ad ((h_48 1 4) + (h_48 1 0)) h_48 _ he) gm_X8_bounded st_yX8_bounded ml_RX8_64 rfl rfl ⟨Nat.le_of_ble_eq_true rfl, Nat.le_of_ble_eq_true rfl⟩ rfl hl.1 rfl (Nat.le_of_ble_eq_true rfl) dX8_passHour_121 ⟨Nat.zero_le _, Nat.zero_le _⟩ (fun r_49 h_50 he H locs hP hD hS => ?_)
        refine gx_iastK hx hb0 hK hP hD hS 1 0 (by decide) mE_1 rfl (vp_lit (4 : Int32) (by decide) (by decide)) 4 rfl dX8_passHour_124 (fun h_51 eh_51 H locs hP hD hS => ?_)
        have he := he h_51 eh_51
        refine lv_aload_n hx hb0 dX8_passHour_125 rfl (lv_at hl 2 rfl) ?_
        refine gx_get hx hb0 hts in_RX8 hown hK hP 0 (by decide) (mE_0 _) rfl 0 (by decide) fl_RX8_7 rfl dX8_passHour_126 ?_
        refine lv_bipush (v := (8 : Int32)) hx hb0 dX8_passHour_129 (by decide) ?_
        refine lv_dup2_11 hx hb0 dX8_passHour_131 rfl rfl ?_
        refine gx_ialdK hx hb0 hK hP 1 0 (by decide) mE_1 rfl (vp_lit (8 : Int32) (by decide) (by decide)) 8 rfl dX8_passHour_132 ?_
        refine lv_iconst (v := (1 : Int32)) hx hb0 dX8_passHour_133 (by decide) ?_
        refine lv_iadd hx hb0 dX8_passHour_134 ?_
        refine gx_iastK hx hb0 hK hP hD hS 1 0 (by decide) mE_1 rfl (vp_lit (8 : Int32) (by decide) (by decide)) 8 rfl dX8_passHour_135 (fun h_52 eh_52 H locs hP hD hS => ?_)
        have he := he h_52 eh_52
        exact gx_vret hx hb0 hr hlocks hK hP hD hS he dX8_passHour_136
      · have he := he.2 c_42
        refine lv_iload_n hx hb0 dX8_passHour_60 rfl (lv_at hl 0 rfl) ?_
        refine lv_ineg hx hb0 dX8_passHour_61 ?_
        refine lv_goto (tgt := 66) hx hb0 dX8_passHour_62 (by decide) ?_
        refine lv_topi (fun x_53 ex_53 => ?_)
        have he := he x_53 ex_53
        refine lv_istore_n (lv' := [(2, .int x_53), (1, .int x_1), (0, .ref (ad 0))]) hx hb0 dX8_passHour_66 rfl hl (by decide) rfl (fun ls hl => ?_)
        refine lv_aload_n hx hb0 dX8_passHour_67 rfl (lv_at hl 2 rfl) ?_
        refine gx_get hx hb0 hts in_RX8 hown hK hP 0 (by decide) (mE_0 _) rfl 0 (by decide) fl_RX8_7 rfl dX8_passHour_68 ?_
        refine lv_iconst (v := (4 : Int32)) hx hb0 dX8_passHour_71 (by decide) ?_
        refine lv_aload_n hx hb0 dX8_passHour_72 rfl (lv_at hl 2 rfl) ?_
        refine gx_get hx hb0 hts in_RX8 hown hK hP 0 (by decide) (mE_0 _) rfl 0 (by decide) fl_RX8_7 rfl dX8_passHour_73 ?_
        refine lv_iconst (v := (4 : Int32)) hx hb0 dX8_passHour_76 (by decide) ?_
        refine gx_ialdK hx hb0 hK hP 1 0 (by decide) mE_1 rfl (vp_lit (4 : Int32) (by decide) (by decide)) 4 rfl dX8_passHour_77 ?_
        refine lv_iload_n hx hb0 dX8_passHour_78 rfl (lv_at hl 0 rfl) ?_
        refine lv_iadd hx hb0 dX8_passHour_79 ?_
        refine gx_si ⟨hx, hb0, hml, hown, hts⟩ (gKM_keep _) hk hK hP hD hS [.int ((h_40 1 4) + x_53)] [.int (4 : Int32), .ref (ad 1)] (c_X8_bounded l dC dI P ad ((h_40 1 4) + x_53) h_40 _ he) gm_X8_bounded st_yX8_bounded ml_RX8_64 rfl rfl ⟨Nat.le_of_ble_eq_true rfl, Nat.le_of_ble_eq_true rfl⟩ rfl hl.1 rfl (Nat.le_of_ble_eq_true rfl) dX8_passHour_80 ⟨Nat.zero_le _, Nat.zero_le _⟩ (fun r_54 h_55 he H locs hP hD hS => ?_)
        refine gx_iastK hx hb0 hK hP hD hS 1 0 (by decide) mE_1 rfl (vp_lit (4 : Int32) (by decide) (by decide)) 4 rfl dX8_passHour_83 (fun h_56 eh_56 H locs hP hD hS => ?_)
        have he := he h_56 eh_56
        refine lv_aload_n hx hb0 dX8_passHour_84 rfl (lv_at hl 2 rfl) ?_
        refine gx_get hx hb0 hts in_RX8 hown hK hP 0 (by decide) (mE_0 _) rfl 0 (by decide) fl_RX8_7 rfl dX8_passHour_85 ?_
        refine lv_bipush (v := (6 : Int32)) hx hb0 dX8_passHour_88 (by decide) ?_
        refine lv_aload_n hx hb0 dX8_passHour_90 rfl (lv_at hl 2 rfl) ?_
        refine gx_get hx hb0 hts in_RX8 hown hK hP 0 (by decide) (mE_0 _) rfl 0 (by decide) fl_RX8_7 rfl dX8_passHour_91 ?_
        refine lv_bipush (v := (6 : Int32)) hx hb0 dX8_passHour_94 (by decide) ?_
        refine gx_ialdK hx hb0 hK hP 1 0 (by decide) mE_1 rfl (vp_lit (6 : Int32) (by decide) (by decide)) 6 rfl dX8_passHour_96 ?_
        refine lv_iload_n hx hb0 dX8_passHour_97 rfl (lv_at hl 0 rfl) ?_
        refine lv_iadd hx hb0 dX8_passHour_98 ?_
        refine gx_si ⟨hx, hb0, hml, hown, hts⟩ (gKM_keep _) hk hK hP hD hS [.int ((h_56 1 6) + x_53)] [.int (6 : Int32), .ref (ad 1)] (c_X8_bounded l dC dI P ad ((h_56 1 6) + x_53) h_56 _ he) gm_X8_bounded st_yX8_bounded ml_RX8_64 rfl rfl ⟨Nat.le_of_ble_eq_true rfl, Nat.le_of_ble_eq_true rfl⟩ rfl hl.1 rfl (Nat.le_of_ble_eq_true rfl) dX8_passHour_99 ⟨Nat.zero_le _, Nat.zero_le _⟩ (fun r_57 h_58 he H locs hP hD hS => ?_)
        refine gx_iastK hx hb0 hK hP hD hS 1 0 (by decide) mE_1 rfl (vp_lit (6 : Int32) (by decide) (by decide)) 6 rfl dX8_passHour_102 (fun h_59 eh_59 H locs hP hD hS => ?_)
        have he := he h_59 eh_59
        refine lv_aload_n hx hb0 dX8_passHour_103 rfl (lv_at hl 2 rfl) ?_
        refine gx_get hx hb0 hts in_RX8 hown hK hP 0 (by decide) (mE_0 _) rfl 0 (by decide) fl_RX8_7 rfl dX8_passHour_104 ?_
        refine lv_iconst (v := (4 : Int32)) hx hb0 dX8_passHour_107 (by decide) ?_
        refine lv_aload_n hx hb0 dX8_passHour_108 rfl (lv_at hl 2 rfl) ?_
        refine gx_get hx hb0 hts in_RX8 hown hK hP 0 (by decide) (mE_0 _) rfl 0 (by decide) fl_RX8_7 rfl dX8_passHour_109 ?_
        refine lv_iconst (v := (4 : Int32)) hx hb0 dX8_passHour_112 (by decide) ?_
        refine gx_ialdK hx hb0 hK hP 1 0 (by decide) mE_1 rfl (vp_lit (4 : Int32) (by decide) (by decide)) 4 rfl dX8_passHour_113 ?_
        refine lv_aload_n hx hb0 dX8_passHour_114 rfl (lv_at hl 2 rfl) ?_
        refine gx_get hx hb0 hts in_RX8 hown hK hP 0 (by decide) (mE_0 _) rfl 0 (by decide) fl_RX8_7 rfl dX8_passHour_115 ?_
        refine lv_iconst (v := (0 : Int32)) hx hb0 dX8_passHour_118 (by decide) ?_
        refine gx_ialdK hx hb0 hK hP 1 0 (by decide) mE_1 rfl (vp_lit (0 : Int32) (by decide) (by decide)) 0 rfl dX8_passHour_119 ?_
        refine lv_iadd hx hb0 dX8_passHour_120 ?_
        refine gx_si ⟨hx, hb0, hml, hown, hts⟩ (gKM_keep _) hk hK hP hD hS [.int ((h_59 1 4) + (h_59 1 0))] [.int (4 : Int32), .ref (ad 1)] (c_X8_bounded l dC dI P ad ((h_59 1 4) + (h_59 1 0)) h_59 _ he) gm_X8_bounded st_yX8_bounded ml_RX8_64 rfl rfl ⟨Nat.le_of_ble_eq_true rfl, Nat.le_of_ble_eq_true rfl⟩ rfl hl.1 rfl (Nat.le_of_ble_eq_true rfl) dX8_passHour_121 ⟨Nat.zero_le _, Nat.zero_le _⟩ (fun r_60 h_61 he H locs hP hD hS => ?_)
        refine gx_iastK hx hb0 hK hP hD hS 1 0 (by decide) mE_1 rfl (vp_lit (4 : Int32) (by decide) (by decide)) 4 rfl dX8_passHour_124 (fun h_62 eh_62 H locs hP hD hS => ?_)
        have he := he h_62 eh_62
        refine lv_aload_n hx hb0 dX8_passHour_125 rfl (lv_at hl 2 rfl) ?_
        refine gx_get hx hb0 hts in_RX8 hown hK hP 0 (by decide) (mE_0 _) rfl 0 (by decide) fl_RX8_7 rfl dX8_passHour_126 ?_
        refine lv_bipush (v := (8 : Int32)) hx hb0 dX8_passHour_129 (by decide) ?_
        refine lv_dup2_11 hx hb0 dX8_passHour_131 rfl rfl ?_
        refine gx_ialdK hx hb0 hK hP 1 0 (by decide) mE_1 rfl (vp_lit (8 : Int32) (by decide) (by decide)) 8 rfl dX8_passHour_132 ?_
        refine lv_iconst (v := (1 : Int32)) hx hb0 dX8_passHour_133 (by decide) ?_
        refine lv_iadd hx hb0 dX8_passHour_134 ?_
        refine gx_iastK hx hb0 hK hP hD hS 1 0 (by decide) mE_1 rfl (vp_lit (8 : Int32) (by decide) (by decide)) 8 rfl dX8_passHour_135 (fun h_63 eh_63 H locs hP hD hS => ?_)
        have he := he h_63 eh_63
        exact gx_vret hx hb0 hr hlocks hK hP hD hS he dX8_passHour_136
    · have he := he.1 c_41
      refine lv_iconst (v := (0 : Int32)) hx hb0 dX8_passHour_52 (by decide) ?_
      refine lv_goto (tgt := 66) hx hb0 dX8_passHour_53 (by decide) ?_
      refine lv_istore_n (lv' := [(2, .int (0 : Int32)), (1, .int x_1), (0, .ref (ad 0))]) hx hb0 dX8_passHour_66 rfl hl (by decide) rfl (fun ls hl => ?_)
      refine lv_aload_n hx hb0 dX8_passHour_67 rfl (lv_at hl 2 rfl) ?_
      refine gx_get hx hb0 hts in_RX8 hown hK hP 0 (by decide) (mE_0 _) rfl 0 (by decide) fl_RX8_7 rfl dX8_passHour_68 ?_
      refine lv_iconst (v := (4 : Int32)) hx hb0 dX8_passHour_71 (by decide) ?_
      refine lv_aload_n hx hb0 dX8_passHour_72 rfl (lv_at hl 2 rfl) ?_
      refine gx_get hx hb0 hts in_RX8 hown hK hP 0 (by decide) (mE_0 _) rfl 0 (by decide) fl_RX8_7 rfl dX8_passHour_73 ?_
      refine lv_iconst (v := (4 : Int32)) hx hb0 dX8_passHour_76 (by decide) ?_
      refine gx_ialdK hx hb0 hK hP 1 0 (by decide) mE_1 rfl (vp_lit (4 : Int32) (by decide) (by decide)) 4 rfl dX8_passHour_77 ?_
      refine lv_iload_n hx hb0 dX8_passHour_78 rfl (lv_at hl 0 rfl) ?_
      refine lv_iadd hx hb0 dX8_passHour_79 ?_
      refine gx_si ⟨hx, hb0, hml, hown, hts⟩ (gKM_keep _) hk hK hP hD hS [.int ((h_40 1 4) + (0 : Int32))] [.int (4 : Int32), .ref (ad 1)] (c_X8_bounded l dC dI P ad ((h_40 1 4) + (0 : Int32)) h_40 _ he) gm_X8_bounded st_yX8_bounded ml_RX8_64 rfl rfl ⟨Nat.le_of_ble_eq_true rfl, Nat.le_of_ble_eq_true rfl⟩ rfl hl.1 rfl (Nat.le_of_ble_eq_true rfl) dX8_passHour_80 ⟨Nat.zero_le _, Nat.zero_le _⟩ (fun r_64 h_65 he H locs hP hD hS => ?_)
      refine gx_iastK hx hb0 hK hP hD hS 1 0 (by decide) mE_1 rfl (vp_lit (4 : Int32) (by decide) (by decide)) 4 rfl dX8_passHour_83 (fun h_66 eh_66 H locs hP hD hS => ?_)
      have he := he h_66 eh_66
      refine lv_aload_n hx hb0 dX8_passHour_84 rfl (lv_at hl 2 rfl) ?_
      refine gx_get hx hb0 hts in_RX8 hown hK hP 0 (by decide) (mE_0 _) rfl 0 (by decide) fl_RX8_7 rfl dX8_passHour_85 ?_
      refine lv_bipush (v := (6 : Int32)) hx hb0 dX8_passHour_88 (by decide) ?_
      refine lv_aload_n hx hb0 dX8_passHour_90 rfl (lv_at hl 2 rfl) ?_
      refine gx_get hx hb0 hts in_RX8 hown hK hP 0 (by decide) (mE_0 _) rfl 0 (by decide) fl_RX8_7 rfl dX8_passHour_91 ?_
      refine lv_bipush (v := (6 : Int32)) hx hb0 dX8_passHour_94 (by decide) ?_
      refine gx_ialdK hx hb0 hK hP 1 0 (by decide) mE_1 rfl (vp_lit (6 : Int32) (by decide) (by decide)) 6 rfl dX8_passHour_96 ?_
      refine lv_iload_n hx hb0 dX8_passHour_97 rfl (lv_at hl 0 rfl) ?_
      refine lv_iadd hx hb0 dX8_passHour_98 ?_
      refine gx_si ⟨hx, hb0, hml, hown, hts⟩ (gKM_keep _) hk hK hP hD hS [.int ((h_66 1 6) + (0 : Int32))] [.int (6 : Int32), .ref (ad 1)] (c_X8_bounded l dC dI P ad ((h_66 1 6) + (0 : Int32)) h_66 _ he) gm_X8_bounded st_yX8_bounded ml_RX8_64 rfl rfl ⟨Nat.le_of_ble_eq_true rfl, Nat.le_of_ble_eq_true rfl⟩ rfl hl.1 rfl (Nat.le_of_ble_eq_true rfl) dX8_passHour_99 ⟨Nat.zero_le _, Nat.zero_le _⟩ (fun r_67 h_68 he H locs hP hD hS => ?_)
      refine gx_iastK hx hb0 hK hP hD hS 1 0 (by decide) mE_1 rfl (vp_lit (6 : Int32) (by decide) (by decide)) 6 rfl dX8_passHour_102 (fun h_69 eh_69 H locs hP hD hS => ?_)
      have he := he h_69 eh_69
      refine lv_aload_n hx hb0 dX8_passHour_103 rfl (lv_at hl 2 rfl) ?_
      refine gx_get hx hb0 hts in_RX8 hown hK hP 0 (by decide) (mE_0 _) rfl 0 (by decide) fl_RX8_7 rfl dX8_passHour_104 ?_
      refine lv_iconst (v := (4 : Int32)) hx hb0 dX8_passHour_107 (by decide) ?_
      refine lv_aload_n hx hb0 dX8_passHour_108 rfl (lv_at hl 2 rfl) ?_
      refine gx_get hx hb0 hts in_RX8 hown hK hP 0 (by decide) (mE_0 _) rfl 0 (by decide) fl_RX8_7 rfl dX8_passHour_109 ?_
      refine lv_iconst (v := (4 : Int32)) hx hb0 dX8_passHour_112 (by decide) ?_
      refine gx_ialdK hx hb0 hK hP 1 0 (by decide) mE_1 rfl (vp_lit (4 : Int32) (by decide) (by decide)) 4 rfl dX8_passHour_113 ?_
      refine lv_aload_n hx hb0 dX8_passHour_114 rfl (lv_at hl 2 rfl) ?_
      refine gx_get hx hb0 hts in_RX8 hown hK hP 0 (by decide) (mE_0 _) rfl 0 (by decide) fl_RX8_7 rfl dX8_passHour_115 ?_
      refine lv_iconst (v := (0 : Int32)) hx hb0 dX8_passHour_118 (by decide) ?_
      refine gx_ialdK hx hb0 hK hP 1 0 (by decide) mE_1 rfl (vp_lit (0 : Int32) (by decide) (by decide)) 0 rfl dX8_passHour_119 ?_
      refine lv_iadd hx hb0 dX8_passHour_120 ?_
      refine gx_si ⟨hx, hb0, hml, hown, hts⟩ (gKM_keep _) hk hK hP hD hS [.int ((h_69 1 4) + (h_69 1 0))] [.int (4 : Int32), .ref (ad 1)] (c_X8_bounded l dC dI P ad ((h_69 1 4) + (h_69 1 0)) h_69 _ he) gm_X8_bounded st_yX8_bounded ml_RX8_64 rfl rfl ⟨Nat.le_of_ble_eq_true rfl, Nat.le_of_ble_eq_true rfl⟩ rfl hl.1 rfl (Nat.le_of_ble_eq_true rfl) dX8_passHour_121 ⟨Nat.zero_le _, Nat.zero_le _⟩ (fun r_70 h_71 he H locs hP hD hS => ?_)
      refine gx_iastK hx hb0 hK hP hD hS 1 0 (by decide) mE_1 rfl (vp_lit (4 : Int32) (by decide) (by decide)) 4 rfl dX8_passHour_124 (fun h_72 eh_72 H locs hP hD hS => ?_)
      have he := he h_72 eh_72
      refine lv_aload_n hx hb0 dX8_passHour_125 rfl (lv_at hl 2 rfl) ?_
      refine gx_get hx hb0 hts in_RX8 hown hK hP 0 (by decide) (mE_0 _) rfl 0 (by decide) fl_RX8_7 rfl dX8_passHour_126 ?_
      refine lv_bipush (v := (8 : Int32)) hx hb0 dX8_passHour_129 (by decide) ?_
      refine lv_dup2_11 hx hb0 dX8_passHour_131 rfl rfl ?_
      refine gx_ialdK hx hb0 hK hP 1 0 (by decide) mE_1 rfl (vp_lit (8 : Int32) (by decide) (by decide)) 8 rfl dX8_passHour_132 ?_
      refine lv_iconst (v := (1 : Int32)) hx hb0 dX8_passHour_133 (by decide) ?_
      refine lv_iadd hx hb0 dX8_passHour_134 ?_
      refine gx_iastK hx hb0 hK hP hD hS 1 0 (by decide) mE_1 rfl (vp_lit (8 : Int32) (by decide) (by decide)) 8 rfl dX8_passHour_135 (fun h_73 eh_73 H locs hP hD hS => ?_)
      have he := he h_73 eh_73
      exact gx_vret hx hb0 hr hlocks hK hP hD hS he dX8_passHour_136
theorem gm_X8_passHour : gMeth yX8_passHour cX8_passHour 3 none 0 := ⟨⟨by decide, by decide, by decide +kernel⟩, ini_RX8, co_yX8_passHour⟩
abbrev rm_X8_sails : Room := { frames := 2, cells := 0, slots := 0, locals := 42 }
set_option maxHeartbeats 4000000 in
set_option maxRecDepth 100000 in
theorem l_X8_sails_33 (l : Launch) (dC : Nat → ClassId) (dI : Nat → Nat → Nat) (P : gP) (ad : Nat → Nat) {p : Program} {e : Env} {s : State} {m : MethodId} {args : Array Value} {below : List Frame} {meth : Method} {c : Code} (hx : p.tables.exec = Jvm.exec) (hb0 : c.code = cX8_sails) (hr : meth.sig.returnType = (some .int)) (hlocks : meth.locks = false) (hml : c.maxLocals = 3) (hown : s.vm.findClass RX8 = some m.cls) (hts : ∀ w ∈ TB, w.before args s = true) (hK : va_K (dC, dI) vwCl (tyC P) s) (hk : gKM s) (Q : Int32 → Hp → Prop) : ∀ (n : Nat) (y1 : Int32) (y2 : Int32) (h0 : Hp), F_X8_sails_L33  n y1 y2 h0 Q → ∀ (H : Heap) (locs : List Loc) (ls : Array Slot), va_P (dC, dI) vwCl (gW 7 (mE P ad) ad h0) H → va_D (gA 7 ad) (gW 7 (mE P ad) ad h0) → va_S (gA 7 ad) s.heap H locs → lv_has ls 3 [(0, .ref (ad 0)), (1, .int y1), (2, .int y2)] → W p l e rm_X8_sails s m args below meth c H locs 0 0 (MQ below (gQi (dC, dI) vwCl (tyC P) 7 (mE P ad) ad Q) args s 0 0 (gA 7 ad)) (F0 m 33 ls []) := by
  intro n
  induction n with
  | zero =>
    intro y1 y2 h0 he
    exact he.elim
  | succ n ih =>
    intro y1 y2 h0 he H locs ls hP hD hS hl
    rw [F_X8_sails_L33] at he
    refine lv_iload_n hx hb0 dX8_sails_33 rfl (lv_at hl 2 rfl) ?_
    refine lv_iload_n hx hb0 dX8_sails_34 rfl (lv_at hl 1 rfl) ?_
    refine lv_icmp_ge (tgt := 48) hx hb0 dX8_sails_35 (by decide) (fun c_5 => ?_) (fun c_5 => ?_)
    · have he := he.1 c_5
      refine lv_aload_n hx hb0 dX8_sails_48 rfl (lv_at hl 0 rfl) ?_
      refine gx_get hx hb0 hts in_RX8 hown hK hP 0 (by decide) (mE_0 _) rfl 0 (by decide) fl_RX8_7 rfl dX8_sails_49 ?_
      refine lv_iconst (v := (4 : Int32)) hx hb0 dX8_sails_52 (by decide) ?_
      refine gx_ialdK hx hb0 hK hP 1 0 (by decide) mE_1 rfl (vp_lit (4 : Int32) (by decide) (by decide)) 4 rfl dX8_sails_53 ?_
      refine lv_sipush (v := (5400 : Int32)) hx hb0 dX8_sails_54 (by decide) ?_
      refine lv_iadd hx hb0 dX8_sails_57 ?_
      exact gx_iret hx hb0 hr hlocks hK hP hD hS he dX8_sails_58
    · have he := he.2 c_5
      refine lv_aload_n hx hb0 dX8_sails_38 rfl (lv_at hl 0 rfl) ?_
      refine gx_vv ⟨hx, hb0, hml, hown, hts⟩ (gKM_keep _) hk hK hP hD hS 0 [] [] (c_X8_passHour l dC dI P ad  h0 _ he) gm_X8_passHour im_yX8_passHour se_yX8_passHour ml_RX8_99 (by decide) (mE_0 _) rfl rfl rfl ⟨Nat.le_of_ble_eq_true rfl, Nat.le_of_ble_eq_true rfl⟩ rfl hl.1 rfl (Nat.le_of_ble_eq_true rfl) dX8_sails_39 ⟨Nat.zero_le _, Nat.zero_le _⟩ (fun h_7 he H locs hP hD hS => ?_)
      obtain ⟨x_8, ex_8⟩ : ∃ y : Int32, y = y2 + 1 := ⟨_, rfl⟩
      have he := he x_8 ex_8
      refine lv_iinc (v := x_8) (lv' := [(2, .int x_8), (0, .ref (ad 0)), (1, .int y1)]) hx hb0 dX8_sails_42 hl (k := 2) rfl (by rw [ex_8]; rfl) (by decide) rfl (fun ls hl => ?_)
      refine lv_goto (tgt := 33) hx hb0 dX8_sails_45 (by decide) ?_
      exact ih y1 x_8 h_7 he _ _ ls hP hD hS (lv_sub hl [1, 2, 0] rfl)
set_option maxHeartbeats 4000000 in
set_option maxRecDepth 100000 in
theorem c_X8_sails (l : Launch) (dC : Nat → ClassId) (dI : Nat → Nat → Nat) (P : gP) (ad : Nat → Nat) (x1 : Int32) (h0 : Hp) (Q : Int32 → Hp → Prop) (he : F_X8_sails x1 h0 Q) : Met l yX8_sails (Cond.code yX8_sails cX8_sails 3 (some .int) :: TB) rm_X8_sails (gPc (dC, dI) vwCl (tyC P) 7 (mE P ad) ad gKM h0 [.ref (ad 0), .int x1]) (gQi (dC, dI) vwCl (tyC P) 7 (mE P ad) ad Q) 0 0 (gA 7 ad) := by
  refine gx_start (by decide) (Nat.le_of_ble_eq_true rfl) (fun p e s m below meth c ls hx hb0 hr hlocks hml hown hts hK hk hP hD hS hl => ?_)
  have hl : lv_has ls 3 [(0, .ref (ad 0)), (1, .int x1)] := hl
  have hown : s.vm.findClass RX8 = some m.cls := hown
  unfold F_X8_sails at he
  refine lv_iload_n hx hb0 dX8_sails_0 rfl (lv_at hl 1 rfl) ?_
  refine lv_iconst (v := (1 : Int32)) hx hb0 dX8_sails_1 (by decide) ?_
  refine lv_bipush (v := (99 : Int32)) hx hb0 dX8_sails_2 (by decide) ?_
  refine gx_si ⟨hx, hb0, hml, hown, hts⟩ (gKM_keep _) hk hK hP hD hS [.int x1, .int (1 : Int32), .int (99 : Int32)] [] (c_X8_within l dC dI P ad x1 (1 : Int32) (99 : Int32) h0 _ he) gm_X8_within st_yX8_within ml_RX8_32 rfl rfl ⟨Nat.le_of_ble_eq_true rfl, Nat.le_of_ble_eq_true rfl⟩ rfl hl.1 rfl (Nat.le_of_ble_eq_true rfl) dX8_sails_4 ⟨Nat.zero_le _, Nat.zero_le _⟩ (fun r_1 h_2 he H locs hP hD hS => ?_)
  refine lv_if_ne (tgt := 13) hx hb0 dX8_sails_7 (by decide) (fun c_3 => ?_) (fun c_3 => ?_)
  · have he := he.2 c_3
    refine lv_aload_n hx hb0 dX8_sails_13 rfl (lv_at hl 0 rfl) ?_
    refine gx_get hx hb0 hts in_RX8 hown hK hP 0 (by decide) (mE_0 _) rfl 0 (by decide) fl_RX8_7 rfl dX8_sails_14 ?_
    refine lv_bipush (v := (8 : Int32)) hx hb0 dX8_sails_17 (by decide) ?_
    refine gx_ialdK hx hb0 hK hP 1 0 (by decide) mE_1 rfl (vp_lit (8 : Int32) (by decide) (by decide)) 8 rfl dX8_sails_19 ?_
    refine lv_iload_n hx hb0 dX8_sails_20 rfl (lv_at hl 1 rfl) ?_
    refine lv_iadd hx hb0 dX8_sails_21 ?_
    refine lv_sipush (v := (9999 : Int32)) hx hb0 dX8_sails_22 (by decide) ?_
    refine lv_icmp_le (tgt := 31) hx hb0 dX8_sails_25 (by decide) (fun c_4 => ?_) (fun c_4 => ?_)
    · have he := he.1 c_4
      refine lv_iconst (v := (0 : Int32)) hx hb0 dX8_sails_31 (by decide) ?_
      refine lv_istore_n (lv' := [(2, .int (0 : Int32)), (0, .ref (ad 0)), (1, .int x1)]) hx hb0 dX8_sails_32 rfl hl (by decide) rfl (fun ls hl => ?_)
      obtain ⟨n_9, he⟩ := he
      exact l_X8_sails_33 l dC dI P ad  hx hb0 hr hlocks hml hown hts hK hk Q n_9 x1 (0 : Int32) h_2 he _ _ ls hP hD hS (lv_sub hl [1, 2, 0] rfl)
    · have he := he.2 c_4
      refine lv_bipush (v := (-5 : Int32)) hx hb0 dX8_sails_28 (by decide) ?_
      exact gx_iret hx hb0 hr hlocks hK hP hD hS he dX8_sails_30
  · have he := he.1 c_3
    refine lv_bipush (v := (-2 : Int32)) hx hb0 dX8_sails_10 (by decide) ?_
    exact gx_iret hx hb0 hr hlocks hK hP hD hS he dX8_sails_12
theorem gm_X8_sails : gMeth yX8_sails cX8_sails 3 (some .int) 1 := ⟨⟨by decide, by decide, by decide +kernel⟩, ini_RX8, co_yX8_sails⟩
abbrev rm_X8_belief : Room := { frames := 0, cells := 0, slots := 0, locals := 0 }
set_option maxHeartbeats 4000000 in
set_option maxRecDepth 100000 in
theorem c_X8_belief (l : Launch) (dC : Nat → ClassId) (dI : Nat → Nat → Nat) (P : gP) (ad : Nat → Nat) (h0 : Hp) (Q : Int32 → Hp → Prop) (he : F_X8_belief  h0 Q) : Met l yX8_belief (Cond.code yX8_belief cX8_belief 1 (some .int) :: TB) rm_X8_belief (gPc (dC, dI) vwCl (tyC P) 7 (mE P ad) ad gKM h0 [.ref (ad 0)]) (gQi (dC, dI) vwCl (tyC P) 7 (mE P ad) ad Q) 0 0 (gA 7 ad) := by
  refine gx_start (by decide) (Nat.le_of_ble_eq_true rfl) (fun p e s m below meth c ls hx hb0 hr hlocks hml hown hts hK hk hP hD hS hl => ?_)
  have hl : lv_has ls 1 [(0, .ref (ad 0))] := hl
  have hown : s.vm.findClass RX8 = some m.cls := hown
  unfold F_X8_belief at he
  refine lv_aload_n hx hb0 dX8_belief_0 rfl (lv_at hl 0 rfl) ?_
  refine gx_get hx hb0 hts in_RX8 hown hK hP 0 (by decide) (mE_0 _) rfl 0 (by decide) fl_RX8_7 rfl dX8_belief_1 ?_
  refine lv_iconst (v := (5 : Int32)) hx hb0 dX8_belief_4 (by decide) ?_
  refine gx_ialdK hx hb0 hK hP 1 0 (by decide) mE_1 rfl (vp_lit (5 : Int32) (by decide) (by decide)) 5 rfl dX8_belief_5 ?_
  refine lv_iconst (v := (1 : Int32)) hx hb0 dX8_belief_6 (by decide) ?_
  refine lv_icmp_ne (tgt := 24) hx hb0 dX8_belief_7 (by decide) (fun c_1 => ?_) (fun c_1 => ?_)
  · have he := he.2 c_1
    refine lv_bipush (v := (-6 : Int32)) hx hb0 dX8_belief_24 (by decide) ?_
    exact gx_iret hx hb0 hr hlocks hK hP hD hS he dX8_belief_26
  · have he := he.1 c_1
    refine lv_aload_n hx hb0 dX8_belief_10 rfl (lv_at hl 0 rfl) ?_
    refine gx_get hx hb0 hts in_RX8 hown hK hP 0 (by decide) (mE_0 _) rfl 0 (by decide) fl_RX8_7 rfl dX8_belief_11 ?_
    refine lv_bipush (v := (6 : Int32)) hx hb0 dX8_belief_14 (by decide) ?_
    refine gx_ialdK hx hb0 hK hP 1 0 (by decide) mE_1 rfl (vp_lit (6 : Int32) (by decide) (by decide)) 6 rfl dX8_belief_16 ?_
    refine lv_sipush (v := (5400 : Int32)) hx hb0 dX8_belief_17 (by decide) ?_
    refine lv_iadd hx hb0 dX8_belief_20 ?_
    refine lv_goto (tgt := 26) hx hb0 dX8_belief_21 (by decide) ?_
    exact gx_iret hx hb0 hr hlocks hK hP hD hS he dX8_belief_26
theorem gm_X8_belief : gMeth yX8_belief cX8_belief 1 (some .int) 0 := ⟨⟨by decide, by decide, by decide +kernel⟩, ini_RX8, co_yX8_belief⟩
abbrev rm_X8_ends : Room := { frames := 1, cells := 0, slots := 0, locals := 23 }
set_option maxHeartbeats 4000000 in
set_option maxRecDepth 100000 in
theorem l_X8_ends_135 (l : Launch) (dC : Nat → ClassId) (dI : Nat → Nat → Nat) (P : gP) (ad : Nat → Nat) {p : Program} {e : Env} {s : State} {m : MethodId} {args : Array Value} {below : List Frame} {meth : Method} {c : Code} (hx : p.tables.exec = Jvm.exec) (hb0 : c.code = cX8_ends) (hr : meth.sig.returnType = (some .int)) (hlocks : meth.locks = false) (hml : c.maxLocals = 3) (hown : s.vm.findClass RX8 = some m.cls) (hts : ∀ w ∈ TB, w.before args s = true) (hK : va_K (dC, dI) vwCl (tyC P) s) (hk : gKM s) (Q : Int32 → Hp → Prop) : ∀ (n : Nat) (y1 : Int32) (h0 : Hp), F_X8_ends_L135  n y1 h0 Q → ∀ (H : Heap) (locs : List Loc) (ls : Array Slot), va_P (dC, dI) vwCl (gW 7 (mE P ad) ad h0) H → va_D (gA 7 ad) (gW 7 (mE P ad) ad h0) → va_S (gA 7 ad) s.heap H locs → lv_has ls 3 [(0, .ref (ad 0)), (1, .int y1)] → W p l e rm_X8_ends s m args below meth c H locs 0 0 (MQ below (gQi (dC, dI) vwCl (tyC P) 7 (mE P ad) ad Q) args s 0 0 (gA 7 ad)) (F0 m 135 ls []) := by
  intro n
  induction n with
  | zero =>
    intro y1 h0 he
    exact he.elim
  | succ n ih =>
    intro y1 h0 he H locs ls hP hD hS hl
    rw [F_X8_ends_L135] at he
    refine lv_iload_n hx hb0 dX8_ends_135 rfl (lv_at hl 1 rfl) ?_
    refine lv_bipush (v := (7 : Int32)) hx hb0 dX8_ends_136 (by decide) ?_
    refine lv_icmp_ge (tgt := 221) hx hb0 dX8_ends_138 (by decide) (fun c_11 => ?_) (fun c_11 => ?_)
    · have he := he.1 c_11
      refine lv_aload_n hx hb0 dX8_ends_221 rfl (lv_at hl 0 rfl) ?_
      refine gx_get hx hb0 hts in_RX8 hown hK hP 0 (by decide) (mE_0 _) rfl 0 (by decide) fl_RX8_7 rfl dX8_ends_222 ?_
      refine lv_bipush (v := (12 : Int32)) hx hb0 dX8_ends_225 (by decide) ?_
      refine lv_iconst (v := (0 : Int32)) hx hb0 dX8_ends_227 (by decide) ?_
      refine gx_iastK hx hb0 hK hP hD hS 1 0 (by decide) mE_1 rfl (vp_lit (12 : Int32) (by decide) (by decide)) 12 rfl dX8_ends_228 (fun h_12 eh_12 H locs hP hD hS => ?_)
      have he := he h_12 eh_12
      refine lv_aload_n hx hb0 dX8_ends_229 rfl (lv_at hl 0 rfl) ?_
      refine gx_get hx hb0 hts in_RX8 hown hK hP 0 (by decide) (mE_0 _) rfl 0 (by decide) fl_RX8_7 rfl dX8_ends_230 ?_
      refine lv_bipush (v := (9 : Int32)) hx hb0 dX8_ends_233 (by decide) ?_
      refine lv_dup2_11 hx hb0 dX8_ends_235 rfl rfl ?_
      refine gx_ialdK hx hb0 hK hP 1 0 (by decide) mE_1 rfl (vp_lit (9 : Int32) (by decide) (by decide)) 9 rfl dX8_ends_236 ?_
      refine lv_iconst (v := (1 : Int32)) hx hb0 dX8_ends_237 (by decide) ?_
      refine lv_iadd hx hb0 dX8_ends_238 ?_
      refine gx_iastK hx hb0 hK hP hD hS 1 0 (by decide) mE_1 rfl (vp_lit (9 : Int32) (by decide) (by decide)) 9 rfl dX8_ends_239 (fun h_13 eh_13 H locs hP hD hS => ?_)
      have he := he h_13 eh_13
      refine lv_aload_n hx hb0 dX8_ends_240 rfl (lv_at hl 0 rfl) ?_
      refine gx_get hx hb0 hts in_RX8 hown hK hP 0 (by decide) (mE_0 _) rfl 0 (by decide) fl_RX8_7 rfl dX8_ends_241 ?_
      refine lv_bipush (v := (9 : Int32)) hx hb0 dX8_ends_244 (by decide) ?_
      refine gx_ialdK hx hb0 hK hP 1 0 (by decide) mE_1 rfl (vp_lit (9 : Int32) (by decide) (by decide)) 9 rfl dX8_ends_246 ?_
      exact gx_iret hx hb0 hr hlocks hK hP hD hS he dX8_ends_247
    · have he := he.2 c_11
      refine lv_aload_n hx hb0 dX8_ends_141 rfl (lv_at hl 0 rfl) ?_
      refine lv_iload_n hx hb0 dX8_ends_142 rfl (lv_at hl 1 rfl) ?_
      refine lv_bipush (v := (7 : Int32)) hx hb0 dX8_ends_143 (by decide) ?_
      refine gx_vi ⟨hx, hb0, hml, hown, hts⟩ (gKM_keep _) hk hK hP hD hS 0 [.int y1, .int (7 : Int32)] [] (c_X8_number l dC dI P ad y1 (7 : Int32) h0 _ he) gm_X8_number im_yX8_number se_yX8_number ml_RX8_54 (by decide) (mE_0 _) rfl rfl rfl ⟨Nat.le_of_ble_eq_true rfl, Nat.le_of_ble_eq_true rfl⟩ rfl hl.1 rfl (Nat.le_of_ble_eq_true rfl) dX8_ends_145 ⟨Nat.zero_le _, Nat.zero_le _⟩ (fun r_14 h_15 he H locs hP hD hS => ?_)
      refine lv_iconst (v := (2 : Int32)) hx hb0 dX8_ends_148 (by decide) ?_
      refine lv_icmp_ne (tgt := 156) hx hb0 dX8_ends_149 (by decide) (fun c_16 => ?_) (fun c_16 => ?_)
      · have he := he.2 c_16
        refine lv_iconst (v := (0 : Int32)) hx hb0 dX8_ends_156 (by decide) ?_
        refine lv_istore_n (lv' := [(2, .int (0 : Int32)), (0, .ref (ad 0)), (1, .int y1)]) hx hb0 dX8_ends_157 rfl hl (by decide) rfl (fun ls hl => ?_)
        refine lv_aload_n hx hb0 dX8_ends_158 rfl (lv_at hl 1 rfl) ?_
        refine lv_iload_n hx hb0 dX8_ends_159 rfl (lv_at hl 2 rfl) ?_
        refine lv_iconst (v := (5 : Int32)) hx hb0 dX8_ends_160 (by decide) ?_
        refine lv_iconst (v := (0 : Int32)) hx hb0 dX8_ends_161 (by decide) ?_
        refine gx_vv ⟨hx, hb0, hml, hown, hts⟩ (gKM_keep _) hk hK hP hD hS 0 [.int y1, .int (5 : Int32), .int (0 : Int32)] [] (c_X8_setOf l dC dI P ad y1 (5 : Int32) (0 : Int32) h_15 _ he) gm_X8_setOf im_yX8_setOf se_yX8_setOf ml_RX8_28 (by decide) (mE_0 _) rfl rfl rfl ⟨Nat.le_of_ble_eq_true rfl, Nat.le_of_ble_eq_true rfl⟩ rfl hl.1 rfl (Nat.le_of_ble_eq_true rfl) dX8_ends_162 ⟨Nat.zero_le _, Nat.zero_le _⟩ (fun h_18 he H locs hP hD hS => ?_)
        refine lv_aload_n hx hb0 dX8_ends_165 rfl (lv_at hl 1 rfl) ?_
        refine lv_iload_n hx hb0 dX8_ends_166 rfl (lv_at hl 2 rfl) ?_
        refine lv_bipush (v := (6 : Int32)) hx hb0 dX8_ends_167 (by decide) ?_
        refine lv_iconst (v := (0 : Int32)) hx hb0 dX8_ends_169 (by decide) ?_
        refine gx_vv ⟨hx, hb0, hml, hown, hts⟩ (gKM_keep _) hk hK hP hD hS 0 [.int y1, .int (6 : Int32), .int (0 : Int32)] [] (c_X8_setOf l dC dI P ad y1 (6 : Int32) (0 : Int32) h_18 _ he) gm_X8_setOf im_yX8_setOf se_yX8_setOf ml_RX8_28 (by decide) (mE_0 _) rfl rfl rfl ⟨Nat.le_of_ble_eq_true rfl, Nat.le_of_ble_eq_true rfl⟩ rfl hl.1 rfl (Nat.le_of_ble_eq_true rfl) dX8_ends_170 ⟨Nat.zero_le _, Nat.zero_le _⟩ (fun h_20 he H locs hP hD hS => ?_)
        refine lv_aload_n hx hb0 dX8_ends_173 rfl (lv_at hl 1 rfl) ?_
        refine lv_iload_n hx hb0 dX8_ends_174 rfl (lv_at hl 2 rfl) ?_
        refine lv_iconst (v := (3 : Int32)) hx hb0 dX8_ends_175 (by decide) ?_
        refine lv_iload_n hx hb0 dX8_ends_176 rfl (lv_at hl 0 rfl) ?_
        refine lv_if_eq (tgt := 184) hx hb0 dX8_ends_177 (by decide) (fun c_21 => ?_) (fun c_21 => ?_)
        · refine lv_aload_n hx hb0 dX8_ends_184 rfl (lv_at hl 1 rfl) ?_
          refine lv_iload_n hx hb0 dX8_ends_185 rfl (lv_at hl 2 rfl) ?_
          refine lv_iconst (v := (3 : Int32)) hx hb0 dX8_ends_186 (by decide) ?_
          refine gx_vi ⟨hx, hb0, hml, hown, hts⟩ (gKM_keep _) hk hK hP hD hS 0 [.int y1, .int (3 : Int32)] [.int (3 : Int32), .int y1, .ref (ad 0)] (c_X8_number l dC dI P ad y1 (3 : Int32) h_20 _ he) gm_X8_number im_yX8_number se_yX8_number ml_RX8_54 (by decide) (mE_0 _) rfl rfl rfl ⟨Nat.le_of_ble_eq_true rfl, Nat.le_of_ble_eq_true rfl⟩ rfl hl.1 rfl (Nat.le_of_ble_eq_true rfl) dX8_ends_187 ⟨Nat.zero_le _, Nat.zero_le _⟩ (fun r_22 h_23 he H locs hP hD hS => ?_)
          refine gx_vv ⟨hx, hb0, hml, hown, hts⟩ (gKM_keep _) hk hK hP hD hS 0 [.int y1, .int (3 : Int32), .int r_22] [] (c_X8_setOf l dC dI P ad y1 (3 : Int32) r_22 h_23 _ he) gm_X8_setOf im_yX8_setOf se_yX8_setOf ml_RX8_28 (by decide) (mE_0 _) rfl rfl rfl ⟨Nat.le_of_ble_eq_true rfl, Nat.le_of_ble_eq_true rfl⟩ rfl hl.1 rfl (Nat.le_of_ble_eq_true rfl) dX8_ends_190 ⟨Nat.zero_le _, Nat.zero_le _⟩ (fun h_25 he H locs hP hD hS => ?_)
          refine lv_aload_n hx hb0 dX8_ends_193 rfl (lv_at hl 1 rfl) ?_
          refine lv_iload_n hx hb0 dX8_ends_194 rfl (lv_at hl 2 rfl) ?_
          refine lv_bipush (v := (7 : Int32)) hx hb0 dX8_ends_195 (by decide) ?_
          refine lv_iload_n hx hb0 dX8_ends_197 rfl (lv_at hl 0 rfl) ?_
          refine lv_if_eq (tgt := 205) hx hb0 dX8_ends_198 (by decide) (fun c_26 => ?_) (fun c_26 => ?_)
          · refine lv_aload_n hx hb0 dX8_ends_205 rfl (lv_at hl 1 rfl) ?_
            refine lv_iload_n hx hb0 dX8_ends_206 rfl (lv_at hl 2 rfl) ?_
            refine lv_bipush (v := (7 : Int32)) hx hb0 dX8_ends_207 (by decide) ?_
            refine gx_vi ⟨hx, hb0, hml, hown, hts⟩ (gKM_keep _) hk hK hP hD hS 0 [.int y1, .int (7 : Int32)] [.int (7 : Int32), .int y1, .ref (ad 0)] (c_X8_number l dC dI P ad y1 (7 : Int32) h_25 _ he) gm_X8_number im_yX8_number se_yX8_number ml_RX8_54 (by decide) (mE_0 _) rfl rfl rfl ⟨Nat.le_of_ble_eq_true rfl, Nat.le_of_ble_eq_true rfl⟩ rfl hl.1 rfl (Nat.le_of_ble_eq_true rfl) dX8_ends_209 ⟨Nat.zero_le _, Nat.zero_le _⟩ (fun r_27 h_28 he H locs hP hD hS => ?_)
            refine gx_vv ⟨hx, hb0, hml, hown, hts⟩ (gKM_keep _) hk hK hP hD hS 0 [.int y1, .int (7 : Int32), .int r_27] [] (c_X8_setOf l dC dI P ad y1 (7 : Int32) r_27 h_28 _ he) gm_X8_setOf im_yX8_setOf se_yX8_setOf ml_RX8_28 (by decide) (mE_0 _) rfl rfl rfl ⟨Nat.le_of_ble_eq_true rfl, Nat.le_of_ble_eq_true rfl⟩ rfl hl.1 rfl (Nat.le_of_ble_eq_true rfl) dX8_ends_212 ⟨Nat.zero_le _, Nat.zero_le _⟩ (fun h_30 he H locs hP hD hS => ?_)
            obtain ⟨x_31, ex_31⟩ : ∃ y : Int32, y = y1 + 1 := ⟨_, rfl⟩
            have he := he x_31 ex_31
            refine lv_iinc (v := x_31) (lv' := [(1, .int x_31), (2, .int (0 : Int32)), (0, .ref (ad 0))]) hx hb0 dX8_ends_215 hl (k := 2) rfl (by rw [ex_31]; rfl) (by decide) rfl (fun ls hl => ?_)
            refine lv_goto (tgt := 135) hx hb0 dX8_ends_218 (by decide) ?_
            exact ih x_31 h_30 he _ _ ls hP hD hS (lv_sub hl [2, 0] rfl)
          · exact absurd c_26 (by decide)
        · exact absurd c_21 (by decide)
      · have he := he.1 c_16
        refine lv_iconst (v := (1 : Int32)) hx hb0 dX8_ends_152 (by decide) ?_
        refine lv_goto (tgt := 157) hx hb0 dX8_ends_153 (by decide) ?_
        refine lv_istore_n (lv' := [(2, .int (1 : Int32)), (0, .ref (ad 0)), (1, .int y1)]) hx hb0 dX8_ends_157 rfl hl (by decide) rfl (fun ls hl => ?_)
        refine lv_aload_n hx hb0 dX8_ends_158 rfl (lv_at hl 1 rfl) ?_
        refine lv_iload_n hx hb0 dX8_ends_159 rfl (lv_at hl 2 rfl) ?_
        refine lv_iconst (v := (5 : Int32)) hx hb0 dX8_ends_160 (by decide) ?_
        refine lv_iconst (v := (0 : Int32)) hx hb0 dX8_ends_161 (by decide) ?_
        refine gx_vv ⟨hx, hb0, hml, hown, hts⟩ (gKM_keep _) hk hK hP hD hS 0 [.int y1, .int (5 : Int32), .int (0 : Int32)] [] (c_X8_setOf l dC dI P ad y1 (5 : Int32) (0 : Int32) h_15 _ he) gm_X8_setOf im_yX8_setOf se_yX8_setOf ml_RX8_28 (by decide) (mE_0 _) rfl rfl rfl ⟨Nat.le_of_ble_eq_true rfl, Nat.le_of_ble_eq_true rfl⟩ rfl hl.1 rfl (Nat.le_of_ble_eq_true rfl) dX8_ends_162 ⟨Nat.zero_le _, Nat.zero_le _⟩ (fun h_33 he H locs hP hD hS => ?_)
        refine lv_aload_n hx hb0 dX8_ends_165 rfl (lv_at hl 1 rfl) ?_
        refine lv_iload_n hx hb0 dX8_ends_166 rfl (lv_at hl 2 rfl) ?_
        refine lv_bipush (v := (6 : Int32)) hx hb0 dX8_ends_167 (by decide) ?_
        refine lv_iconst (v := (0 : Int32)) hx hb0 dX8_ends_169 (by decide) ?_
        refine gx_vv ⟨hx, hb0, hml, hown, hts⟩ (gKM_keep _) hk hK hP hD hS 0 [.int y1, .int (6 : Int32), .int (0 : Int32)] [] (c_X8_setOf l dC dI P ad y1 (6 : Int32) (0 : Int32) h_33 _ he) gm_X8_setOf im_yX8_setOf se_yX8_setOf ml_RX8_28 (by decide) (mE_0 _) rfl rfl rfl ⟨Nat.le_of_ble_eq_true rfl, Nat.le_of_ble_eq_true rfl⟩ rfl hl.1 rfl (Nat.le_of_ble_eq_true rfl) dX8_ends_170 ⟨Nat.zero_le _, Nat.zero_le _⟩ (fun h_35 he H locs hP hD hS => ?_)
        refine lv_aload_n hx hb0 dX8_ends_173 rfl (lv_at hl 1 rfl) ?_
        refine lv_iload_n hx hb0 dX8_ends_174 rfl (lv_at hl 2 rfl) ?_
        refine lv_iconst (v := (3 : Int32)) hx hb0 dX8_ends_175 (by decide) ?_
        refine lv_iload_n hx hb0 dX8_ends_176 rfl (lv_at hl 0 rfl) ?_
        refine lv_if_eq (tgt := 184) hx hb0 dX8_ends_177 (by decide) (fun c_36 => ?_) (fun c_36 => ?_)
        · exact absurd c_36 (by decide)
        · refine lv_iconst (v := (0 : Int32)) hx hb0 dX8_ends_180 (by decide) ?_
          refine lv_goto (tgt := 190) hx hb0 dX8_ends_181 (by decide) ?_
          refine gx_vv ⟨hx, hb0, hml, hown, hts⟩ (gKM_keep _) hk hK hP hD hS 0 [.int y1, .int (3 : Int32), .int (0 : Int32)] [] (c_X8_setOf l dC dI P ad y1 (3 : Int32) (0 : Int32) h_35 _ he) gm_X8_setOf im_yX8_setOf se_yX8_setOf ml_RX8_28 (by decide) (mE_0 _) rfl rfl rfl ⟨Nat.le_of_ble_eq_true rfl, Nat.le_of_ble_eq_true rfl⟩ rfl hl.1 rfl (Nat.le_of_ble_eq_true rfl) dX8_ends_190 ⟨Nat.zero_le _, Nat.zero_le _⟩ (fun h_38 he H locs hP hD hS => ?_)
          refine lv_aload_n hx hb0 dX8_ends_193 rfl (lv_at hl 1 rfl) ?_
          refine lv_iload_n hx hb0 dX8_ends_194 rfl (lv_at hl 2 rfl) ?_
          refine lv_bipush (v := (7 : Int32)) hx hb0 dX8_ends_195 (by decide) ?_
          refine lv_iload_n hx hb0 dX8_ends_197 rfl (lv_at hl 0 rfl) ?_
          refine lv_if_eq (tgt := 205) hx hb0 dX8_ends_198 (by decide) (fun c_39 => ?_) (fun c_39 => ?_)
          · exact absurd c_39 (by decide)
          · refine lv_iconst (v := (0 : Int32)) hx hb0 dX8_ends_201 (by decide) ?_
            refine lv_goto (tgt := 212) hx hb0 dX8_ends_202 (by decide) ?_
            refine gx_vv ⟨hx, hb0, hml, hown, hts⟩ (gKM_keep _) hk hK hP hD hS 0 [.int y1, .int (7 : Int32), .int (0 : Int32)] [] (c_X8_setOf l dC dI P ad y1 (7 : Int32) (0 : Int32) h_38 _ he) gm_X8_setOf im_yX8_setOf se_yX8_setOf ml_RX8_28 (by decide) (mE_0 _) rfl rfl rfl ⟨Nat.le_of_ble_eq_true rfl, Nat.le_of_ble_eq_true rfl⟩ rfl hl.1 rfl (Nat.le_of_ble_eq_true rfl) dX8_ends_212 ⟨Nat.zero_le _, Nat.zero_le _⟩ (fun h_41 he H locs hP hD hS => ?_)
            obtain ⟨x_42, ex_42⟩ : ∃ y : Int32, y = y1 + 1 := ⟨_, rfl⟩
            have he := he x_42 ex_42
            refine lv_iinc (v := x_42) (lv' := [(1, .int x_42), (2, .int (1 : Int32)), (0, .ref (ad 0))]) hx hb0 dX8_ends_215 hl (k := 2) rfl (by rw [ex_42]; rfl) (by decide) rfl (fun ls hl => ?_)
            refine lv_goto (tgt := 135) hx hb0 dX8_ends_218 (by decide) ?_
            exact ih x_42 h_41 he _ _ ls hP hD hS (lv_sub hl [2, 0] rfl)
set_option maxHeartbeats 4000000 in
set_option maxRecDepth 100000 in
theorem l_X8_ends_19 (l : Launch) (dC : Nat → ClassId) (dI : Nat → Nat → Nat) (P : gP) (ad : Nat → Nat) {p : Program} {e : Env} {s : State} {m : MethodId} {args : Array Value} {below : List Frame} {meth : Method} {c : Code} (hx : p.tables.exec = Jvm.exec) (hb0 : c.code = cX8_ends) (hr : meth.sig.returnType = (some .int)) (hlocks : meth.locks = false) (hml : c.maxLocals = 3) (hown : s.vm.findClass RX8 = some m.cls) (hts : ∀ w ∈ TB, w.before args s = true) (hK : va_K (dC, dI) vwCl (tyC P) s) (hk : gKM s) (Q : Int32 → Hp → Prop) : ∀ (n : Nat) (y1 : Int32) (h0 : Hp), F_X8_ends_L19  n y1 h0 Q → ∀ (H : Heap) (locs : List Loc) (ls : Array Slot), va_P (dC, dI) vwCl (gW 7 (mE P ad) ad h0) H → va_D (gA 7 ad) (gW 7 (mE P ad) ad h0) → va_S (gA 7 ad) s.heap H locs → lv_has ls 3 [(0, .ref (ad 0)), (1, .int y1)] → W p l e rm_X8_ends s m args below meth c H locs 0 0 (MQ below (gQi (dC, dI) vwCl (tyC P) 7 (mE P ad) ad Q) args s 0 0 (gA 7 ad)) (F0 m 19 ls []) := by
  intro n
  induction n with
  | zero =>
    intro y1 h0 he
    exact he.elim
  | succ n ih =>
    intro y1 h0 he H locs ls hP hD hS hl
    rw [F_X8_ends_L19] at he
    refine lv_iload_n hx hb0 dX8_ends_19 rfl (lv_at hl 1 rfl) ?_
    refine lv_iconst (v := (3 : Int32)) hx hb0 dX8_ends_20 (by decide) ?_
    refine lv_icmp_le (tgt := 50) hx hb0 dX8_ends_21 (by decide) (fun c_2 => ?_) (fun c_2 => ?_)
    · have he := he.1 c_2
      refine lv_aload_n hx hb0 dX8_ends_50 rfl (lv_at hl 0 rfl) ?_
      refine gx_get hx hb0 hts in_RX8 hown hK hP 0 (by decide) (mE_0 _) rfl 0 (by decide) fl_RX8_7 rfl dX8_ends_51 ?_
      refine lv_bipush (v := (87 : Int32)) hx hb0 dX8_ends_54 (by decide) ?_
      refine lv_aload_n hx hb0 dX8_ends_56 rfl (lv_at hl 0 rfl) ?_
      refine gx_get hx hb0 hts in_RX8 hown hK hP 0 (by decide) (mE_0 _) rfl 0 (by decide) fl_RX8_7 rfl dX8_ends_57 ?_
      refine lv_bipush (v := (9 : Int32)) hx hb0 dX8_ends_60 (by decide) ?_
      refine gx_ialdK hx hb0 hK hP 1 0 (by decide) mE_1 rfl (vp_lit (9 : Int32) (by decide) (by decide)) 9 rfl dX8_ends_62 ?_
      refine gx_iastK hx hb0 hK hP hD hS 1 0 (by decide) mE_1 rfl (vp_lit (87 : Int32) (by decide) (by decide)) 87 rfl dX8_ends_63 (fun h_3 eh_3 H locs hP hD hS => ?_)
      have he := he h_3 eh_3
      refine lv_aload_n hx hb0 dX8_ends_64 rfl (lv_at hl 0 rfl) ?_
      refine gx_get hx hb0 hts in_RX8 hown hK hP 0 (by decide) (mE_0 _) rfl 0 (by decide) fl_RX8_7 rfl dX8_ends_65 ?_
      refine lv_bipush (v := (88 : Int32)) hx hb0 dX8_ends_68 (by decide) ?_
      refine lv_aload_n hx hb0 dX8_ends_70 rfl (lv_at hl 0 rfl) ?_
      refine gx_get hx hb0 hts in_RX8 hown hK hP 0 (by decide) (mE_0 _) rfl 0 (by decide) fl_RX8_7 rfl dX8_ends_71 ?_
      refine lv_iconst (v := (4 : Int32)) hx hb0 dX8_ends_74 (by decide) ?_
      refine gx_ialdK hx hb0 hK hP 1 0 (by decide) mE_1 rfl (vp_lit (4 : Int32) (by decide) (by decide)) 4 rfl dX8_ends_75 ?_
      refine lv_sipush (v := (5400 : Int32)) hx hb0 dX8_ends_76 (by decide) ?_
      refine lv_iadd hx hb0 dX8_ends_79 ?_
      refine gx_iastK hx hb0 hK hP hD hS 1 0 (by decide) mE_1 rfl (vp_lit (88 : Int32) (by decide) (by decide)) 88 rfl dX8_ends_80 (fun h_4 eh_4 H locs hP hD hS => ?_)
      have he := he h_4 eh_4
      refine lv_aload_n hx hb0 dX8_ends_81 rfl (lv_at hl 0 rfl) ?_
      refine gx_get hx hb0 hts in_RX8 hown hK hP 0 (by decide) (mE_0 _) rfl 0 (by decide) fl_RX8_7 rfl dX8_ends_82 ?_
      refine lv_bipush (v := (89 : Int32)) hx hb0 dX8_ends_85 (by decide) ?_
      refine lv_aload_n hx hb0 dX8_ends_87 rfl (lv_at hl 0 rfl) ?_
      refine gx_vi ⟨hx, hb0, hml, hown, hts⟩ (gKM_keep _) hk hK hP hD hS 0 [] [.int (89 : Int32), .ref (ad 1)] (c_X8_belief l dC dI P ad  h_4 _ he) gm_X8_belief im_yX8_belief se_yX8_belief ml_RX8_102 (by decide) (mE_0 _) rfl rfl rfl ⟨Nat.le_of_ble_eq_true rfl, Nat.le_of_ble_eq_true rfl⟩ rfl hl.1 rfl (Nat.le_of_ble_eq_true rfl) dX8_ends_88 ⟨Nat.zero_le _, Nat.zero_le _⟩ (fun r_5 h_6 he H locs hP hD hS => ?_)
      refine gx_iastK hx hb0 hK hP hD hS 1 0 (by decide) mE_1 rfl (vp_lit (89 : Int32) (by decide) (by decide)) 89 rfl dX8_ends_91 (fun h_7 eh_7 H locs hP hD hS => ?_)
      have he := he h_7 eh_7
      refine lv_aload_n hx hb0 dX8_ends_92 rfl (lv_at hl 0 rfl) ?_
      refine gx_get hx hb0 hts in_RX8 hown hK hP 0 (by decide) (mE_0 _) rfl 0 (by decide) fl_RX8_7 rfl dX8_ends_93 ?_
      refine lv_bipush (v := (90 : Int32)) hx hb0 dX8_ends_96 (by decide) ?_
      refine lv_aload_n hx hb0 dX8_ends_98 rfl (lv_at hl 0 rfl) ?_
      refine gx_get hx hb0 hts in_RX8 hown hK hP 0 (by decide) (mE_0 _) rfl 0 (by decide) fl_RX8_7 rfl dX8_ends_99 ?_
      refine lv_bipush (v := (12 : Int32)) hx hb0 dX8_ends_102 (by decide) ?_
      refine gx_ialdK hx hb0 hK hP 1 0 (by decide) mE_1 rfl (vp_lit (12 : Int32) (by decide) (by decide)) 12 rfl dX8_ends_104 ?_
      refine gx_iastK hx hb0 hK hP hD hS 1 0 (by decide) mE_1 rfl (vp_lit (90 : Int32) (by decide) (by decide)) 90 rfl dX8_ends_105 (fun h_8 eh_8 H locs hP hD hS => ?_)
      have he := he h_8 eh_8
      refine lv_aload_n hx hb0 dX8_ends_106 rfl (lv_at hl 0 rfl) ?_
      refine gx_get hx hb0 hts in_RX8 hown hK hP 0 (by decide) (mE_0 _) rfl 0 (by decide) fl_RX8_7 rfl dX8_ends_107 ?_
      refine lv_bipush (v := (14 : Int32)) hx hb0 dX8_ends_110 (by decide) ?_
      refine lv_dup2_11 hx hb0 dX8_ends_112 rfl rfl ?_
      refine gx_ialdK hx hb0 hK hP 1 0 (by decide) mE_1 rfl (vp_lit (14 : Int32) (by decide) (by decide)) 14 rfl dX8_ends_113 ?_
      refine lv_aload_n hx hb0 dX8_ends_114 rfl (lv_at hl 0 rfl) ?_
      refine gx_get hx hb0 hts in_RX8 hown hK hP 0 (by decide) (mE_0 _) rfl 0 (by decide) fl_RX8_7 rfl dX8_ends_115 ?_
      refine lv_bipush (v := (14 : Int32)) hx hb0 dX8_ends_118 (by decide) ?_
      refine gx_ialdK hx hb0 hK hP 1 0 (by decide) mE_1 rfl (vp_lit (14 : Int32) (by decide) (by decide)) 14 rfl dX8_ends_120 ?_
      refine lv_bipush (v := (8 : Int32)) hx hb0 dX8_ends_121 (by decide) ?_
      refine lv_icmp_ge (tgt := 130) hx hb0 dX8_ends_123 (by decide) (fun c_9 => ?_) (fun c_9 => ?_)
      · have he := he.1 c_9
        refine lv_iconst (v := (0 : Int32)) hx hb0 dX8_ends_130 (by decide) ?_
        refine lv_iadd hx hb0 dX8_ends_131 ?_
        refine gx_iastK hx hb0 hK hP hD hS 1 0 (by decide) mE_1 rfl (vp_lit (14 : Int32) (by decide) (by decide)) 14 rfl dX8_ends_132 (fun h_10 eh_10 H locs hP hD hS => ?_)
        have he := he h_10 eh_10
        refine lv_iconst (v := (0 : Int32)) hx hb0 dX8_ends_133 (by decide) ?_
        refine lv_istore_n (lv' := [(1, .int (0 : Int32)), (0, .ref (ad 0))]) hx hb0 dX8_ends_134 rfl hl (by decide) rfl (fun ls hl => ?_)
        obtain ⟨n_43, he⟩ := he
        exact l_X8_ends_135 l dC dI P ad  hx hb0 hr hlocks hml hown hts hK hk Q n_43 (0 : Int32) h_10 he _ _ ls hP hD hS (lv_sub hl [1, 0] rfl)
      · have he := he.2 c_9
        refine lv_iconst (v := (1 : Int32)) hx hb0 dX8_ends_126 (by decide) ?_
        refine lv_goto (tgt := 131) hx hb0 dX8_ends_127 (by decide) ?_
        refine lv_iadd hx hb0 dX8_ends_131 ?_
        refine gx_iastK hx hb0 hK hP hD hS 1 0 (by decide) mE_1 rfl (vp_lit (14 : Int32) (by decide) (by decide)) 14 rfl dX8_ends_132 (fun h_44 eh_44 H locs hP hD hS => ?_)
        have he := he h_44 eh_44
        refine lv_iconst (v := (0 : Int32)) hx hb0 dX8_ends_133 (by decide) ?_
        refine lv_istore_n (lv' := [(1, .int (0 : Int32)), (0, .ref (ad 0))]) hx hb0 dX8_ends_134 rfl hl (by decide) rfl (fun ls hl => ?_)
        obtain ⟨n_45, he⟩ := he
        exact l_X8_ends_135 l dC dI P ad  hx hb0 hr hlocks hml hown hts hK hk Q n_45 (0 : Int32) h_44 he _ _ ls hP hD hS (lv_sub hl [1, 0] rfl)
    · have he := he.2 c_2
      refine lv_aload_n hx hb0 dX8_ends_24 rfl (lv_at hl 0 rfl) ?_
      refine gx_get hx hb0 hts in_RX8 hown hK hP 0 (by decide) (mE_0 _) rfl 0 (by decide) fl_RX8_7 rfl dX8_ends_25 ?_
      refine lv_bipush (v := (87 : Int32)) hx hb0 dX8_ends_28 (by decide) ?_
      refine lv_iload_n hx hb0 dX8_ends_30 rfl (lv_at hl 1 rfl) ?_
      refine lv_iadd hx hb0 dX8_ends_31 ?_
      refine lv_aload_n hx hb0 dX8_ends_32 rfl (lv_at hl 0 rfl) ?_
      refine gx_get hx hb0 hts in_RX8 hown hK hP 0 (by decide) (mE_0 _) rfl 0 (by decide) fl_RX8_7 rfl dX8_ends_33 ?_
      refine lv_bipush (v := (87 : Int32)) hx hb0 dX8_ends_36 (by decide) ?_
      refine lv_iload_n hx hb0 dX8_ends_38 rfl (lv_at hl 1 rfl) ?_
      refine lv_iadd hx hb0 dX8_ends_39 ?_
      refine lv_iconst (v := (4 : Int32)) hx hb0 dX8_ends_40 (by decide) ?_
      refine lv_isub hx hb0 dX8_ends_41 ?_
      obtain ⟨v_46, he⟩ := he
      refine gx_iald hx hb0 hK hP 1 0 (by decide) mE_1 rfl v_46 dX8_ends_42 ?_
      obtain ⟨v_48, he⟩ := he
      refine gx_iast hx hb0 hK hP hD hS 1 0 (by decide) mE_1 rfl v_48 dX8_ends_43 (fun h_47 eh_47 H locs hP hD hS => ?_)
      have he := he h_47 eh_47
      obtain ⟨x_49, ex_49⟩ : ∃ y : Int32, y = y1 + (-1) := ⟨_, rfl⟩
      have he := he x_49 ex_49
      refine lv_iinc (v := x_49) (lv' := [(1, .int x_49), (0, .ref (ad 0))]) hx hb0 dX8_ends_44 hl (k := 1) rfl (by rw [ex_49]; rfl) (by decide) rfl (fun ls hl => ?_)
      refine lv_goto (tgt := 19) hx hb0 dX8_ends_47 (by decide) ?_
      exact ih x_49 h_47 he _ _ ls hP hD hS (lv_sub hl [1, 0] rfl)
set_option maxHeartbeats 4000000 in
set_option maxRecDepth 100000 in
theorem c_X8_ends (l : Launch) (dC : Nat → ClassId) (dI : Nat → Nat → Nat) (P : gP) (ad : Nat → Nat) (h0 : Hp) (Q : Int32 → Hp → Prop) (he : F_X8_ends  h0 Q) : Met l yX8_ends (Cond.code yX8_ends cX8_ends 3 (some .int) :: TB) rm_X8_ends (gPc (dC, dI) vwCl (tyC P) 7 (mE P ad) ad gKM h0 [.ref (ad 0)]) (gQi (dC, dI) vwCl (tyC P) 7 (mE P ad) ad Q) 0 0 (gA 7 ad) := by
  refine gx_start (by decide) (Nat.le_of_ble_eq_true rfl) (fun p e s m below meth c ls hx hb0 hr hlocks hml hown hts hK hk hP hD hS hl => ?_)
  have hl : lv_has ls 3 [(0, .ref (ad 0))] := hl
  have hown : s.vm.findClass RX8 = some m.cls := hown
  unfold F_X8_ends at he
  refine lv_aload_n hx hb0 dX8_ends_0 rfl (lv_at hl 0 rfl) ?_
  refine gx_get hx hb0 hts in_RX8 hown hK hP 0 (by decide) (mE_0 _) rfl 0 (by decide) fl_RX8_7 rfl dX8_ends_1 ?_
  refine lv_bipush (v := (9 : Int32)) hx hb0 dX8_ends_4 (by decide) ?_
  refine gx_ialdK hx hb0 hK hP 1 0 (by decide) mE_1 rfl (vp_lit (9 : Int32) (by decide) (by decide)) 9 rfl dX8_ends_6 ?_
  refine lv_sipush (v := (999 : Int32)) hx hb0 dX8_ends_7 (by decide) ?_
  refine lv_icmp_ne (tgt := 16) hx hb0 dX8_ends_10 (by decide) (fun c_1 => ?_) (fun c_1 => ?_)
  · have he := he.2 c_1
    refine lv_bipush (v := (31 : Int32)) hx hb0 dX8_ends_16 (by decide) ?_
    refine lv_istore_n (lv' := [(1, .int (31 : Int32)), (0, .ref (ad 0))]) hx hb0 dX8_ends_18 rfl hl (by decide) rfl (fun ls hl => ?_)
    obtain ⟨n_50, he⟩ := he
    exact l_X8_ends_19 l dC dI P ad  hx hb0 hr hlocks hml hown hts hK hk Q n_50 (31 : Int32) h0 he _ _ ls hP hD hS (lv_sub hl [1, 0] rfl)
  · have he := he.1 c_1
    refine lv_bipush (v := (-5 : Int32)) hx hb0 dX8_ends_13 (by decide) ?_
    exact gx_iret hx hb0 hr hlocks hK hP hD hS he dX8_ends_15
theorem gm_X8_ends : gMeth yX8_ends cX8_ends 3 (some .int) 0 := ⟨⟨by decide, by decide, by decide +kernel⟩, ini_RX8, co_yX8_ends⟩
abbrev rm_X8_comes : Room := { frames := 2, cells := 0, slots := 0, locals := 42 }
set_option maxHeartbeats 4000000 in
set_option maxRecDepth 100000 in
theorem c_X8_comes (l : Launch) (dC : Nat → ClassId) (dI : Nat → Nat → Nat) (P : gP) (ad : Nat → Nat) (x1 : Int32) (h0 : Hp) (Q : Int32 → Hp → Prop) (he : F_X8_comes x1 h0 Q) : Met l yX8_comes (Cond.code yX8_comes cX8_comes 2 (some .int) :: TB) rm_X8_comes (gPc (dC, dI) vwCl (tyC P) 7 (mE P ad) ad gKM h0 [.ref (ad 0), .int x1]) (gQi (dC, dI) vwCl (tyC P) 7 (mE P ad) ad Q) 0 0 (gA 7 ad) := by
  refine gx_start (by decide) (Nat.le_of_ble_eq_true rfl) (fun p e s m below meth c ls hx hb0 hr hlocks hml hown hts hK hk hP hD hS hl => ?_)
  have hl : lv_has ls 2 [(0, .ref (ad 0)), (1, .int x1)] := hl
  have hown : s.vm.findClass RX8 = some m.cls := hown
  unfold F_X8_comes at he
  refine lv_iload_n hx hb0 dX8_comes_0 rfl (lv_at hl 1 rfl) ?_
  refine gx_si ⟨hx, hb0, hml, hown, hts⟩ (gKM_keep _) hk hK hP hD hS [.int x1] [] (c_X8_isLatitude l dC dI P ad x1 h0 _ he) gm_X8_isLatitude st_yX8_isLatitude ml_RX8_106 rfl rfl ⟨Nat.le_of_ble_eq_true rfl, Nat.le_of_ble_eq_true rfl⟩ rfl hl.1 rfl (Nat.le_of_ble_eq_true rfl) dX8_comes_1 ⟨Nat.zero_le _, Nat.zero_le _⟩ (fun r_1 h_2 he H locs hP hD hS => ?_)
  refine lv_if_ne (tgt := 10) hx hb0 dX8_comes_4 (by decide) (fun c_3 => ?_) (fun c_3 => ?_)
  · have he := he.2 c_3
    refine lv_aload_n hx hb0 dX8_comes_10 rfl (lv_at hl 0 rfl) ?_
    refine gx_get hx hb0 hts in_RX8 hown hK hP 0 (by decide) (mE_0 _) rfl 0 (by decide) fl_RX8_7 rfl dX8_comes_11 ?_
    refine lv_bipush (v := (13 : Int32)) hx hb0 dX8_comes_14 (by decide) ?_
    refine gx_ialdK hx hb0 hK hP 1 0 (by decide) mE_1 rfl (vp_lit (13 : Int32) (by decide) (by decide)) 13 rfl dX8_comes_16 ?_
    refine lv_bipush (v := (8 : Int32)) hx hb0 dX8_comes_17 (by decide) ?_
    refine lv_icmp_ne (tgt := 25) hx hb0 dX8_comes_19 (by decide) (fun c_4 => ?_) (fun c_4 => ?_)
    · have he := he.2 c_4
      refine lv_aload_n hx hb0 dX8_comes_25 rfl (lv_at hl 0 rfl) ?_
      refine gx_get hx hb0 hts in_RX8 hown hK hP 0 (by decide) (mE_0 _) rfl 0 (by decide) fl_RX8_7 rfl dX8_comes_26 ?_
      refine lv_bipush (v := (15 : Int32)) hx hb0 dX8_comes_29 (by decide) ?_
      refine lv_aload_n hx hb0 dX8_comes_31 rfl (lv_at hl 0 rfl) ?_
      refine gx_get hx hb0 hts in_RX8 hown hK hP 0 (by decide) (mE_0 _) rfl 0 (by decide) fl_RX8_7 rfl dX8_comes_32 ?_
      refine lv_bipush (v := (13 : Int32)) hx hb0 dX8_comes_35 (by decide) ?_
      refine gx_ialdK hx hb0 hK hP 1 0 (by decide) mE_1 rfl (vp_lit (13 : Int32) (by decide) (by decide)) 13 rfl dX8_comes_37 ?_
      refine lv_iadd hx hb0 dX8_comes_38 ?_
      refine lv_iload_n hx hb0 dX8_comes_39 rfl (lv_at hl 1 rfl) ?_
      obtain ⟨v_6, he⟩ := he
      refine gx_iast hx hb0 hK hP hD hS 1 0 (by decide) mE_1 rfl v_6 dX8_comes_40 (fun h_5 eh_5 H locs hP hD hS => ?_)
      have he := he h_5 eh_5
      refine lv_aload_n hx hb0 dX8_comes_41 rfl (lv_at hl 0 rfl) ?_
      refine gx_get hx hb0 hts in_RX8 hown hK hP 0 (by decide) (mE_0 _) rfl 0 (by decide) fl_RX8_7 rfl dX8_comes_42 ?_
      refine lv_bipush (v := (13 : Int32)) hx hb0 dX8_comes_45 (by decide) ?_
      refine lv_dup2_11 hx hb0 dX8_comes_47 rfl rfl ?_
      refine gx_ialdK hx hb0 hK hP 1 0 (by decide) mE_1 rfl (vp_lit (13 : Int32) (by decide) (by decide)) 13 rfl dX8_comes_48 ?_
      refine lv_iconst (v := (1 : Int32)) hx hb0 dX8_comes_49 (by decide) ?_
      refine lv_iadd hx hb0 dX8_comes_50 ?_
      refine gx_iastK hx hb0 hK hP hD hS 1 0 (by decide) mE_1 rfl (vp_lit (13 : Int32) (by decide) (by decide)) 13 rfl dX8_comes_51 (fun h_7 eh_7 H locs hP hD hS => ?_)
      have he := he h_7 eh_7
      refine lv_aload_n hx hb0 dX8_comes_52 rfl (lv_at hl 0 rfl) ?_
      refine gx_get hx hb0 hts in_RX8 hown hK hP 0 (by decide) (mE_0 _) rfl 0 (by decide) fl_RX8_7 rfl dX8_comes_53 ?_
      refine lv_bipush (v := (13 : Int32)) hx hb0 dX8_comes_56 (by decide) ?_
      refine gx_ialdK hx hb0 hK hP 1 0 (by decide) mE_1 rfl (vp_lit (13 : Int32) (by decide) (by decide)) 13 rfl dX8_comes_58 ?_
      refine lv_iconst (v := (1 : Int32)) hx hb0 dX8_comes_59 (by decide) ?_
      refine lv_isub hx hb0 dX8_comes_60 ?_
      exact gx_iret hx hb0 hr hlocks hK hP hD hS he dX8_comes_61
    · have he := he.1 c_4
      refine lv_bipush (v := (-4 : Int32)) hx hb0 dX8_comes_22 (by decide) ?_
      exact gx_iret hx hb0 hr hlocks hK hP hD hS he dX8_comes_24
  · have he := he.1 c_3
    refine lv_bipush (v := (-2 : Int32)) hx hb0 dX8_comes_7 (by decide) ?_
    exact gx_iret hx hb0 hr hlocks hK hP hD hS he dX8_comes_9
theorem gm_X8_comes : gMeth yX8_comes cX8_comes 2 (some .int) 1 := ⟨⟨by decide, by decide, by decide +kernel⟩, ini_RX8, co_yX8_comes⟩
abbrev rm_X8_clouds : Room := { frames := 2, cells := 0, slots := 0, locals := 43 }
set_option maxHeartbeats 4000000 in
set_option maxRecDepth 100000 in
theorem c_X8_clouds (l : Launch) (dC : Nat → ClassId) (dI : Nat → Nat → Nat) (P : gP) (ad : Nat → Nat) (x1 : Int32) (h0 : Hp) (Q : Int32 → Hp → Prop) (he : F_X8_clouds x1 h0 Q) : Met l yX8_clouds (Cond.code yX8_clouds cX8_clouds 2 (some .int) :: TB) rm_X8_clouds (gPc (dC, dI) vwCl (tyC P) 7 (mE P ad) ad gKM h0 [.ref (ad 0), .int x1]) (gQi (dC, dI) vwCl (tyC P) 7 (mE P ad) ad Q) 0 0 (gA 7 ad) := by
  refine gx_start (by decide) (Nat.le_of_ble_eq_true rfl) (fun p e s m below meth c ls hx hb0 hr hlocks hml hown hts hK hk hP hD hS hl => ?_)
  have hl : lv_has ls 2 [(0, .ref (ad 0)), (1, .int x1)] := hl
  have hown : s.vm.findClass RX8 = some m.cls := hown
  unfold F_X8_clouds at he
  refine lv_aload_n hx hb0 dX8_clouds_0 rfl (lv_at hl 0 rfl) ?_
  refine lv_iload_n hx hb0 dX8_clouds_1 rfl (lv_at hl 1 rfl) ?_
  refine gx_vi ⟨hx, hb0, hml, hown, hts⟩ (gKM_keep _) hk hK hP hD hS 0 [.int x1] [] (c_X8_isStar l dC dI P ad x1 h0 _ he) gm_X8_isStar im_yX8_isStar se_yX8_isStar ml_RX8_70 (by decide) (mE_0 _) rfl rfl rfl ⟨Nat.le_of_ble_eq_true rfl, Nat.le_of_ble_eq_true rfl⟩ rfl hl.1 rfl (Nat.le_of_ble_eq_true rfl) dX8_clouds_2 ⟨Nat.zero_le _, Nat.zero_le _⟩ (fun r_1 h_2 he H locs hP hD hS => ?_)
  refine lv_if_ne (tgt := 10) hx hb0 dX8_clouds_5 (by decide) (fun c_3 => ?_) (fun c_3 => ?_)
  · have he := he.2 c_3
    refine lv_aload_n hx hb0 dX8_clouds_10 rfl (lv_at hl 0 rfl) ?_
    refine gx_get hx hb0 hts in_RX8 hown hK hP 0 (by decide) (mE_0 _) rfl 0 (by decide) fl_RX8_7 rfl dX8_clouds_11 ?_
    refine lv_bipush (v := (23 : Int32)) hx hb0 dX8_clouds_14 (by decide) ?_
    refine lv_iload_n hx hb0 dX8_clouds_16 rfl (lv_at hl 1 rfl) ?_
    refine lv_iadd hx hb0 dX8_clouds_17 ?_
    refine lv_iconst (v := (1 : Int32)) hx hb0 dX8_clouds_18 (by decide) ?_
    refine lv_aload_n hx hb0 dX8_clouds_19 rfl (lv_at hl 0 rfl) ?_
    refine gx_get hx hb0 hts in_RX8 hown hK hP 0 (by decide) (mE_0 _) rfl 0 (by decide) fl_RX8_7 rfl dX8_clouds_20 ?_
    refine lv_bipush (v := (23 : Int32)) hx hb0 dX8_clouds_23 (by decide) ?_
    refine lv_iload_n hx hb0 dX8_clouds_25 rfl (lv_at hl 1 rfl) ?_
    refine lv_iadd hx hb0 dX8_clouds_26 ?_
    obtain ⟨v_4, he⟩ := he
    refine gx_iald hx hb0 hK hP 1 0 (by decide) mE_1 rfl v_4 dX8_clouds_27 ?_
    refine lv_isub hx hb0 dX8_clouds_28 ?_
    obtain ⟨v_6, he⟩ := he
    refine gx_iast hx hb0 hK hP hD hS 1 0 (by decide) mE_1 rfl v_6 dX8_clouds_29 (fun h_5 eh_5 H locs hP hD hS => ?_)
    have he := he h_5 eh_5
    refine lv_aload_n hx hb0 dX8_clouds_30 rfl (lv_at hl 0 rfl) ?_
    refine gx_get hx hb0 hts in_RX8 hown hK hP 0 (by decide) (mE_0 _) rfl 0 (by decide) fl_RX8_7 rfl dX8_clouds_31 ?_
    refine lv_bipush (v := (23 : Int32)) hx hb0 dX8_clouds_34 (by decide) ?_
    refine lv_iload_n hx hb0 dX8_clouds_36 rfl (lv_at hl 1 rfl) ?_
    refine lv_iadd hx hb0 dX8_clouds_37 ?_
    obtain ⟨v_7, he⟩ := he
    refine gx_iald hx hb0 hK hP 1 0 (by decide) mE_1 rfl v_7 dX8_clouds_38 ?_
    exact gx_iret hx hb0 hr hlocks hK hP hD hS he dX8_clouds_39
  · have he := he.1 c_3
    refine lv_iconst (v := (-1 : Int32)) hx hb0 dX8_clouds_8 (by decide) ?_
    exact gx_iret hx hb0 hr hlocks hK hP hD hS he dX8_clouds_9
theorem gm_X8_clouds : gMeth yX8_clouds cX8_clouds 2 (some .int) 1 := ⟨⟨by decide, by decide, by decide +kernel⟩, ini_RX8, co_yX8_clouds⟩
abbrev rm_X8_sleeps : Room := { frames := 2, cells := 0, slots := 0, locals := 42 }
set_option maxHeartbeats 4000000 in
set_option maxRecDepth 100000 in
theorem c_X8_sleeps (l : Launch) (dC : Nat → ClassId) (dI : Nat → Nat → Nat) (P : gP) (ad : Nat → Nat) (x1 : Int32) (h0 : Hp) (Q : Int32 → Hp → Prop) (he : F_X8_sleeps x1 h0 Q) : Met l yX8_sleeps (Cond.code yX8_sleeps cX8_sleeps 2 (some .int) :: TB) rm_X8_sleeps (gPc (dC, dI) vwCl (tyC P) 7 (mE P ad) ad gKM h0 [.ref (ad 0), .int x1]) (gQi (dC, dI) vwCl (tyC P) 7 (mE P ad) ad Q) 0 0 (gA 7 ad) := by
  refine gx_start (by decide) (Nat.le_of_ble_eq_true rfl) (fun p e s m below meth c ls hx hb0 hr hlocks hml hown hts hK hk hP hD hS hl => ?_)
  have hl : lv_has ls 2 [(0, .ref (ad 0)), (1, .int x1)] := hl
  have hown : s.vm.findClass RX8 = some m.cls := hown
  unfold F_X8_sleeps at he
  refine lv_iload_n hx hb0 dX8_sleeps_0 rfl (lv_at hl 1 rfl) ?_
  refine gx_si ⟨hx, hb0, hml, hown, hts⟩ (gKM_keep _) hk hK hP hD hS [.int x1] [] (c_X8_isNavigator l dC dI P ad x1 h0 _ he) gm_X8_isNavigator st_yX8_isNavigator ml_RX8_67 rfl rfl ⟨Nat.le_of_ble_eq_true rfl, Nat.le_of_ble_eq_true rfl⟩ rfl hl.1 rfl (Nat.le_of_ble_eq_true rfl) dX8_sleeps_1 ⟨Nat.zero_le _, Nat.zero_le _⟩ (fun r_1 h_2 he H locs hP hD hS => ?_)
  refine lv_if_ne (tgt := 9) hx hb0 dX8_sleeps_4 (by decide) (fun c_3 => ?_) (fun c_3 => ?_)
  · have he := he.2 c_3
    refine lv_aload_n hx hb0 dX8_sleeps_9 rfl (lv_at hl 0 rfl) ?_
    refine lv_iload_n hx hb0 dX8_sleeps_10 rfl (lv_at hl 1 rfl) ?_
    refine lv_bipush (v := (7 : Int32)) hx hb0 dX8_sleeps_11 (by decide) ?_
    refine gx_vi ⟨hx, hb0, hml, hown, hts⟩ (gKM_keep _) hk hK hP hD hS 0 [.int x1, .int (7 : Int32)] [] (c_X8_number l dC dI P ad x1 (7 : Int32) h_2 _ he) gm_X8_number im_yX8_number se_yX8_number ml_RX8_54 (by decide) (mE_0 _) rfl rfl rfl ⟨Nat.le_of_ble_eq_true rfl, Nat.le_of_ble_eq_true rfl⟩ rfl hl.1 rfl (Nat.le_of_ble_eq_true rfl) dX8_sleeps_13 ⟨Nat.zero_le _, Nat.zero_le _⟩ (fun r_4 h_5 he H locs hP hD hS => ?_)
    refine lv_iconst (v := (2 : Int32)) hx hb0 dX8_sleeps_16 (by decide) ?_
    refine lv_icmp_ne (tgt := 23) hx hb0 dX8_sleeps_17 (by decide) (fun c_6 => ?_) (fun c_6 => ?_)
    · have he := he.2 c_6
      refine lv_aload_n hx hb0 dX8_sleeps_23 rfl (lv_at hl 0 rfl) ?_
      refine lv_iload_n hx hb0 dX8_sleeps_24 rfl (lv_at hl 1 rfl) ?_
      refine lv_bipush (v := (7 : Int32)) hx hb0 dX8_sleeps_25 (by decide) ?_
      refine lv_iconst (v := (1 : Int32)) hx hb0 dX8_sleeps_27 (by decide) ?_
      refine lv_aload_n hx hb0 dX8_sleeps_28 rfl (lv_at hl 0 rfl) ?_
      refine lv_iload_n hx hb0 dX8_sleeps_29 rfl (lv_at hl 1 rfl) ?_
      refine lv_bipush (v := (7 : Int32)) hx hb0 dX8_sleeps_30 (by decide) ?_
      refine gx_vi ⟨hx, hb0, hml, hown, hts⟩ (gKM_keep _) hk hK hP hD hS 0 [.int x1, .int (7 : Int32)] [.int (1 : Int32), .int (7 : Int32), .int x1, .ref (ad 0)] (c_X8_number l dC dI P ad x1 (7 : Int32) h_5 _ he) gm_X8_number im_yX8_number se_yX8_number ml_RX8_54 (by decide) (mE_0 _) rfl rfl rfl ⟨Nat.le_of_ble_eq_true rfl, Nat.le_of_ble_eq_true rfl⟩ rfl hl.1 rfl (Nat.le_of_ble_eq_true rfl) dX8_sleeps_32 ⟨Nat.zero_le _, Nat.zero_le _⟩ (fun r_7 h_8 he H locs hP hD hS => ?_)
      refine lv_isub hx hb0 dX8_sleeps_35 ?_
      refine gx_vv ⟨hx, hb0, hml, hown, hts⟩ (gKM_keep _) hk hK hP hD hS 0 [.int x1, .int (7 : Int32), .int ((1 : Int32) - r_7)] [] (c_X8_setOf l dC dI P ad x1 (7 : Int32) ((1 : Int32) - r_7) h_8 _ he) gm_X8_setOf im_yX8_setOf se_yX8_setOf ml_RX8_28 (by decide) (mE_0 _) rfl rfl rfl ⟨Nat.le_of_ble_eq_true rfl, Nat.le_of_ble_eq_true rfl⟩ rfl hl.1 rfl (Nat.le_of_ble_eq_true rfl) dX8_sleeps_36 ⟨Nat.zero_le _, Nat.zero_le _⟩ (fun h_10 he H locs hP hD hS => ?_)
      refine lv_aload_n hx hb0 dX8_sleeps_39 rfl (lv_at hl 0 rfl) ?_
      refine lv_iload_n hx hb0 dX8_sleeps_40 rfl (lv_at hl 1 rfl) ?_
      refine lv_bipush (v := (7 : Int32)) hx hb0 dX8_sleeps_41 (by decide) ?_
      refine gx_vi ⟨hx, hb0, hml, hown, hts⟩ (gKM_keep _) hk hK hP hD hS 0 [.int x1, .int (7 : Int32)] [] (c_X8_number l dC dI P ad x1 (7 : Int32) h_10 _ he) gm_X8_number im_yX8_number se_yX8_number ml_RX8_54 (by decide) (mE_0 _) rfl rfl rfl ⟨Nat.le_of_ble_eq_true rfl, Nat.le_of_ble_eq_true rfl⟩ rfl hl.1 rfl (Nat.le_of_ble_eq_true rfl) dX8_sleeps_43 ⟨Nat.zero_le _, Nat.zero_le _⟩ (fun r_11 h_12 he H locs hP hD hS => ?_)
      exact gx_iret hx hb0 hr hlocks hK hP hD hS he dX8_sleeps_46
    · have he := he.1 c_6
      refine lv_bipush (v := (-5 : Int32)) hx hb0 dX8_sleeps_20 (by decide) ?_
      exact gx_iret hx hb0 hr hlocks hK hP hD hS he dX8_sleeps_22
  · have he := he.1 c_3
    refine lv_iconst (v := (-1 : Int32)) hx hb0 dX8_sleeps_7 (by decide) ?_
    exact gx_iret hx hb0 hr hlocks hK hP hD hS he dX8_sleeps_8
theorem gm_X8_sleeps : gMeth yX8_sleeps cX8_sleeps 2 (some .int) 1 := ⟨⟨by decide, by decide, by decide +kernel⟩, ini_RX8, co_yX8_sleeps⟩
abbrev rm_X8_aims : Room := { frames := 2, cells := 0, slots := 0, locals := 42 }
set_option maxHeartbeats 4000000 in
set_option maxRecDepth 100000 in
theorem c_X8_aims (l : Launch) (dC : Nat → ClassId) (dI : Nat → Nat → Nat) (P : gP) (ad : Nat → Nat) (x1 : Int32) (h0 : Hp) (Q : Int32 → Hp → Prop) (he : F_X8_aims x1 h0 Q) : Met l yX8_aims (Cond.code yX8_aims cX8_aims 3 (some .int) :: TB) rm_X8_aims (gPc (dC, dI) vwCl (tyC P) 7 (mE P ad) ad gKM h0 [.ref (ad 0), .int x1]) (gQi (dC, dI) vwCl (tyC P) 7 (mE P ad) ad Q) 0 0 (gA 7 ad) := by
  refine gx_start (by decide) (Nat.le_of_ble_eq_true rfl) (fun p e s m below meth c ls hx hb0 hr hlocks hml hown hts hK hk hP hD hS hl => ?_)
  have hl : lv_has ls 3 [(0, .ref (ad 0)), (1, .int x1)] := hl
  have hown : s.vm.findClass RX8 = some m.cls := hown
  unfold F_X8_aims at he
  refine lv_iload_n hx hb0 dX8_aims_0 rfl (lv_at hl 1 rfl) ?_
  refine gx_si ⟨hx, hb0, hml, hown, hts⟩ (gKM_keep _) hk hK hP hD hS [.int x1] [] (c_X8_isLatitude l dC dI P ad x1 h0 _ he) gm_X8_isLatitude st_yX8_isLatitude ml_RX8_106 rfl rfl ⟨Nat.le_of_ble_eq_true rfl, Nat.le_of_ble_eq_true rfl⟩ rfl hl.1 rfl (Nat.le_of_ble_eq_true rfl) dX8_aims_1 ⟨Nat.zero_le _, Nat.zero_le _⟩ (fun r_1 h_2 he H locs hP hD hS => ?_)
  refine lv_if_ne (tgt := 10) hx hb0 dX8_aims_4 (by decide) (fun c_3 => ?_) (fun c_3 => ?_)
  · have he := he.2 c_3
    refine lv_aload_n hx hb0 dX8_aims_10 rfl (lv_at hl 0 rfl) ?_
    refine gx_get hx hb0 hts in_RX8 hown hK hP 0 (by decide) (mE_0 _) rfl 0 (by decide) fl_RX8_7 rfl dX8_aims_11 ?_
    refine lv_bipush (v := (7 : Int32)) hx hb0 dX8_aims_14 (by decide) ?_
    refine gx_ialdK hx hb0 hK hP 1 0 (by decide) mE_1 rfl (vp_lit (7 : Int32) (by decide) (by decide)) 7 rfl dX8_aims_16 ?_
    refine lv_topi (fun x_4 ex_4 => ?_)
    have he := he x_4 ex_4
    refine lv_istore_n (lv' := [(2, .int x_4), (0, .ref (ad 0)), (1, .int x1)]) hx hb0 dX8_aims_17 rfl hl (by decide) rfl (fun ls hl => ?_)
    refine lv_aload_n hx hb0 dX8_aims_18 rfl (lv_at hl 1 rfl) ?_
    refine gx_get hx hb0 hts in_RX8 hown hK hP 0 (by decide) (mE_0 _) rfl 0 (by decide) fl_RX8_7 rfl dX8_aims_19 ?_
    refine lv_bipush (v := (7 : Int32)) hx hb0 dX8_aims_22 (by decide) ?_
    refine lv_iload_n hx hb0 dX8_aims_24 rfl (lv_at hl 2 rfl) ?_
    refine gx_iastK hx hb0 hK hP hD hS 1 0 (by decide) mE_1 rfl (vp_lit (7 : Int32) (by decide) (by decide)) 7 rfl dX8_aims_25 (fun h_5 eh_5 H locs hP hD hS => ?_)
    have he := he h_5 eh_5
    refine lv_iload_n hx hb0 dX8_aims_26 rfl (lv_at hl 0 rfl) ?_
    refine lv_sipush (v := (5400 : Int32)) hx hb0 dX8_aims_27 (by decide) ?_
    refine lv_iadd hx hb0 dX8_aims_30 ?_
    exact gx_iret hx hb0 hr hlocks hK hP hD hS he dX8_aims_31
  · have he := he.1 c_3
    refine lv_bipush (v := (-2 : Int32)) hx hb0 dX8_aims_7 (by decide) ?_
    exact gx_iret hx hb0 hr hlocks hK hP hD hS he dX8_aims_9
theorem gm_X8_aims : gMeth yX8_aims cX8_aims 3 (some .int) 1 := ⟨⟨by decide, by decide, by decide +kernel⟩, ini_RX8, co_yX8_aims⟩
abbrev rm_X8_leastOf : Room := { frames := 0, cells := 0, slots := 0, locals := 0 }
set_option maxHeartbeats 4000000 in
set_option maxRecDepth 100000 in
theorem c_X8_leastOf (l : Launch) (dC : Nat → ClassId) (dI : Nat → Nat → Nat) (P : gP) (ad : Nat → Nat) (x0 : Int32) (h0 : Hp) (Q : Int32 → Hp → Prop) (he : F_X8_leastOf x0 h0 Q) : Met l yX8_leastOf (Cond.code yX8_leastOf cX8_leastOf 1 (some .int) :: TB) rm_X8_leastOf (gPc (dC, dI) vwCl (tyC P) 7 (mE P ad) ad gKM h0 [.int x0]) (gQi (dC, dI) vwCl (tyC P) 7 (mE P ad) ad Q) 0 0 (gA 7 ad) := by
  refine gx_start (by decide) (Nat.le_of_ble_eq_true rfl) (fun p e s m below meth c ls hx hb0 hr hlocks hml hown hts hK hk hP hD hS hl => ?_)
  have hl : lv_has ls 1 [(0, .int x0)] := hl
  have hown : s.vm.findClass RX8 = some m.cls := hown
  unfold F_X8_leastOf at he
  refine lv_iload_n hx hb0 dX8_leastOf_0 rfl (lv_at hl 0 rfl) ?_
  refine lv_if_ne (tgt := 9) hx hb0 dX8_leastOf_1 (by decide) (fun c_1 => ?_) (fun c_1 => ?_)
  · have he := he.2 c_1
    refine lv_iload_n hx hb0 dX8_leastOf_9 rfl (lv_at hl 0 rfl) ?_
    refine lv_iconst (v := (2 : Int32)) hx hb0 dX8_leastOf_10 (by decide) ?_
    refine lv_icmp_ne (tgt := 18) hx hb0 dX8_leastOf_11 (by decide) (fun c_2 => ?_) (fun c_2 => ?_)
    · have he := he.2 c_2
      refine lv_iconst (v := (0 : Int32)) hx hb0 dX8_leastOf_18 (by decide) ?_
      exact gx_iret hx hb0 hr hlocks hK hP hD hS he dX8_leastOf_19
    · have he := he.1 c_2
      refine lv_iconst (v := (1 : Int32)) hx hb0 dX8_leastOf_14 (by decide) ?_
      refine lv_goto (tgt := 19) hx hb0 dX8_leastOf_15 (by decide) ?_
      exact gx_iret hx hb0 hr hlocks hK hP hD hS he dX8_leastOf_19
  · have he := he.1 c_1
    refine lv_bipush (v := (-30 : Int32)) hx hb0 dX8_leastOf_4 (by decide) ?_
    refine lv_goto (tgt := 19) hx hb0 dX8_leastOf_6 (by decide) ?_
    exact gx_iret hx hb0 hr hlocks hK hP hD hS he dX8_leastOf_19
theorem gm_X8_leastOf : gMeth yX8_leastOf cX8_leastOf 1 (some .int) 1 := ⟨⟨by decide, by decide, by decide +kernel⟩, ini_RX8, co_yX8_leastOf⟩
abbrev rm_X8_mostOf : Room := { frames := 0, cells := 0, slots := 0, locals := 0 }
set_option maxHeartbeats 4000000 in
set_option maxRecDepth 100000 in
theorem c_X8_mostOf (l : Launch) (dC : Nat → ClassId) (dI : Nat → Nat → Nat) (P : gP) (ad : Nat → Nat) (x0 : Int32) (h0 : Hp) (Q : Int32 → Hp → Prop) (he : F_X8_mostOf x0 h0 Q) : Met l yX8_mostOf (Cond.code yX8_mostOf cX8_mostOf 1 (some .int) :: TB) rm_X8_mostOf (gPc (dC, dI) vwCl (tyC P) 7 (mE P ad) ad gKM h0 [.int x0]) (gQi (dC, dI) vwCl (tyC P) 7 (mE P ad) ad Q) 0 0 (gA 7 ad) := by
  refine gx_start (by decide) (Nat.le_of_ble_eq_true rfl) (fun p e s m below meth c ls hx hb0 hr hlocks hml hown hts hK hk hP hD hS hl => ?_)
  have hl : lv_has ls 1 [(0, .int x0)] := hl
  have hown : s.vm.findClass RX8 = some m.cls := hown
  unfold F_X8_mostOf at he
  refine lv_iload_n hx hb0 dX8_mostOf_0 rfl (lv_at hl 0 rfl) ?_
  refine lv_iconst (v := (2 : Int32)) hx hb0 dX8_mostOf_1 (by decide) ?_
  refine lv_icmp_ne (tgt := 11) hx hb0 dX8_mostOf_2 (by decide) (fun c_1 => ?_) (fun c_1 => ?_)
  · have he := he.2 c_1
    refine lv_iload_n hx hb0 dX8_mostOf_11 rfl (lv_at hl 0 rfl) ?_
    refine lv_iconst (v := (3 : Int32)) hx hb0 dX8_mostOf_12 (by decide) ?_
    refine lv_icmp_ne (tgt := 22) hx hb0 dX8_mostOf_13 (by decide) (fun c_2 => ?_) (fun c_2 => ?_)
    · have he := he.2 c_2
      refine lv_bipush (v := (30 : Int32)) hx hb0 dX8_mostOf_22 (by decide) ?_
      exact gx_iret hx hb0 hr hlocks hK hP hD hS he dX8_mostOf_24
    · have he := he.1 c_2
      refine lv_sipush (v := (1800 : Int32)) hx hb0 dX8_mostOf_16 (by decide) ?_
      refine lv_goto (tgt := 24) hx hb0 dX8_mostOf_19 (by decide) ?_
      exact gx_iret hx hb0 hr hlocks hK hP hD hS he dX8_mostOf_24
  · have he := he.1 c_1
    refine lv_sipush (v := (999 : Int32)) hx hb0 dX8_mostOf_5 (by decide) ?_
    refine lv_goto (tgt := 24) hx hb0 dX8_mostOf_8 (by decide) ?_
    exact gx_iret hx hb0 hr hlocks hK hP hD hS he dX8_mostOf_24
theorem gm_X8_mostOf : gMeth yX8_mostOf cX8_mostOf 1 (some .int) 1 := ⟨⟨by decide, by decide, by decide +kernel⟩, ini_RX8, co_yX8_mostOf⟩
abbrev rm_X8_set : Room := { frames := 2, cells := 0, slots := 0, locals := 42 }
set_option maxHeartbeats 4000000 in
set_option maxRecDepth 100000 in
theorem c_X8_set (l : Launch) (dC : Nat → ClassId) (dI : Nat → Nat → Nat) (P : gP) (ad : Nat → Nat) (x1 : Int32) (x2 : Int32) (h0 : Hp) (Q : Int32 → Hp → Prop) (he : F_X8_set x1 x2 h0 Q) : Met l yX8_set (Cond.code yX8_set cX8_set 4 (some .int) :: TB) rm_X8_set (gPc (dC, dI) vwCl (tyC P) 7 (mE P ad) ad gKM h0 [.ref (ad 0), .int x1, .int x2]) (gQi (dC, dI) vwCl (tyC P) 7 (mE P ad) ad Q) 0 0 (gA 7 ad) := by
  refine gx_start (by decide) (Nat.le_of_ble_eq_true rfl) (fun p e s m below meth c ls hx hb0 hr hlocks hml hown hts hK hk hP hD hS hl => ?_)
  have hl : lv_has ls 4 [(0, .ref (ad 0)), (1, .int x1), (2, .int x2)] := hl
  have hown : s.vm.findClass RX8 = some m.cls := hown
  unfold F_X8_set at he
  refine lv_iload_n hx hb0 dX8_set_0 rfl (lv_at hl 1 rfl) ?_
  refine lv_iconst (v := (0 : Int32)) hx hb0 dX8_set_1 (by decide) ?_
  refine lv_iconst (v := (3 : Int32)) hx hb0 dX8_set_2 (by decide) ?_
  refine gx_si ⟨hx, hb0, hml, hown, hts⟩ (gKM_keep _) hk hK hP hD hS [.int x1, .int (0 : Int32), .int (3 : Int32)] [] (c_X8_within l dC dI P ad x1 (0 : Int32) (3 : Int32) h0 _ he) gm_X8_within st_yX8_within ml_RX8_32 rfl rfl ⟨Nat.le_of_ble_eq_true rfl, Nat.le_of_ble_eq_true rfl⟩ rfl hl.1 rfl (Nat.le_of_ble_eq_true rfl) dX8_set_3 ⟨Nat.zero_le _, Nat.zero_le _⟩ (fun r_1 h_2 he H locs hP hD hS => ?_)
  refine lv_if_eq (tgt := 24) hx hb0 dX8_set_6 (by decide) (fun c_3 => ?_) (fun c_3 => ?_)
  · have he := he.1 c_3
    refine lv_bipush (v := (-2 : Int32)) hx hb0 dX8_set_24 (by decide) ?_
    exact gx_iret hx hb0 hr hlocks hK hP hD hS he dX8_set_26
  · have he := he.2 c_3
    refine lv_iload_n hx hb0 dX8_set_9 rfl (lv_at hl 2 rfl) ?_
    refine lv_iload_n hx hb0 dX8_set_10 rfl (lv_at hl 1 rfl) ?_
    refine gx_si ⟨hx, hb0, hml, hown, hts⟩ (gKM_keep _) hk hK hP hD hS [.int x1] [.int x2] (c_X8_leastOf l dC dI P ad x1 h_2 _ he) gm_X8_leastOf st_yX8_leastOf ml_RX8_109 rfl rfl ⟨Nat.le_of_ble_eq_true rfl, Nat.le_of_ble_eq_true rfl⟩ rfl hl.1 rfl (Nat.le_of_ble_eq_true rfl) dX8_set_11 ⟨Nat.zero_le _, Nat.zero_le _⟩ (fun r_4 h_5 he H locs hP hD hS => ?_)
    refine lv_iload_n hx hb0 dX8_set_14 rfl (lv_at hl 1 rfl) ?_
    refine gx_si ⟨hx, hb0, hml, hown, hts⟩ (gKM_keep _) hk hK hP hD hS [.int x1] [.int r_4, .int x2] (c_X8_mostOf l dC dI P ad x1 h_5 _ he) gm_X8_mostOf st_yX8_mostOf ml_RX8_112 rfl rfl ⟨Nat.le_of_ble_eq_true rfl, Nat.le_of_ble_eq_true rfl⟩ rfl hl.1 rfl (Nat.le_of_ble_eq_true rfl) dX8_set_15 ⟨Nat.zero_le _, Nat.zero_le _⟩ (fun r_6 h_7 he H locs hP hD hS => ?_)
    refine gx_si ⟨hx, hb0, hml, hown, hts⟩ (gKM_keep _) hk hK hP hD hS [.int x2, .int r_4, .int r_6] [] (c_X8_within l dC dI P ad x2 r_4 r_6 h_7 _ he) gm_X8_within st_yX8_within ml_RX8_32 rfl rfl ⟨Nat.le_of_ble_eq_true rfl, Nat.le_of_ble_eq_true rfl⟩ rfl hl.1 rfl (Nat.le_of_ble_eq_true rfl) dX8_set_18 ⟨Nat.zero_le _, Nat.zero_le _⟩ (fun r_8 h_9 he H locs hP hD hS => ?_)
    refine lv_if_ne (tgt := 27) hx hb0 dX8_set_21 (by decide) (fun c_10 => ?_) (fun c_10 => ?_)
    · have he := he.2 c_10
      refine lv_aload_n hx hb0 dX8_set_27 rfl (lv_at hl 0 rfl) ?_
      refine gx_vv ⟨hx, hb0, hml, hown, hts⟩ (gKM_keep _) hk hK hP hD hS 0 [] [] (c_X8_putAside l dC dI P ad  h_9 _ he) gm_X8_putAside im_yX8_putAside se_yX8_putAside ml_RX8_47 (by decide) (mE_0 _) rfl rfl rfl ⟨Nat.le_of_ble_eq_true rfl, Nat.le_of_ble_eq_true rfl⟩ rfl hl.1 rfl (Nat.le_of_ble_eq_true rfl) dX8_set_28 ⟨Nat.zero_le _, Nat.zero_le _⟩ (fun h_12 he H locs hP hD hS => ?_)
      refine lv_aload_n hx hb0 dX8_set_31 rfl (lv_at hl 0 rfl) ?_
      refine gx_get hx hb0 hts in_RX8 hown hK hP 0 (by decide) (mE_0 _) rfl 0 (by decide) fl_RX8_7 rfl dX8_set_32 ?_
      refine lv_iload_n hx hb0 dX8_set_35 rfl (lv_at hl 1 rfl) ?_
      obtain ⟨v_13, he⟩ := he
      refine gx_iald hx hb0 hK hP 1 0 (by decide) mE_1 rfl v_13 dX8_set_36 ?_
      refine lv_topi (fun x_14 ex_14 => ?_)
      have he := he x_14 ex_14
      refine lv_istore_n (lv' := [(3, .int x_14), (0, .ref (ad 0)), (1, .int x1), (2, .int x2)]) hx hb0 dX8_set_37 rfl hl (by decide) rfl (fun ls hl => ?_)
      refine lv_aload_n hx hb0 dX8_set_38 rfl (lv_at hl 1 rfl) ?_
      refine gx_get hx hb0 hts in_RX8 hown hK hP 0 (by decide) (mE_0 _) rfl 0 (by decide) fl_RX8_7 rfl dX8_set_39 ?_
      refine lv_iload_n hx hb0 dX8_set_42 rfl (lv_at hl 2 rfl) ?_
      refine lv_iload_n hx hb0 dX8_set_43 rfl (lv_at hl 3 rfl) ?_
      obtain ⟨v_16, he⟩ := he
      refine gx_iast hx hb0 hK hP hD hS 1 0 (by decide) mE_1 rfl v_16 dX8_set_44 (fun h_15 eh_15 H locs hP hD hS => ?_)
      have he := he h_15 eh_15
      refine lv_aload_n hx hb0 dX8_set_45 rfl (lv_at hl 1 rfl) ?_
      refine lv_iload_n hx hb0 dX8_set_46 rfl (lv_at hl 0 rfl) ?_
      refine lv_bipush (v := (30 : Int32)) hx hb0 dX8_set_47 (by decide) ?_
      refine lv_iadd hx hb0 dX8_set_49 ?_
      refine gx_vi ⟨hx, hb0, hml, hown, hts⟩ (gKM_keep _) hk hK hP hD hS 0 [.int (x_14 + (30 : Int32))] [] (c_X8_recorded l dC dI P ad (x_14 + (30 : Int32)) h_15 _ he) gm_X8_recorded im_yX8_recorded se_yX8_recorded ml_RX8_115 (by decide) (mE_0 _) rfl rfl rfl ⟨Nat.le_of_ble_eq_true rfl, Nat.le_of_ble_eq_true rfl⟩ rfl hl.1 rfl (Nat.le_of_ble_eq_true rfl) dX8_set_50 ⟨Nat.zero_le _, Nat.zero_le _⟩ (fun r_17 h_18 he H locs hP hD hS => ?_)
      exact gx_iret hx hb0 hr hlocks hK hP hD hS he dX8_set_53
    · have he := he.1 c_10
      refine lv_bipush (v := (-2 : Int32)) hx hb0 dX8_set_24 (by decide) ?_
      exact gx_iret hx hb0 hr hlocks hK hP hD hS he dX8_set_26
theorem gm_X8_set : gMeth yX8_set cX8_set 4 (some .int) 2 := ⟨⟨by decide, by decide, by decide +kernel⟩, ini_RX8, co_yX8_set⟩
abbrev rm_X8_star : Room := { frames := 3, cells := 0, slots := 0, locals := 63 }
set_option maxHeartbeats 4000000 in
set_option maxRecDepth 100000 in
theorem c_X8_star (l : Launch) (dC : Nat → ClassId) (dI : Nat → Nat → Nat) (P : gP) (ad : Nat → Nat) (x1 : Int32) (h0 : Hp) (Q : Int32 → Hp → Prop) (he : F_X8_star x1 h0 Q) : Met l yX8_star (Cond.code yX8_star cX8_star 2 (some .int) :: TB) rm_X8_star (gPc (dC, dI) vwCl (tyC P) 7 (mE P ad) ad gKM h0 [.ref (ad 0), .int x1]) (gQi (dC, dI) vwCl (tyC P) 7 (mE P ad) ad Q) 0 0 (gA 7 ad) := by
  refine gx_start (by decide) (Nat.le_of_ble_eq_true rfl) (fun p e s m below meth c ls hx hb0 hr hlocks hml hown hts hK hk hP hD hS hl => ?_)
  have hl : lv_has ls 2 [(0, .ref (ad 0)), (1, .int x1)] := hl
  have hown : s.vm.findClass RX8 = some m.cls := hown
  unfold F_X8_star at he
  refine lv_aload_n hx hb0 dX8_star_0 rfl (lv_at hl 0 rfl) ?_
  refine gx_vv ⟨hx, hb0, hml, hown, hts⟩ (gKM_keep _) hk hK hP hD hS 0 [] [] (c_X8_putAside l dC dI P ad  h0 _ he) gm_X8_putAside im_yX8_putAside se_yX8_putAside ml_RX8_47 (by decide) (mE_0 _) rfl rfl rfl ⟨Nat.le_of_ble_eq_true rfl, Nat.le_of_ble_eq_true rfl⟩ rfl hl.1 rfl (Nat.le_of_ble_eq_true rfl) dX8_star_1 ⟨Nat.zero_le _, Nat.zero_le _⟩ (fun h_2 he H locs hP hD hS => ?_)
  refine lv_aload_n hx hb0 dX8_star_4 rfl (lv_at hl 0 rfl) ?_
  refine lv_aload_n hx hb0 dX8_star_5 rfl (lv_at hl 0 rfl) ?_
  refine lv_iload_n hx hb0 dX8_star_6 rfl (lv_at hl 1 rfl) ?_
  refine gx_vi ⟨hx, hb0, hml, hown, hts⟩ (gKM_keep _) hk hK hP hD hS 0 [.int x1] [.ref (ad 0)] (c_X8_comes l dC dI P ad x1 h_2 _ he) gm_X8_comes im_yX8_comes se_yX8_comes ml_RX8_118 (by decide) (mE_0 _) rfl rfl rfl ⟨Nat.le_of_ble_eq_true rfl, Nat.le_of_ble_eq_true rfl⟩ rfl hl.1 rfl (Nat.le_of_ble_eq_true rfl) dX8_star_7 ⟨Nat.zero_le _, Nat.zero_le _⟩ (fun r_3 h_4 he H locs hP hD hS => ?_)
  refine gx_vi ⟨hx, hb0, hml, hown, hts⟩ (gKM_keep _) hk hK hP hD hS 0 [.int r_3] [] (c_X8_recorded l dC dI P ad r_3 h_4 _ he) gm_X8_recorded im_yX8_recorded se_yX8_recorded ml_RX8_115 (by decide) (mE_0 _) rfl rfl rfl ⟨Nat.le_of_ble_eq_true rfl, Nat.le_of_ble_eq_true rfl⟩ rfl hl.1 rfl (Nat.le_of_ble_eq_true rfl) dX8_star_10 ⟨Nat.zero_le _, Nat.zero_le _⟩ (fun r_5 h_6 he H locs hP hD hS => ?_)
  exact gx_iret hx hb0 hr hlocks hK hP hD hS he dX8_star_13
theorem gm_X8_star : gMeth yX8_star cX8_star 2 (some .int) 1 := ⟨⟨by decide, by decide, by decide +kernel⟩, ini_RX8, co_yX8_star⟩
abbrev rm_X8_cloud : Room := { frames := 3, cells := 0, slots := 0, locals := 64 }
set_option maxHeartbeats 4000000 in
set_option maxRecDepth 100000 in
theorem c_X8_cloud (l : Launch) (dC : Nat → ClassId) (dI : Nat → Nat → Nat) (P : gP) (ad : Nat → Nat) (x1 : Int32) (h0 : Hp) (Q : Int32 → Hp → Prop) (he : F_X8_cloud x1 h0 Q) : Met l yX8_cloud (Cond.code yX8_cloud cX8_cloud 2 (some .int) :: TB) rm_X8_cloud (gPc (dC, dI) vwCl (tyC P) 7 (mE P ad) ad gKM h0 [.ref (ad 0), .int x1]) (gQi (dC, dI) vwCl (tyC P) 7 (mE P ad) ad Q) 0 0 (gA 7 ad) := by
  refine gx_start (by decide) (Nat.le_of_ble_eq_true rfl) (fun p e s m below meth c ls hx hb0 hr hlocks hml hown hts hK hk hP hD hS hl => ?_)
  have hl : lv_has ls 2 [(0, .ref (ad 0)), (1, .int x1)] := hl
  have hown : s.vm.findClass RX8 = some m.cls := hown
  unfold F_X8_cloud at he
  refine lv_aload_n hx hb0 dX8_cloud_0 rfl (lv_at hl 0 rfl) ?_
  refine gx_vv ⟨hx, hb0, hml, hown, hts⟩ (gKM_keep _) hk hK hP hD hS 0 [] [] (c_X8_putAside l dC dI P ad  h0 _ he) gm_X8_putAside im_yX8_putAside se_yX8_putAside ml_RX8_47 (by decide) (mE_0 _) rfl rfl rfl ⟨Nat.le_of_ble_eq_true rfl, Nat.le_of_ble_eq_true rfl⟩ rfl hl.1 rfl (Nat.le_of_ble_eq_true rfl) dX8_cloud_1 ⟨Nat.zero_le _, Nat.zero_le _⟩ (fun h_2 he H locs hP hD hS => ?_)
  refine lv_aload_n hx hb0 dX8_cloud_4 rfl (lv_at hl 0 rfl) ?_
  refine lv_aload_n hx hb0 dX8_cloud_5 rfl (lv_at hl 0 rfl) ?_
  refine lv_iload_n hx hb0 dX8_cloud_6 rfl (lv_at hl 1 rfl) ?_
  refine gx_vi ⟨hx, hb0, hml, hown, hts⟩ (gKM_keep _) hk hK hP hD hS 0 [.int x1] [.ref (ad 0)] (c_X8_clouds l dC dI P ad x1 h_2 _ he) gm_X8_clouds im_yX8_clouds se_yX8_clouds ml_RX8_121 (by decide) (mE_0 _) rfl rfl rfl ⟨Nat.le_of_ble_eq_true rfl, Nat.le_of_ble_eq_true rfl⟩ rfl hl.1 rfl (Nat.le_of_ble_eq_true rfl) dX8_cloud_7 ⟨Nat.zero_le _, Nat.zero_le _⟩ (fun r_3 h_4 he H locs hP hD hS => ?_)
  refine gx_vi ⟨hx, hb0, hml, hown, hts⟩ (gKM_keep _) hk hK hP hD hS 0 [.int r_3] [] (c_X8_recorded l dC dI P ad r_3 h_4 _ he) gm_X8_recorded im_yX8_recorded se_yX8_recorded ml_RX8_115 (by decide) (mE_0 _) rfl rfl rfl ⟨Nat.le_of_ble_eq_true rfl, Nat.le_of_ble_eq_true rfl⟩ rfl hl.1 rfl (Nat.le_of_ble_eq_true rfl) dX8_cloud_10 ⟨Nat.zero_le _, Nat.zero_le _⟩ (fun r_5 h_6 he H locs hP hD hS => ?_)
  exact gx_iret hx hb0 hr hlocks hK hP hD hS he dX8_cloud_13
theorem gm_X8_cloud : gMeth yX8_cloud cX8_cloud 2 (some .int) 1 := ⟨⟨by decide, by decide, by decide +kernel⟩, ini_RX8, co_yX8_cloud⟩
abbrev rm_X8_isValue : Room := { frames := 1, cells := 0, slots := 0, locals := 22 }
set_option maxHeartbeats 4000000 in
set_option maxRecDepth 100000 in
theorem c_X8_isValue (l : Launch) (dC : Nat → ClassId) (dI : Nat → Nat → Nat) (P : gP) (ad : Nat → Nat) (x0 : Int32) (x1 : Int32) (h0 : Hp) (Q : Int32 → Hp → Prop) (he : F_X8_isValue x0 x1 h0 Q) : Met l yX8_isValue (Cond.code yX8_isValue cX8_isValue 2 (some .boolean) :: TB) rm_X8_isValue (gPc (dC, dI) vwCl (tyC P) 7 (mE P ad) ad gKM h0 [.int x0, .int x1]) (gQi (dC, dI) vwCl (tyC P) 7 (mE P ad) ad Q) 0 0 (gA 7 ad) := by
  refine gx_start (by decide) (Nat.le_of_ble_eq_true rfl) (fun p e s m below meth c ls hx hb0 hr hlocks hml hown hts hK hk hP hD hS hl => ?_)
  have hl : lv_has ls 2 [(0, .int x0), (1, .int x1)] := hl
  have hown : s.vm.findClass RX8 = some m.cls := hown
  unfold F_X8_isValue at he
  refine lv_iload_n hx hb0 dX8_isValue_0 rfl (lv_at hl 0 rfl) ?_
  refine lv_if_ne (tgt := 14) hx hb0 dX8_isValue_1 (by decide) (fun c_1 => ?_) (fun c_1 => ?_)
  · have he := he.2 c_1
    refine lv_iload_n hx hb0 dX8_isValue_14 rfl (lv_at hl 0 rfl) ?_
    refine lv_iconst (v := (1 : Int32)) hx hb0 dX8_isValue_15 (by decide) ?_
    refine lv_icmp_ne (tgt := 30) hx hb0 dX8_isValue_16 (by decide) (fun c_2 => ?_) (fun c_2 => ?_)
    · have he := he.2 c_2
      refine lv_iload_n hx hb0 dX8_isValue_30 rfl (lv_at hl 0 rfl) ?_
      refine lv_iconst (v := (2 : Int32)) hx hb0 dX8_isValue_31 (by decide) ?_
      refine lv_icmp_ne (tgt := 48) hx hb0 dX8_isValue_32 (by decide) (fun c_3 => ?_) (fun c_3 => ?_)
      · have he := he.2 c_3
        refine lv_iconst (v := (0 : Int32)) hx hb0 dX8_isValue_48 (by decide) ?_
        exact gx_zret hx hb0 hr (by decide) hlocks hK hP hD hS he dX8_isValue_49
      · have he := he.1 c_3
        refine lv_iload_n hx hb0 dX8_isValue_35 rfl (lv_at hl 1 rfl) ?_
        refine lv_iconst (v := (0 : Int32)) hx hb0 dX8_isValue_36 (by decide) ?_
        refine lv_iconst (v := (1 : Int32)) hx hb0 dX8_isValue_37 (by decide) ?_
        refine gx_si ⟨hx, hb0, hml, hown, hts⟩ (gKM_keep _) hk hK hP hD hS [.int x1, .int (0 : Int32), .int (1 : Int32)] [] (c_X8_within l dC dI P ad x1 (0 : Int32) (1 : Int32) h0 _ he) gm_X8_within st_yX8_within ml_RX8_32 rfl rfl ⟨Nat.le_of_ble_eq_true rfl, Nat.le_of_ble_eq_true rfl⟩ rfl hl.1 rfl (Nat.le_of_ble_eq_true rfl) dX8_isValue_38 ⟨Nat.zero_le _, Nat.zero_le _⟩ (fun r_4 h_5 he H locs hP hD hS => ?_)
        refine lv_if_eq (tgt := 48) hx hb0 dX8_isValue_41 (by decide) (fun c_6 => ?_) (fun c_6 => ?_)
        · have he := he.1 c_6
          refine lv_iconst (v := (0 : Int32)) hx hb0 dX8_isValue_48 (by decide) ?_
          exact gx_zret hx hb0 hr (by decide) hlocks hK hP hD hS he dX8_isValue_49
        · have he := he.2 c_6
          refine lv_iconst (v := (1 : Int32)) hx hb0 dX8_isValue_44 (by decide) ?_
          refine lv_goto (tgt := 49) hx hb0 dX8_isValue_45 (by decide) ?_
          exact gx_zret hx hb0 hr (by decide) hlocks hK hP hD hS he dX8_isValue_49
    · have he := he.1 c_2
      refine lv_iload_n hx hb0 dX8_isValue_19 rfl (lv_at hl 1 rfl) ?_
      refine lv_bipush (v := (-60 : Int32)) hx hb0 dX8_isValue_20 (by decide) ?_
      refine lv_bipush (v := (60 : Int32)) hx hb0 dX8_isValue_22 (by decide) ?_
      refine gx_si ⟨hx, hb0, hml, hown, hts⟩ (gKM_keep _) hk hK hP hD hS [.int x1, .int (-60 : Int32), .int (60 : Int32)] [] (c_X8_within l dC dI P ad x1 (-60 : Int32) (60 : Int32) h0 _ he) gm_X8_within st_yX8_within ml_RX8_32 rfl rfl ⟨Nat.le_of_ble_eq_true rfl, Nat.le_of_ble_eq_true rfl⟩ rfl hl.1 rfl (Nat.le_of_ble_eq_true rfl) dX8_isValue_24 ⟨Nat.zero_le _, Nat.zero_le _⟩ (fun r_7 h_8 he H locs hP hD hS => ?_)
      refine lv_goto (tgt := 49) hx hb0 dX8_isValue_27 (by decide) ?_
      obtain ⟨z_9, he⟩ := he
      exact gx_zret hx hb0 hr z_9 hlocks hK hP hD hS he dX8_isValue_49
  · have he := he.1 c_1
    refine lv_iload_n hx hb0 dX8_isValue_4 rfl (lv_at hl 1 rfl) ?_
    refine lv_iconst (v := (0 : Int32)) hx hb0 dX8_isValue_5 (by decide) ?_
    refine lv_bipush (v := (9 : Int32)) hx hb0 dX8_isValue_6 (by decide) ?_
    refine gx_si ⟨hx, hb0, hml, hown, hts⟩ (gKM_keep _) hk hK hP hD hS [.int x1, .int (0 : Int32), .int (9 : Int32)] [] (c_X8_within l dC dI P ad x1 (0 : Int32) (9 : Int32) h0 _ he) gm_X8_within st_yX8_within ml_RX8_32 rfl rfl ⟨Nat.le_of_ble_eq_true rfl, Nat.le_of_ble_eq_true rfl⟩ rfl hl.1 rfl (Nat.le_of_ble_eq_true rfl) dX8_isValue_8 ⟨Nat.zero_le _, Nat.zero_le _⟩ (fun r_10 h_11 he H locs hP hD hS => ?_)
    refine lv_goto (tgt := 49) hx hb0 dX8_isValue_11 (by decide) ?_
    obtain ⟨z_12, he⟩ := he
    exact gx_zret hx hb0 hr z_12 hlocks hK hP hD hS he dX8_isValue_49
theorem gm_X8_isValue : gMeth yX8_isValue cX8_isValue 2 (some .boolean) 2 := ⟨⟨by decide, by decide, by decide +kernel⟩, ini_RX8, co_yX8_isValue⟩
abbrev rm_X8_navigator : Room := { frames := 2, cells := 0, slots := 0, locals := 43 }
set_option maxHeartbeats 4000000 in
set_option maxRecDepth 100000 in
theorem c_X8_navigator (l : Launch) (dC : Nat → ClassId) (dI : Nat → Nat → Nat) (P : gP) (ad : Nat → Nat) (x1 : Int32) (x2 : Int32) (x3 : Int32) (h0 : Hp) (Q : Int32 → Hp → Prop) (he : F_X8_navigator x1 x2 x3 h0 Q) : Met l yX8_navigator (Cond.code yX8_navigator cX8_navigator 5 (some .int) :: TB) rm_X8_navigator (gPc (dC, dI) vwCl (tyC P) 7 (mE P ad) ad gKM h0 [.ref (ad 0), .int x1, .int x2, .int x3]) (gQi (dC, dI) vwCl (tyC P) 7 (mE P ad) ad Q) 0 0 (gA 7 ad) := by
  refine gx_start (by decide) (Nat.le_of_ble_eq_true rfl) (fun p e s m below meth c ls hx hb0 hr hlocks hml hown hts hK hk hP hD hS hl => ?_)
  have hl : lv_has ls 5 [(0, .ref (ad 0)), (1, .int x1), (2, .int x2), (3, .int x3)] := hl
  have hown : s.vm.findClass RX8 = some m.cls := hown
  unfold F_X8_navigator at he
  refine lv_iload_n hx hb0 dX8_navigator_0 rfl (lv_at hl 1 rfl) ?_
  refine gx_si ⟨hx, hb0, hml, hown, hts⟩ (gKM_keep _) hk hK hP hD hS [.int x1] [] (c_X8_isNavigator l dC dI P ad x1 h0 _ he) gm_X8_isNavigator st_yX8_isNavigator ml_RX8_67 rfl rfl ⟨Nat.le_of_ble_eq_true rfl, Nat.le_of_ble_eq_true rfl⟩ rfl hl.1 rfl (Nat.le_of_ble_eq_true rfl) dX8_navigator_1 ⟨Nat.zero_le _, Nat.zero_le _⟩ (fun r_1 h_2 he H locs hP hD hS => ?_)
  refine lv_if_ne (tgt := 9) hx hb0 dX8_navigator_4 (by decide) (fun c_3 => ?_) (fun c_3 => ?_)
  · have he := he.2 c_3
    refine lv_iload_n hx hb0 dX8_navigator_9 rfl (lv_at hl 2 rfl) ?_
    refine lv_iload_n hx hb0 dX8_navigator_10 rfl (lv_at hl 3 rfl) ?_
    refine gx_si ⟨hx, hb0, hml, hown, hts⟩ (gKM_keep _) hk hK hP hD hS [.int x2, .int x3] [] (c_X8_isValue l dC dI P ad x2 x3 h_2 _ he) gm_X8_isValue st_yX8_isValue ml_RX8_124 rfl rfl ⟨Nat.le_of_ble_eq_true rfl, Nat.le_of_ble_eq_true rfl⟩ rfl hl.1 rfl (Nat.le_of_ble_eq_true rfl) dX8_navigator_11 ⟨Nat.zero_le _, Nat.zero_le _⟩ (fun r_4 h_5 he H locs hP hD hS => ?_)
    refine lv_if_ne (tgt := 20) hx hb0 dX8_navigator_14 (by decide) (fun c_6 => ?_) (fun c_6 => ?_)
    · have he := he.2 c_6
      refine lv_aload_n hx hb0 dX8_navigator_20 rfl (lv_at hl 0 rfl) ?_
      refine gx_vv ⟨hx, hb0, hml, hown, hts⟩ (gKM_keep _) hk hK hP hD hS 0 [] [] (c_X8_putAside l dC dI P ad  h_5 _ he) gm_X8_putAside im_yX8_putAside se_yX8_putAside ml_RX8_47 (by decide) (mE_0 _) rfl rfl rfl ⟨Nat.le_of_ble_eq_true rfl, Nat.le_of_ble_eq_true rfl⟩ rfl hl.1 rfl (Nat.le_of_ble_eq_true rfl) dX8_navigator_21 ⟨Nat.zero_le _, Nat.zero_le _⟩ (fun h_8 he H locs hP hD hS => ?_)
      refine lv_aload_n hx hb0 dX8_navigator_24 rfl (lv_at hl 0 rfl) ?_
      refine lv_iload_n hx hb0 dX8_navigator_25 rfl (lv_at hl 1 rfl) ?_
      refine lv_iload_n hx hb0 dX8_navigator_26 rfl (lv_at hl 2 rfl) ?_
      refine gx_vi ⟨hx, hb0, hml, hown, hts⟩ (gKM_keep _) hk hK hP hD hS 0 [.int x1, .int x2] [] (c_X8_number l dC dI P ad x1 x2 h_8 _ he) gm_X8_number im_yX8_number se_yX8_number ml_RX8_54 (by decide) (mE_0 _) rfl rfl rfl ⟨Nat.le_of_ble_eq_true rfl, Nat.le_of_ble_eq_true rfl⟩ rfl hl.1 rfl (Nat.le_of_ble_eq_true rfl) dX8_navigator_27 ⟨Nat.zero_le _, Nat.zero_le _⟩ (fun r_9 h_10 he H locs hP hD hS => ?_)
      refine lv_istore (lv' := [(4, .int r_9), (0, .ref (ad 0)), (1, .int x1), (2, .int x2), (3, .int x3)]) hx hb0 dX8_navigator_30 hl (by decide) rfl (fun ls hl => ?_)
      refine lv_aload_n hx hb0 dX8_navigator_32 rfl (lv_at hl 1 rfl) ?_
      refine lv_iload_n hx hb0 dX8_navigator_33 rfl (lv_at hl 2 rfl) ?_
      refine lv_iload_n hx hb0 dX8_navigator_34 rfl (lv_at hl 3 rfl) ?_
      refine lv_iload_n hx hb0 dX8_navigator_35 rfl (lv_at hl 4 rfl) ?_
      refine gx_vv ⟨hx, hb0, hml, hown, hts⟩ (gKM_keep _) hk hK hP hD hS 0 [.int x1, .int x2, .int x3] [] (c_X8_setOf l dC dI P ad x1 x2 x3 h_10 _ he) gm_X8_setOf im_yX8_setOf se_yX8_setOf ml_RX8_28 (by decide) (mE_0 _) rfl rfl rfl ⟨Nat.le_of_ble_eq_true rfl, Nat.le_of_ble_eq_true rfl⟩ rfl hl.1 rfl (Nat.le_of_ble_eq_true rfl) dX8_navigator_36 ⟨Nat.zero_le _, Nat.zero_le _⟩ (fun h_12 he H locs hP hD hS => ?_)
      refine lv_aload_n hx hb0 dX8_navigator_39 rfl (lv_at hl 1 rfl) ?_
      refine lv_iload hx hb0 dX8_navigator_40 (lv_at hl 0 rfl) ?_
      refine lv_bipush (v := (60 : Int32)) hx hb0 dX8_navigator_42 (by decide) ?_
      refine lv_iadd hx hb0 dX8_navigator_44 ?_
      refine gx_vi ⟨hx, hb0, hml, hown, hts⟩ (gKM_keep _) hk hK hP hD hS 0 [.int (r_9 + (60 : Int32))] [] (c_X8_recorded l dC dI P ad (r_9 + (60 : Int32)) h_12 _ he) gm_X8_recorded im_yX8_recorded se_yX8_recorded ml_RX8_115 (by decide) (mE_0 _) rfl rfl rfl ⟨Nat.le_of_ble_eq_true rfl, Nat.le_of_ble_eq_true rfl⟩ rfl hl.1 rfl (Nat.le_of_ble_eq_true rfl) dX8_navigator_45 ⟨Nat.zero_le _, Nat.zero_le _⟩ (fun r_13 h_14 he H locs hP hD hS => ?_)
      exact gx_iret hx hb0 hr hlocks hK hP hD hS he dX8_navigator_48
    · have he := he.1 c_6
      refine lv_bipush (v := (-2 : Int32)) hx hb0 dX8_navigator_17 (by decide) ?_
      exact gx_iret hx hb0 hr hlocks hK hP hD hS he dX8_navigator_19
  · have he := he.1 c_3
    refine lv_iconst (v := (-1 : Int32)) hx hb0 dX8_navigator_7 (by decide) ?_
    exact gx_iret hx hb0 hr hlocks hK hP hD hS he dX8_navigator_8
theorem gm_X8_navigator : gMeth yX8_navigator cX8_navigator 5 (some .int) 3 := ⟨⟨by decide, by decide, by decide +kernel⟩, ini_RX8, co_yX8_navigator⟩
abbrev rm_X8_sleep : Room := { frames := 3, cells := 0, slots := 0, locals := 63 }
set_option maxHeartbeats 4000000 in
set_option maxRecDepth 100000 in
theorem c_X8_sleep (l : Launch) (dC : Nat → ClassId) (dI : Nat → Nat → Nat) (P : gP) (ad : Nat → Nat) (x1 : Int32) (h0 : Hp) (Q : Int32 → Hp → Prop) (he : F_X8_sleep x1 h0 Q) : Met l yX8_sleep (Cond.code yX8_sleep cX8_sleep 2 (some .int) :: TB) rm_X8_sleep (gPc (dC, dI) vwCl (tyC P) 7 (mE P ad) ad gKM h0 [.ref (ad 0), .int x1]) (gQi (dC, dI) vwCl (tyC P) 7 (mE P ad) ad Q) 0 0 (gA 7 ad) := by
  refine gx_start (by decide) (Nat.le_of_ble_eq_true rfl) (fun p e s m below meth c ls hx hb0 hr hlocks hml hown hts hK hk hP hD hS hl => ?_)
  have hl : lv_has ls 2 [(0, .ref (ad 0)), (1, .int x1)] := hl
  have hown : s.vm.findClass RX8 = some m.cls := hown
  unfold F_X8_sleep at he
  refine lv_aload_n hx hb0 dX8_sleep_0 rfl (lv_at hl 0 rfl) ?_
  refine gx_vv ⟨hx, hb0, hml, hown, hts⟩ (gKM_keep _) hk hK hP hD hS 0 [] [] (c_X8_putAside l dC dI P ad  h0 _ he) gm_X8_putAside im_yX8_putAside se_yX8_putAside ml_RX8_47 (by decide) (mE_0 _) rfl rfl rfl ⟨Nat.le_of_ble_eq_true rfl, Nat.le_of_ble_eq_true rfl⟩ rfl hl.1 rfl (Nat.le_of_ble_eq_true rfl) dX8_sleep_1 ⟨Nat.zero_le _, Nat.zero_le _⟩ (fun h_2 he H locs hP hD hS => ?_)
  refine lv_aload_n hx hb0 dX8_sleep_4 rfl (lv_at hl 0 rfl) ?_
  refine lv_aload_n hx hb0 dX8_sleep_5 rfl (lv_at hl 0 rfl) ?_
  refine lv_iload_n hx hb0 dX8_sleep_6 rfl (lv_at hl 1 rfl) ?_
  refine gx_vi ⟨hx, hb0, hml, hown, hts⟩ (gKM_keep _) hk hK hP hD hS 0 [.int x1] [.ref (ad 0)] (c_X8_sleeps l dC dI P ad x1 h_2 _ he) gm_X8_sleeps im_yX8_sleeps se_yX8_sleeps ml_RX8_127 (by decide) (mE_0 _) rfl rfl rfl ⟨Nat.le_of_ble_eq_true rfl, Nat.le_of_ble_eq_true rfl⟩ rfl hl.1 rfl (Nat.le_of_ble_eq_true rfl) dX8_sleep_7 ⟨Nat.zero_le _, Nat.zero_le _⟩ (fun r_3 h_4 he H locs hP hD hS => ?_)
  refine gx_vi ⟨hx, hb0, hml, hown, hts⟩ (gKM_keep _) hk hK hP hD hS 0 [.int r_3] [] (c_X8_recorded l dC dI P ad r_3 h_4 _ he) gm_X8_recorded im_yX8_recorded se_yX8_recorded ml_RX8_115 (by decide) (mE_0 _) rfl rfl rfl ⟨Nat.le_of_ble_eq_true rfl, Nat.le_of_ble_eq_true rfl⟩ rfl hl.1 rfl (Nat.le_of_ble_eq_true rfl) dX8_sleep_10 ⟨Nat.zero_le _, Nat.zero_le _⟩ (fun r_5 h_6 he H locs hP hD hS => ?_)
  exact gx_iret hx hb0 hr hlocks hK hP hD hS he dX8_sleep_13
theorem gm_X8_sleep : gMeth yX8_sleep cX8_sleep 2 (some .int) 1 := ⟨⟨by decide, by decide, by decide +kernel⟩, ini_RX8, co_yX8_sleep⟩
abbrev rm_X8_goal : Room := { frames := 3, cells := 0, slots := 0, locals := 64 }
set_option maxHeartbeats 4000000 in
set_option maxRecDepth 100000 in
theorem c_X8_goal (l : Launch) (dC : Nat → ClassId) (dI : Nat → Nat → Nat) (P : gP) (ad : Nat → Nat) (x1 : Int32) (h0 : Hp) (Q : Int32 → Hp → Prop) (he : F_X8_goal x1 h0 Q) : Met l yX8_goal (Cond.code yX8_goal cX8_goal 2 (some .int) :: TB) rm_X8_goal (gPc (dC, dI) vwCl (tyC P) 7 (mE P ad) ad gKM h0 [.ref (ad 0), .int x1]) (gQi (dC, dI) vwCl (tyC P) 7 (mE P ad) ad Q) 0 0 (gA 7 ad) := by
  refine gx_start (by decide) (Nat.le_of_ble_eq_true rfl) (fun p e s m below meth c ls hx hb0 hr hlocks hml hown hts hK hk hP hD hS hl => ?_)
  have hl : lv_has ls 2 [(0, .ref (ad 0)), (1, .int x1)] := hl
  have hown : s.vm.findClass RX8 = some m.cls := hown
  unfold F_X8_goal at he
  refine lv_aload_n hx hb0 dX8_goal_0 rfl (lv_at hl 0 rfl) ?_
  refine gx_vv ⟨hx, hb0, hml, hown, hts⟩ (gKM_keep _) hk hK hP hD hS 0 [] [] (c_X8_putAside l dC dI P ad  h0 _ he) gm_X8_putAside im_yX8_putAside se_yX8_putAside ml_RX8_47 (by decide) (mE_0 _) rfl rfl rfl ⟨Nat.le_of_ble_eq_true rfl, Nat.le_of_ble_eq_true rfl⟩ rfl hl.1 rfl (Nat.le_of_ble_eq_true rfl) dX8_goal_1 ⟨Nat.zero_le _, Nat.zero_le _⟩ (fun h_2 he H locs hP hD hS => ?_)
  refine lv_aload_n hx hb0 dX8_goal_4 rfl (lv_at hl 0 rfl) ?_
  refine lv_aload_n hx hb0 dX8_goal_5 rfl (lv_at hl 0 rfl) ?_
  refine lv_iload_n hx hb0 dX8_goal_6 rfl (lv_at hl 1 rfl) ?_
  refine gx_vi ⟨hx, hb0, hml, hown, hts⟩ (gKM_keep _) hk hK hP hD hS 0 [.int x1] [.ref (ad 0)] (c_X8_aims l dC dI P ad x1 h_2 _ he) gm_X8_aims im_yX8_aims se_yX8_aims ml_RX8_130 (by decide) (mE_0 _) rfl rfl rfl ⟨Nat.le_of_ble_eq_true rfl, Nat.le_of_ble_eq_true rfl⟩ rfl hl.1 rfl (Nat.le_of_ble_eq_true rfl) dX8_goal_7 ⟨Nat.zero_le _, Nat.zero_le _⟩ (fun r_3 h_4 he H locs hP hD hS => ?_)
  refine gx_vi ⟨hx, hb0, hml, hown, hts⟩ (gKM_keep _) hk hK hP hD hS 0 [.int r_3] [] (c_X8_recorded l dC dI P ad r_3 h_4 _ he) gm_X8_recorded im_yX8_recorded se_yX8_recorded ml_RX8_115 (by decide) (mE_0 _) rfl rfl rfl ⟨Nat.le_of_ble_eq_true rfl, Nat.le_of_ble_eq_true rfl⟩ rfl hl.1 rfl (Nat.le_of_ble_eq_true rfl) dX8_goal_10 ⟨Nat.zero_le _, Nat.zero_le _⟩ (fun r_5 h_6 he H locs hP hD hS => ?_)
  exact gx_iret hx hb0 hr hlocks hK hP hD hS he dX8_goal_13
theorem gm_X8_goal : gMeth yX8_goal cX8_goal 2 (some .int) 1 := ⟨⟨by decide, by decide, by decide +kernel⟩, ini_RX8, co_yX8_goal⟩
abbrev rm_X8_sight : Room := { frames := 5, cells := 0, slots := 0, locals := 108 }
set_option maxHeartbeats 4000000 in
set_option maxRecDepth 100000 in
theorem c_X8_sight (l : Launch) (dC : Nat → ClassId) (dI : Nat → Nat → Nat) (P : gP) (ad : Nat → Nat) (x1 : Int32) (x2 : Int32) (h0 : Hp) (Q : Int32 → Hp → Prop) (he : F_X8_sight x1 x2 h0 Q) : Met l yX8_sight (Cond.code yX8_sight cX8_sight 3 (some .int) :: TB) rm_X8_sight (gPc (dC, dI) vwCl (tyC P) 7 (mE P ad) ad gKM h0 [.ref (ad 0), .int x1, .int x2]) (gQi (dC, dI) vwCl (tyC P) 7 (mE P ad) ad Q) 0 0 (gA 7 ad) := by
  refine gx_start (by decide) (Nat.le_of_ble_eq_true rfl) (fun p e s m below meth c ls hx hb0 hr hlocks hml hown hts hK hk hP hD hS hl => ?_)
  have hl : lv_has ls 3 [(0, .ref (ad 0)), (1, .int x1), (2, .int x2)] := hl
  have hown : s.vm.findClass RX8 = some m.cls := hown
  unfold F_X8_sight at he
  refine lv_aload_n hx hb0 dX8_sight_0 rfl (lv_at hl 0 rfl) ?_
  refine gx_vv ⟨hx, hb0, hml, hown, hts⟩ (gKM_keep _) hk hK hP hD hS 0 [] [] (c_X8_putAside l dC dI P ad  h0 _ he) gm_X8_putAside im_yX8_putAside se_yX8_putAside ml_RX8_47 (by decide) (mE_0 _) rfl rfl rfl ⟨Nat.le_of_ble_eq_true rfl, Nat.le_of_ble_eq_true rfl⟩ rfl hl.1 rfl (Nat.le_of_ble_eq_true rfl) dX8_sight_1 ⟨Nat.zero_le _, Nat.zero_le _⟩ (fun h_2 he H locs hP hD hS => ?_)
  refine lv_aload_n hx hb0 dX8_sight_4 rfl (lv_at hl 0 rfl) ?_
  refine lv_aload_n hx hb0 dX8_sight_5 rfl (lv_at hl 0 rfl) ?_
  refine lv_iload_n hx hb0 dX8_sight_6 rfl (lv_at hl 1 rfl) ?_
  refine lv_iload_n hx hb0 dX8_sight_7 rfl (lv_at hl 2 rfl) ?_
  refine gx_vi ⟨hx, hb0, hml, hown, hts⟩ (gKM_keep _) hk hK hP hD hS 0 [.int x1, .int x2] [.ref (ad 0)] (c_X8_sights l dC dI P ad x1 x2 h_2 _ he) gm_X8_sights im_yX8_sights se_yX8_sights ml_RX8_133 (by decide) (mE_0 _) rfl rfl rfl ⟨Nat.le_of_ble_eq_true rfl, Nat.le_of_ble_eq_true rfl⟩ rfl hl.1 rfl (Nat.le_of_ble_eq_true rfl) dX8_sight_8 ⟨Nat.zero_le _, Nat.zero_le _⟩ (fun r_3 h_4 he H locs hP hD hS => ?_)
  refine gx_vi ⟨hx, hb0, hml, hown, hts⟩ (gKM_keep _) hk hK hP hD hS 0 [.int r_3] [] (c_X8_recorded l dC dI P ad r_3 h_4 _ he) gm_X8_recorded im_yX8_recorded se_yX8_recorded ml_RX8_115 (by decide) (mE_0 _) rfl rfl rfl ⟨Nat.le_of_ble_eq_true rfl, Nat.le_of_ble_eq_true rfl⟩ rfl hl.1 rfl (Nat.le_of_ble_eq_true rfl) dX8_sight_11 ⟨Nat.zero_le _, Nat.zero_le _⟩ (fun r_5 h_6 he H locs hP hD hS => ?_)
  exact gx_iret hx hb0 hr hlocks hK hP hD hS he dX8_sight_14
theorem gm_X8_sight : gMeth yX8_sight cX8_sight 3 (some .int) 2 := ⟨⟨by decide, by decide, by decide +kernel⟩, ini_RX8, co_yX8_sight⟩
abbrev rm_X8_agree : Room := { frames := 5, cells := 0, slots := 0, locals := 116 }
set_option maxHeartbeats 4000000 in
set_option maxRecDepth 100000 in
theorem c_X8_agree (l : Launch) (dC : Nat → ClassId) (dI : Nat → Nat → Nat) (P : gP) (ad : Nat → Nat) (h0 : Hp) (Q : Int32 → Hp → Prop) (he : F_X8_agree  h0 Q) : Met l yX8_agree (Cond.code yX8_agree cX8_agree 1 (some .int) :: TB) rm_X8_agree (gPc (dC, dI) vwCl (tyC P) 7 (mE P ad) ad gKM h0 [.ref (ad 0)]) (gQi (dC, dI) vwCl (tyC P) 7 (mE P ad) ad Q) 0 0 (gA 7 ad) := by
  refine gx_start (by decide) (Nat.le_of_ble_eq_true rfl) (fun p e s m below meth c ls hx hb0 hr hlocks hml hown hts hK hk hP hD hS hl => ?_)
  have hl : lv_has ls 1 [(0, .ref (ad 0))] := hl
  have hown : s.vm.findClass RX8 = some m.cls := hown
  unfold F_X8_agree at he
  refine lv_aload_n hx hb0 dX8_agree_0 rfl (lv_at hl 0 rfl) ?_
  refine gx_vv ⟨hx, hb0, hml, hown, hts⟩ (gKM_keep _) hk hK hP hD hS 0 [] [] (c_X8_putAside l dC dI P ad  h0 _ he) gm_X8_putAside im_yX8_putAside se_yX8_putAside ml_RX8_47 (by decide) (mE_0 _) rfl rfl rfl ⟨Nat.le_of_ble_eq_true rfl, Nat.le_of_ble_eq_true rfl⟩ rfl hl.1 rfl (Nat.le_of_ble_eq_true rfl) dX8_agree_1 ⟨Nat.zero_le _, Nat.zero_le _⟩ (fun h_2 he H locs hP hD hS => ?_)
  refine lv_aload_n hx hb0 dX8_agree_4 rfl (lv_at hl 0 rfl) ?_
  refine lv_aload_n hx hb0 dX8_agree_5 rfl (lv_at hl 0 rfl) ?_
  refine gx_vi ⟨hx, hb0, hml, hown, hts⟩ (gKM_keep _) hk hK hP hD hS 0 [] [.ref (ad 0)] (c_X8_agrees l dC dI P ad  h_2 _ he) gm_X8_agrees im_yX8_agrees se_yX8_agrees ml_RX8_136 (by decide) (mE_0 _) rfl rfl rfl ⟨Nat.le_of_ble_eq_true rfl, Nat.le_of_ble_eq_true rfl⟩ rfl hl.1 rfl (Nat.le_of_ble_eq_true rfl) dX8_agree_6 ⟨Nat.zero_le _, Nat.zero_le _⟩ (fun r_3 h_4 he H locs hP hD hS => ?_)
  refine gx_vi ⟨hx, hb0, hml, hown, hts⟩ (gKM_keep _) hk hK hP hD hS 0 [.int r_3] [] (c_X8_recorded l dC dI P ad r_3 h_4 _ he) gm_X8_recorded im_yX8_recorded se_yX8_recorded ml_RX8_115 (by decide) (mE_0 _) rfl rfl rfl ⟨Nat.le_of_ble_eq_true rfl, Nat.le_of_ble_eq_true rfl⟩ rfl hl.1 rfl (Nat.le_of_ble_eq_true rfl) dX8_agree_9 ⟨Nat.zero_le _, Nat.zero_le _⟩ (fun r_5 h_6 he H locs hP hD hS => ?_)
  exact gx_iret hx hb0 hr hlocks hK hP hD hS he dX8_agree_12
theorem gm_X8_agree : gMeth yX8_agree cX8_agree 1 (some .int) 0 := ⟨⟨by decide, by decide, by decide +kernel⟩, ini_RX8, co_yX8_agree⟩
abbrev rm_X8_sail : Room := { frames := 3, cells := 0, slots := 0, locals := 64 }
set_option maxHeartbeats 4000000 in
set_option maxRecDepth 100000 in
theorem c_X8_sail (l : Launch) (dC : Nat → ClassId) (dI : Nat → Nat → Nat) (P : gP) (ad : Nat → Nat) (x1 : Int32) (h0 : Hp) (Q : Int32 → Hp → Prop) (he : F_X8_sail x1 h0 Q) : Met l yX8_sail (Cond.code yX8_sail cX8_sail 2 (some .int) :: TB) rm_X8_sail (gPc (dC, dI) vwCl (tyC P) 7 (mE P ad) ad gKM h0 [.ref (ad 0), .int x1]) (gQi (dC, dI) vwCl (tyC P) 7 (mE P ad) ad Q) 0 0 (gA 7 ad) := by
  refine gx_start (by decide) (Nat.le_of_ble_eq_true rfl) (fun p e s m below meth c ls hx hb0 hr hlocks hml hown hts hK hk hP hD hS hl => ?_)
  have hl : lv_has ls 2 [(0, .ref (ad 0)), (1, .int x1)] := hl
  have hown : s.vm.findClass RX8 = some m.cls := hown
  unfold F_X8_sail at he
  refine lv_aload_n hx hb0 dX8_sail_0 rfl (lv_at hl 0 rfl) ?_
  refine gx_vv ⟨hx, hb0, hml, hown, hts⟩ (gKM_keep _) hk hK hP hD hS 0 [] [] (c_X8_putAside l dC dI P ad  h0 _ he) gm_X8_putAside im_yX8_putAside se_yX8_putAside ml_RX8_47 (by decide) (mE_0 _) rfl rfl rfl ⟨Nat.le_of_ble_eq_true rfl, Nat.le_of_ble_eq_true rfl⟩ rfl hl.1 rfl (Nat.le_of_ble_eq_true rfl) dX8_sail_1 ⟨Nat.zero_le _, Nat.zero_le _⟩ (fun h_2 he H locs hP hD hS => ?_)
  refine lv_aload_n hx hb0 dX8_sail_4 rfl (lv_at hl 0 rfl) ?_
  refine lv_aload_n hx hb0 dX8_sail_5 rfl (lv_at hl 0 rfl) ?_
  refine lv_iload_n hx hb0 dX8_sail_6 rfl (lv_at hl 1 rfl) ?_
  refine gx_vi ⟨hx, hb0, hml, hown, hts⟩ (gKM_keep _) hk hK hP hD hS 0 [.int x1] [.ref (ad 0)] (c_X8_sails l dC dI P ad x1 h_2 _ he) gm_X8_sails im_yX8_sails se_yX8_sails ml_RX8_139 (by decide) (mE_0 _) rfl rfl rfl ⟨Nat.le_of_ble_eq_true rfl, Nat.le_of_ble_eq_true rfl⟩ rfl hl.1 rfl (Nat.le_of_ble_eq_true rfl) dX8_sail_7 ⟨Nat.zero_le _, Nat.zero_le _⟩ (fun r_3 h_4 he H locs hP hD hS => ?_)
  refine gx_vi ⟨hx, hb0, hml, hown, hts⟩ (gKM_keep _) hk hK hP hD hS 0 [.int r_3] [] (c_X8_recorded l dC dI P ad r_3 h_4 _ he) gm_X8_recorded im_yX8_recorded se_yX8_recorded ml_RX8_115 (by decide) (mE_0 _) rfl rfl rfl ⟨Nat.le_of_ble_eq_true rfl, Nat.le_of_ble_eq_true rfl⟩ rfl hl.1 rfl (Nat.le_of_ble_eq_true rfl) dX8_sail_10 ⟨Nat.zero_le _, Nat.zero_le _⟩ (fun r_5 h_6 he H locs hP hD hS => ?_)
  exact gx_iret hx hb0 hr hlocks hK hP hD hS he dX8_sail_13
theorem gm_X8_sail : gMeth yX8_sail cX8_sail 2 (some .int) 1 := ⟨⟨by decide, by decide, by decide +kernel⟩, ini_RX8, co_yX8_sail⟩
abbrev rm_X8_night : Room := { frames := 2, cells := 0, slots := 0, locals := 45 }
set_option maxHeartbeats 4000000 in
set_option maxRecDepth 100000 in
theorem c_X8_night (l : Launch) (dC : Nat → ClassId) (dI : Nat → Nat → Nat) (P : gP) (ad : Nat → Nat) (h0 : Hp) (Q : Int32 → Hp → Prop) (he : F_X8_night  h0 Q) : Met l yX8_night (Cond.code yX8_night cX8_night 1 (some .int) :: TB) rm_X8_night (gPc (dC, dI) vwCl (tyC P) 7 (mE P ad) ad gKM h0 [.ref (ad 0)]) (gQi (dC, dI) vwCl (tyC P) 7 (mE P ad) ad Q) 0 0 (gA 7 ad) := by
  refine gx_start (by decide) (Nat.le_of_ble_eq_true rfl) (fun p e s m below meth c ls hx hb0 hr hlocks hml hown hts hK hk hP hD hS hl => ?_)
  have hl : lv_has ls 1 [(0, .ref (ad 0))] := hl
  have hown : s.vm.findClass RX8 = some m.cls := hown
  unfold F_X8_night at he
  refine lv_aload_n hx hb0 dX8_night_0 rfl (lv_at hl 0 rfl) ?_
  refine gx_vv ⟨hx, hb0, hml, hown, hts⟩ (gKM_keep _) hk hK hP hD hS 0 [] [] (c_X8_putAside l dC dI P ad  h0 _ he) gm_X8_putAside im_yX8_putAside se_yX8_putAside ml_RX8_47 (by decide) (mE_0 _) rfl rfl rfl ⟨Nat.le_of_ble_eq_true rfl, Nat.le_of_ble_eq_true rfl⟩ rfl hl.1 rfl (Nat.le_of_ble_eq_true rfl) dX8_night_1 ⟨Nat.zero_le _, Nat.zero_le _⟩ (fun h_2 he H locs hP hD hS => ?_)
  refine lv_aload_n hx hb0 dX8_night_4 rfl (lv_at hl 0 rfl) ?_
  refine lv_aload_n hx hb0 dX8_night_5 rfl (lv_at hl 0 rfl) ?_
  refine gx_vi ⟨hx, hb0, hml, hown, hts⟩ (gKM_keep _) hk hK hP hD hS 0 [] [.ref (ad 0)] (c_X8_ends l dC dI P ad  h_2 _ he) gm_X8_ends im_yX8_ends se_yX8_ends ml_RX8_142 (by decide) (mE_0 _) rfl rfl rfl ⟨Nat.le_of_ble_eq_true rfl, Nat.le_of_ble_eq_true rfl⟩ rfl hl.1 rfl (Nat.le_of_ble_eq_true rfl) dX8_night_6 ⟨Nat.zero_le _, Nat.zero_le _⟩ (fun r_3 h_4 he H locs hP hD hS => ?_)
  refine gx_vi ⟨hx, hb0, hml, hown, hts⟩ (gKM_keep _) hk hK hP hD hS 0 [.int r_3] [] (c_X8_recorded l dC dI P ad r_3 h_4 _ he) gm_X8_recorded im_yX8_recorded se_yX8_recorded ml_RX8_115 (by decide) (mE_0 _) rfl rfl rfl ⟨Nat.le_of_ble_eq_true rfl, Nat.le_of_ble_eq_true rfl⟩ rfl hl.1 rfl (Nat.le_of_ble_eq_true rfl) dX8_night_9 ⟨Nat.zero_le _, Nat.zero_le _⟩ (fun r_5 h_6 he H locs hP hD hS => ?_)
  exact gx_iret hx hb0 hr hlocks hK hP hD hS he dX8_night_12
theorem gm_X8_night : gMeth yX8_night cX8_night 1 (some .int) 0 := ⟨⟨by decide, by decide, by decide +kernel⟩, ini_RX8, co_yX8_night⟩
abbrev rm_X8_estimate : Room := { frames := 1, cells := 0, slots := 0, locals := 22 }
set_option maxHeartbeats 4000000 in
set_option maxRecDepth 100000 in
theorem c_X8_estimate (l : Launch) (dC : Nat → ClassId) (dI : Nat → Nat → Nat) (P : gP) (ad : Nat → Nat) (x1 : Int32) (h0 : Hp) (Q : Int32 → Hp → Prop) (he : F_X8_estimate x1 h0 Q) : Met l yX8_estimate (Cond.code yX8_estimate cX8_estimate 2 (some .int) :: TB) rm_X8_estimate (gPc (dC, dI) vwCl (tyC P) 7 (mE P ad) ad gKM h0 [.ref (ad 0), .int x1]) (gQi (dC, dI) vwCl (tyC P) 7 (mE P ad) ad Q) 0 0 (gA 7 ad) := by
  refine gx_start (by decide) (Nat.le_of_ble_eq_true rfl) (fun p e s m below meth c ls hx hb0 hr hlocks hml hown hts hK hk hP hD hS hl => ?_)
  have hl : lv_has ls 2 [(0, .ref (ad 0)), (1, .int x1)] := hl
  have hown : s.vm.findClass RX8 = some m.cls := hown
  unfold F_X8_estimate at he
  refine lv_aload_n hx hb0 dX8_estimate_0 rfl (lv_at hl 0 rfl) ?_
  refine lv_iload_n hx hb0 dX8_estimate_1 rfl (lv_at hl 1 rfl) ?_
  refine lv_iconst (v := (5 : Int32)) hx hb0 dX8_estimate_2 (by decide) ?_
  refine gx_vi ⟨hx, hb0, hml, hown, hts⟩ (gKM_keep _) hk hK hP hD hS 0 [.int x1, .int (5 : Int32)] [] (c_X8_number l dC dI P ad x1 (5 : Int32) h0 _ he) gm_X8_number im_yX8_number se_yX8_number ml_RX8_54 (by decide) (mE_0 _) rfl rfl rfl ⟨Nat.le_of_ble_eq_true rfl, Nat.le_of_ble_eq_true rfl⟩ rfl hl.1 rfl (Nat.le_of_ble_eq_true rfl) dX8_estimate_3 ⟨Nat.zero_le _, Nat.zero_le _⟩ (fun r_1 h_2 he H locs hP hD hS => ?_)
  refine lv_iconst (v := (1 : Int32)) hx hb0 dX8_estimate_6 (by decide) ?_
  refine lv_icmp_ne (tgt := 24) hx hb0 dX8_estimate_7 (by decide) (fun c_3 => ?_) (fun c_3 => ?_)
  · have he := he.2 c_3
    refine lv_bipush (v := (-6 : Int32)) hx hb0 dX8_estimate_24 (by decide) ?_
    exact gx_iret hx hb0 hr hlocks hK hP hD hS he dX8_estimate_26
  · have he := he.1 c_3
    refine lv_aload_n hx hb0 dX8_estimate_10 rfl (lv_at hl 0 rfl) ?_
    refine lv_iload_n hx hb0 dX8_estimate_11 rfl (lv_at hl 1 rfl) ?_
    refine lv_bipush (v := (6 : Int32)) hx hb0 dX8_estimate_12 (by decide) ?_
    refine gx_vi ⟨hx, hb0, hml, hown, hts⟩ (gKM_keep _) hk hK hP hD hS 0 [.int x1, .int (6 : Int32)] [] (c_X8_number l dC dI P ad x1 (6 : Int32) h_2 _ he) gm_X8_number im_yX8_number se_yX8_number ml_RX8_54 (by decide) (mE_0 _) rfl rfl rfl ⟨Nat.le_of_ble_eq_true rfl, Nat.le_of_ble_eq_true rfl⟩ rfl hl.1 rfl (Nat.le_of_ble_eq_true rfl) dX8_estimate_14 ⟨Nat.zero_le _, Nat.zero_le _⟩ (fun r_4 h_5 he H locs hP hD hS => ?_)
    refine lv_sipush (v := (5400 : Int32)) hx hb0 dX8_estimate_17 (by decide) ?_
    refine lv_iadd hx hb0 dX8_estimate_20 ?_
    refine lv_goto (tgt := 26) hx hb0 dX8_estimate_21 (by decide) ?_
    exact gx_iret hx hb0 hr hlocks hK hP hD hS he dX8_estimate_26
theorem gm_X8_estimate : gMeth yX8_estimate cX8_estimate 2 (some .int) 1 := ⟨⟨by decide, by decide, by decide +kernel⟩, ini_RX8, co_yX8_estimate⟩
abbrev rm_X8_of : Room := { frames := 2, cells := 0, slots := 0, locals := 44 }
set_option maxHeartbeats 4000000 in
set_option maxRecDepth 100000 in
theorem c_X8_of (l : Launch) (dC : Nat → ClassId) (dI : Nat → Nat → Nat) (P : gP) (ad : Nat → Nat) (x1 : Int32) (x2 : Int32) (h0 : Hp) (Q : Int32 → Hp → Prop) (he : F_X8_of x1 x2 h0 Q) : Met l yX8_of (Cond.code yX8_of cX8_of 3 (some .int) :: TB) rm_X8_of (gPc (dC, dI) vwCl (tyC P) 7 (mE P ad) ad gKM h0 [.ref (ad 0), .int x1, .int x2]) (gQi (dC, dI) vwCl (tyC P) 7 (mE P ad) ad Q) 0 0 (gA 7 ad) := by
  refine gx_start (by decide) (Nat.le_of_ble_eq_true rfl) (fun p e s m below meth c ls hx hb0 hr hlocks hml hown hts hK hk hP hD hS hl => ?_)
  have hl : lv_has ls 3 [(0, .ref (ad 0)), (1, .int x1), (2, .int x2)] := hl
  have hown : s.vm.findClass RX8 = some m.cls := hown
  unfold F_X8_of at he
  refine lv_iload_n hx hb0 dX8_of_0 rfl (lv_at hl 1 rfl) ?_
  refine gx_si ⟨hx, hb0, hml, hown, hts⟩ (gKM_keep _) hk hK hP hD hS [.int x1] [] (c_X8_isNavigator l dC dI P ad x1 h0 _ he) gm_X8_isNavigator st_yX8_isNavigator ml_RX8_67 rfl rfl ⟨Nat.le_of_ble_eq_true rfl, Nat.le_of_ble_eq_true rfl⟩ rfl hl.1 rfl (Nat.le_of_ble_eq_true rfl) dX8_of_1 ⟨Nat.zero_le _, Nat.zero_le _⟩ (fun r_1 h_2 he H locs hP hD hS => ?_)
  refine lv_if_ne (tgt := 9) hx hb0 dX8_of_4 (by decide) (fun c_3 => ?_) (fun c_3 => ?_)
  · have he := he.2 c_3
    refine lv_iload_n hx hb0 dX8_of_9 rfl (lv_at hl 2 rfl) ?_
    by_cases c_4 : x2 = 0
    · have he := he.1 c_4
      refine lv_tableIn (off := 46) (tgt := 56) hx hb0 dX8_of_10 (by rw [c_4]; decide) (by rw [c_4]; decide) (by rw [c_4]; rfl) (by decide) ?_
      refine lv_aload_n hx hb0 dX8_of_56 rfl (lv_at hl 0 rfl) ?_
      refine lv_iload_n hx hb0 dX8_of_57 rfl (lv_at hl 1 rfl) ?_
      refine lv_iload_n hx hb0 dX8_of_58 rfl (lv_at hl 2 rfl) ?_
      refine gx_vi ⟨hx, hb0, hml, hown, hts⟩ (gKM_keep _) hk hK hP hD hS 0 [.int x1, .int x2] [] (c_X8_number l dC dI P ad x1 x2 h_2 _ he) gm_X8_number im_yX8_number se_yX8_number ml_RX8_54 (by decide) (mE_0 _) rfl rfl rfl ⟨Nat.le_of_ble_eq_true rfl, Nat.le_of_ble_eq_true rfl⟩ rfl hl.1 rfl (Nat.le_of_ble_eq_true rfl) dX8_of_59 ⟨Nat.zero_le _, Nat.zero_le _⟩ (fun r_5 h_6 he H locs hP hD hS => ?_)
      exact gx_iret hx hb0 hr hlocks hK hP hD hS he dX8_of_62
    have he := he.2 c_4
    by_cases c_7 : x2 = 1
    · have he := he.1 c_7
      refine lv_tableIn (off := 53) (tgt := 63) hx hb0 dX8_of_10 (by rw [c_7]; decide) (by rw [c_7]; decide) (by rw [c_7]; rfl) (by decide) ?_
      refine lv_aload_n hx hb0 dX8_of_63 rfl (lv_at hl 0 rfl) ?_
      refine lv_iload_n hx hb0 dX8_of_64 rfl (lv_at hl 1 rfl) ?_
      refine lv_iconst (v := (1 : Int32)) hx hb0 dX8_of_65 (by decide) ?_
      refine gx_vi ⟨hx, hb0, hml, hown, hts⟩ (gKM_keep _) hk hK hP hD hS 0 [.int x1, .int (1 : Int32)] [] (c_X8_number l dC dI P ad x1 (1 : Int32) h_2 _ he) gm_X8_number im_yX8_number se_yX8_number ml_RX8_54 (by decide) (mE_0 _) rfl rfl rfl ⟨Nat.le_of_ble_eq_true rfl, Nat.le_of_ble_eq_true rfl⟩ rfl hl.1 rfl (Nat.le_of_ble_eq_true rfl) dX8_of_66 ⟨Nat.zero_le _, Nat.zero_le _⟩ (fun r_8 h_9 he H locs hP hD hS => ?_)
      refine lv_bipush (v := (60 : Int32)) hx hb0 dX8_of_69 (by decide) ?_
      refine lv_iadd hx hb0 dX8_of_71 ?_
      exact gx_iret hx hb0 hr hlocks hK hP hD hS he dX8_of_72
    have he := he.2 c_7
    by_cases c_10 : x2 = 2
    · have he := he.1 c_10
      refine lv_tableIn (off := 46) (tgt := 56) hx hb0 dX8_of_10 (by rw [c_10]; decide) (by rw [c_10]; decide) (by rw [c_10]; rfl) (by decide) ?_
      refine lv_aload_n hx hb0 dX8_of_56 rfl (lv_at hl 0 rfl) ?_
      refine lv_iload_n hx hb0 dX8_of_57 rfl (lv_at hl 1 rfl) ?_
      refine lv_iload_n hx hb0 dX8_of_58 rfl (lv_at hl 2 rfl) ?_
      refine gx_vi ⟨hx, hb0, hml, hown, hts⟩ (gKM_keep _) hk hK hP hD hS 0 [.int x1, .int x2] [] (c_X8_number l dC dI P ad x1 x2 h_2 _ he) gm_X8_number im_yX8_number se_yX8_number ml_RX8_54 (by decide) (mE_0 _) rfl rfl rfl ⟨Nat.le_of_ble_eq_true rfl, Nat.le_of_ble_eq_true rfl⟩ rfl hl.1 rfl (Nat.le_of_ble_eq_true rfl) dX8_of_59 ⟨Nat.zero_le _, Nat.zero_le _⟩ (fun r_11 h_12 he H locs hP hD hS => ?_)
      exact gx_iret hx hb0 hr hlocks hK hP hD hS he dX8_of_62
    have he := he.2 c_10
    by_cases c_13 : x2 = 3
    · have he := he.1 c_13
      refine lv_tableIn (off := 46) (tgt := 56) hx hb0 dX8_of_10 (by rw [c_13]; decide) (by rw [c_13]; decide) (by rw [c_13]; rfl) (by decide) ?_
      refine lv_aload_n hx hb0 dX8_of_56 rfl (lv_at hl 0 rfl) ?_
      refine lv_iload_n hx hb0 dX8_of_57 rfl (lv_at hl 1 rfl) ?_
      refine lv_iload_n hx hb0 dX8_of_58 rfl (lv_at hl 2 rfl) ?_
      refine gx_vi ⟨hx, hb0, hml, hown, hts⟩ (gKM_keep _) hk hK hP hD hS 0 [.int x1, .int x2] [] (c_X8_number l dC dI P ad x1 x2 h_2 _ he) gm_X8_number im_yX8_number se_yX8_number ml_RX8_54 (by decide) (mE_0 _) rfl rfl rfl ⟨Nat.le_of_ble_eq_true rfl, Nat.le_of_ble_eq_true rfl⟩ rfl hl.1 rfl (Nat.le_of_ble_eq_true rfl) dX8_of_59 ⟨Nat.zero_le _, Nat.zero_le _⟩ (fun r_14 h_15 he H locs hP hD hS => ?_)
      exact gx_iret hx hb0 hr hlocks hK hP hD hS he dX8_of_62
    have he := he.2 c_13
    by_cases c_16 : x2 = 4
    · have he := he.1 c_16
      refine lv_tableIn (off := 46) (tgt := 56) hx hb0 dX8_of_10 (by rw [c_16]; decide) (by rw [c_16]; decide) (by rw [c_16]; rfl) (by decide) ?_
      refine lv_aload_n hx hb0 dX8_of_56 rfl (lv_at hl 0 rfl) ?_
      refine lv_iload_n hx hb0 dX8_of_57 rfl (lv_at hl 1 rfl) ?_
      refine lv_iload_n hx hb0 dX8_of_58 rfl (lv_at hl 2 rfl) ?_
      refine gx_vi ⟨hx, hb0, hml, hown, hts⟩ (gKM_keep _) hk hK hP hD hS 0 [.int x1, .int x2] [] (c_X8_number l dC dI P ad x1 x2 h_2 _ he) gm_X8_number im_yX8_number se_yX8_number ml_RX8_54 (by decide) (mE_0 _) rfl rfl rfl ⟨Nat.le_of_ble_eq_true rfl, Nat.le_of_ble_eq_true rfl⟩ rfl hl.1 rfl (Nat.le_of_ble_eq_true rfl) dX8_of_59 ⟨Nat.zero_le _, Nat.zero_le _⟩ (fun r_17 h_18 he H locs hP hD hS => ?_)
      exact gx_iret hx hb0 hr hlocks hK hP hD hS he dX8_of_62
    have he := he.2 c_16
    by_cases c_19 : x2 = 5
    · have he := he.1 c_19
      refine lv_tableIn (off := 63) (tgt := 73) hx hb0 dX8_of_10 (by rw [c_19]; decide) (by rw [c_19]; decide) (by rw [c_19]; rfl) (by decide) ?_
      refine lv_aload_n hx hb0 dX8_of_73 rfl (lv_at hl 0 rfl) ?_
      refine lv_iload_n hx hb0 dX8_of_74 rfl (lv_at hl 1 rfl) ?_
      refine gx_vi ⟨hx, hb0, hml, hown, hts⟩ (gKM_keep _) hk hK hP hD hS 0 [.int x1] [] (c_X8_estimate l dC dI P ad x1 h_2 _ he) gm_X8_estimate im_yX8_estimate se_yX8_estimate ml_RX8_145 (by decide) (mE_0 _) rfl rfl rfl ⟨Nat.le_of_ble_eq_true rfl, Nat.le_of_ble_eq_true rfl⟩ rfl hl.1 rfl (Nat.le_of_ble_eq_true rfl) dX8_of_75 ⟨Nat.zero_le _, Nat.zero_le _⟩ (fun r_20 h_21 he H locs hP hD hS => ?_)
      exact gx_iret hx hb0 hr hlocks hK hP hD hS he dX8_of_78
    have he := he.2 c_19
    by_cases c_22 : x2 = 6
    · have he := he.1 c_22
      refine lv_tableIn (off := 69) (tgt := 79) hx hb0 dX8_of_10 (by rw [c_22]; decide) (by rw [c_22]; decide) (by rw [c_22]; rfl) (by decide) ?_
      refine lv_aload_n hx hb0 dX8_of_79 rfl (lv_at hl 0 rfl) ?_
      refine lv_iload_n hx hb0 dX8_of_80 rfl (lv_at hl 1 rfl) ?_
      refine lv_bipush (v := (7 : Int32)) hx hb0 dX8_of_81 (by decide) ?_
      refine gx_vi ⟨hx, hb0, hml, hown, hts⟩ (gKM_keep _) hk hK hP hD hS 0 [.int x1, .int (7 : Int32)] [] (c_X8_number l dC dI P ad x1 (7 : Int32) h_2 _ he) gm_X8_number im_yX8_number se_yX8_number ml_RX8_54 (by decide) (mE_0 _) rfl rfl rfl ⟨Nat.le_of_ble_eq_true rfl, Nat.le_of_ble_eq_true rfl⟩ rfl hl.1 rfl (Nat.le_of_ble_eq_true rfl) dX8_of_83 ⟨Nat.zero_le _, Nat.zero_le _⟩ (fun r_23 h_24 he H locs hP hD hS => ?_)
      exact gx_iret hx hb0 hr hlocks hK hP hD hS he dX8_of_86
    have he := he.2 c_22
    by_cases c_25 : x2 = 7
    · have he := he.1 c_25
      refine lv_tableIn (off := 77) (tgt := 87) hx hb0 dX8_of_10 (by rw [c_25]; decide) (by rw [c_25]; decide) (by rw [c_25]; rfl) (by decide) ?_
      refine lv_aload_n hx hb0 dX8_of_87 rfl (lv_at hl 0 rfl) ?_
      refine lv_iload_n hx hb0 dX8_of_88 rfl (lv_at hl 1 rfl) ?_
      refine gx_vi ⟨hx, hb0, hml, hown, hts⟩ (gKM_keep _) hk hK hP hD hS 0 [.int x1] [] (c_X8_error l dC dI P ad x1 h_2 _ he) gm_X8_error im_yX8_error se_yX8_error ml_RX8_61 (by decide) (mE_0 _) rfl rfl rfl ⟨Nat.le_of_ble_eq_true rfl, Nat.le_of_ble_eq_true rfl⟩ rfl hl.1 rfl (Nat.le_of_ble_eq_true rfl) dX8_of_89 ⟨Nat.zero_le _, Nat.zero_le _⟩ (fun r_26 h_27 he H locs hP hD hS => ?_)
      refine lv_sipush (v := (999 : Int32)) hx hb0 dX8_of_92 (by decide) ?_
      refine lv_iadd hx hb0 dX8_of_95 ?_
      exact gx_iret hx hb0 hr hlocks hK hP hD hS he dX8_of_96
    have he := he.2 c_25
    refine lv_tableOut (tgt := 97) hx hb0 dX8_of_10 (by have z0 := lv_neT c_4 (a := 0) rfl; have z1 := lv_neT c_7 (a := 1) rfl; have z2 := lv_neT c_10 (a := 2) rfl; have z3 := lv_neT c_13 (a := 3) rfl; have z4 := lv_neT c_16 (a := 4) rfl; have z5 := lv_neT c_19 (a := 5) rfl; have z6 := lv_neT c_22 (a := 6) rfl; have z7 := lv_neT c_25 (a := 7) rfl; omega) (by decide) ?_
    refine lv_bipush (v := (-2 : Int32)) hx hb0 dX8_of_97 (by decide) ?_
    exact gx_iret hx hb0 hr hlocks hK hP hD hS he dX8_of_99
  · have he := he.1 c_3
    refine lv_iconst (v := (-1 : Int32)) hx hb0 dX8_of_7 (by decide) ?_
    exact gx_iret hx hb0 hr hlocks hK hP hD hS he dX8_of_8
theorem gm_X8_of : gMeth yX8_of cX8_of 3 (some .int) 2 := ⟨⟨by decide, by decide, by decide +kernel⟩, ini_RX8, co_yX8_of⟩
abbrev rm_X8_whoCan : Room := { frames := 3, cells := 0, slots := 0, locals := 63 }
set_option maxHeartbeats 4000000 in
set_option maxRecDepth 100000 in
theorem l_X8_whoCan_4 (l : Launch) (dC : Nat → ClassId) (dI : Nat → Nat → Nat) (P : gP) (ad : Nat → Nat) {p : Program} {e : Env} {s : State} {m : MethodId} {args : Array Value} {below : List Frame} {meth : Method} {c : Code} (hx : p.tables.exec = Jvm.exec) (hb0 : c.code = cX8_whoCan) (hr : meth.sig.returnType = (some .int)) (hlocks : meth.locks = false) (hml : c.maxLocals = 4) (hown : s.vm.findClass RX8 = some m.cls) (hts : ∀ w ∈ TB, w.before args s = true) (hK : va_K (dC, dI) vwCl (tyC P) s) (hk : gKM s) (Q : Int32 → Hp → Prop) : ∀ (n : Nat) (y1 : Int32) (y2 : Int32) (y3 : Int32) (h0 : Hp), F_X8_whoCan_L4  n y1 y2 y3 h0 Q → ∀ (H : Heap) (locs : List Loc) (ls : Array Slot), va_P (dC, dI) vwCl (gW 7 (mE P ad) ad h0) H → va_D (gA 7 ad) (gW 7 (mE P ad) ad h0) → va_S (gA 7 ad) s.heap H locs → lv_has ls 4 [(0, .ref (ad 0)), (1, .int y1), (2, .int y2), (3, .int y3)] → W p l e rm_X8_whoCan s m args below meth c H locs 0 0 (MQ below (gQi (dC, dI) vwCl (tyC P) 7 (mE P ad) ad Q) args s 0 0 (gA 7 ad)) (F0 m 4 ls []) := by
  intro n
  induction n with
  | zero =>
    intro y1 y2 y3 h0 he
    exact he.elim
  | succ n ih =>
    intro y1 y2 y3 h0 he H locs ls hP hD hS hl
    rw [F_X8_whoCan_L4] at he
    refine lv_iload_n hx hb0 dX8_whoCan_4 rfl (lv_at hl 3 rfl) ?_
    refine lv_bipush (v := (7 : Int32)) hx hb0 dX8_whoCan_5 (by decide) ?_
    refine lv_icmp_ge (tgt := 35) hx hb0 dX8_whoCan_7 (by decide) (fun c_1 => ?_) (fun c_1 => ?_)
    · have he := he.1 c_1
      refine lv_iload_n hx hb0 dX8_whoCan_35 rfl (lv_at hl 2 rfl) ?_
      exact gx_iret hx hb0 hr hlocks hK hP hD hS he dX8_whoCan_36
    · have he := he.2 c_1
      refine lv_iload_n hx hb0 dX8_whoCan_10 rfl (lv_at hl 2 rfl) ?_
      refine lv_aload_n hx hb0 dX8_whoCan_11 rfl (lv_at hl 0 rfl) ?_
      refine lv_iload_n hx hb0 dX8_whoCan_12 rfl (lv_at hl 3 rfl) ?_
      refine lv_iload_n hx hb0 dX8_whoCan_13 rfl (lv_at hl 1 rfl) ?_
      refine gx_vi ⟨hx, hb0, hml, hown, hts⟩ (gKM_keep _) hk hK hP hD hS 0 [.int y3, .int y1] [.int y2] (c_X8_reason l dC dI P ad y3 y1 h0 _ he) gm_X8_reason im_yX8_reason se_yX8_reason ml_RX8_73 (by decide) (mE_0 _) rfl rfl rfl ⟨Nat.le_of_ble_eq_true rfl, Nat.le_of_ble_eq_true rfl⟩ rfl hl.1 rfl (Nat.le_of_ble_eq_true rfl) dX8_whoCan_14 ⟨Nat.zero_le _, Nat.zero_le _⟩ (fun r_2 h_3 he H locs hP hD hS => ?_)
      refine lv_if_ne (tgt := 26) hx hb0 dX8_whoCan_17 (by decide) (fun c_4 => ?_) (fun c_4 => ?_)
      · have he := he.2 c_4
        refine lv_iconst (v := (0 : Int32)) hx hb0 dX8_whoCan_26 (by decide) ?_
        refine lv_ior hx hb0 dX8_whoCan_27 ?_
        refine lv_topi (fun x_5 ex_5 => ?_)
        have he := he x_5 ex_5
        refine lv_istore_n (lv' := [(2, .int x_5), (0, .ref (ad 0)), (1, .int y1), (3, .int y3)]) hx hb0 dX8_whoCan_28 rfl hl (by decide) rfl (fun ls hl => ?_)
        obtain ⟨x_6, ex_6⟩ : ∃ y : Int32, y = y3 + 1 := ⟨_, rfl⟩
        have he := he x_6 ex_6
        refine lv_iinc (v := x_6) (lv' := [(3, .int x_6), (2, .int x_5), (0, .ref (ad 0)), (1, .int y1)]) hx hb0 dX8_whoCan_29 hl (k := 3) rfl (by rw [ex_6]; rfl) (by decide) rfl (fun ls hl => ?_)
        refine lv_goto (tgt := 4) hx hb0 dX8_whoCan_32 (by decide) ?_
        exact ih y1 x_5 x_6 h_3 he _ _ ls hP hD hS (lv_sub hl [2, 3, 1, 0] rfl)
      · have he := he.1 c_4
        refine lv_iconst (v := (1 : Int32)) hx hb0 dX8_whoCan_20 (by decide) ?_
        refine lv_iload_n hx hb0 dX8_whoCan_21 rfl (lv_at hl 3 rfl) ?_
        refine lv_ishl hx hb0 dX8_whoCan_22 ?_
        refine lv_goto (tgt := 27) hx hb0 dX8_whoCan_23 (by decide) ?_
        refine lv_ior hx hb0 dX8_whoCan_27 ?_
        refine lv_topi (fun x_7 ex_7 => ?_)
        have he := he x_7 ex_7
        refine lv_istore_n (lv' := [(2, .int x_7), (0, .ref (ad 0)), (1, .int y1), (3, .int y3)]) hx hb0 dX8_whoCan_28 rfl hl (by decide) rfl (fun ls hl => ?_)
        obtain ⟨x_8, ex_8⟩ : ∃ y : Int32, y = y3 + 1 := ⟨_, rfl⟩
        have he := he x_8 ex_8
        refine lv_iinc (v := x_8) (lv' := [(3, .int x_8), (2, .int x_7), (0, .ref (ad 0)), (1, .int y1)]) hx hb0 dX8_whoCan_29 hl (k := 3) rfl (by rw [ex_8]; rfl) (by decide) rfl (fun ls hl => ?_)
        refine lv_goto (tgt := 4) hx hb0 dX8_whoCan_32 (by decide) ?_
        exact ih y1 x_7 x_8 h_3 he _ _ ls hP hD hS (lv_sub hl [2, 3, 1, 0] rfl)
set_option maxHeartbeats 4000000 in
set_option maxRecDepth 100000 in
theorem c_X8_whoCan (l : Launch) (dC : Nat → ClassId) (dI : Nat → Nat → Nat) (P : gP) (ad : Nat → Nat) (x1 : Int32) (h0 : Hp) (Q : Int32 → Hp → Prop) (he : F_X8_whoCan x1 h0 Q) : Met l yX8_whoCan (Cond.code yX8_whoCan cX8_whoCan 4 (some .int) :: TB) rm_X8_whoCan (gPc (dC, dI) vwCl (tyC P) 7 (mE P ad) ad gKM h0 [.ref (ad 0), .int x1]) (gQi (dC, dI) vwCl (tyC P) 7 (mE P ad) ad Q) 0 0 (gA 7 ad) := by
  refine gx_start (by decide) (Nat.le_of_ble_eq_true rfl) (fun p e s m below meth c ls hx hb0 hr hlocks hml hown hts hK hk hP hD hS hl => ?_)
  have hl : lv_has ls 4 [(0, .ref (ad 0)), (1, .int x1)] := hl
  have hown : s.vm.findClass RX8 = some m.cls := hown
  unfold F_X8_whoCan at he
  refine lv_iconst (v := (0 : Int32)) hx hb0 dX8_whoCan_0 (by decide) ?_
  refine lv_istore_n (lv' := [(2, .int (0 : Int32)), (0, .ref (ad 0)), (1, .int x1)]) hx hb0 dX8_whoCan_1 rfl hl (by decide) rfl (fun ls hl => ?_)
  refine lv_iconst (v := (0 : Int32)) hx hb0 dX8_whoCan_2 (by decide) ?_
  refine lv_istore_n (lv' := [(3, .int (0 : Int32)), (2, .int (0 : Int32)), (0, .ref (ad 0)), (1, .int x1)]) hx hb0 dX8_whoCan_3 rfl hl (by decide) rfl (fun ls hl => ?_)
  obtain ⟨n_9, he⟩ := he
  exact l_X8_whoCan_4 l dC dI P ad  hx hb0 hr hlocks hml hown hts hK hk Q n_9 x1 (0 : Int32) (0 : Int32) h0 he _ _ ls hP hD hS (lv_sub hl [2, 3, 1, 0] rfl)
theorem gm_X8_whoCan : gMeth yX8_whoCan cX8_whoCan 4 (some .int) 1 := ⟨⟨by decide, by decide, by decide +kernel⟩, ini_RX8, co_yX8_whoCan⟩
abbrev rm_X8_ofStar : Room := { frames := 4, cells := 0, slots := 0, locals := 86 }
set_option maxHeartbeats 4000000 in
set_option maxRecDepth 100000 in
theorem c_X8_ofStar (l : Launch) (dC : Nat → ClassId) (dI : Nat → Nat → Nat) (P : gP) (ad : Nat → Nat) (x1 : Int32) (x2 : Int32) (h0 : Hp) (Q : Int32 → Hp → Prop) (he : F_X8_ofStar x1 x2 h0 Q) : Met l yX8_ofStar (Cond.code yX8_ofStar cX8_ofStar 3 (some .int) :: TB) rm_X8_ofStar (gPc (dC, dI) vwCl (tyC P) 7 (mE P ad) ad gKM h0 [.ref (ad 0), .int x1, .int x2]) (gQi (dC, dI) vwCl (tyC P) 7 (mE P ad) ad Q) 0 0 (gA 7 ad) := by
  refine gx_start (by decide) (Nat.le_of_ble_eq_true rfl) (fun p e s m below meth c ls hx hb0 hr hlocks hml hown hts hK hk hP hD hS hl => ?_)
  have hl : lv_has ls 3 [(0, .ref (ad 0)), (1, .int x1), (2, .int x2)] := hl
  have hown : s.vm.findClass RX8 = some m.cls := hown
  unfold F_X8_ofStar at he
  refine lv_aload_n hx hb0 dX8_ofStar_0 rfl (lv_at hl 0 rfl) ?_
  refine lv_iload_n hx hb0 dX8_ofStar_1 rfl (lv_at hl 1 rfl) ?_
  refine gx_vi ⟨hx, hb0, hml, hown, hts⟩ (gKM_keep _) hk hK hP hD hS 0 [.int x1] [] (c_X8_isStar l dC dI P ad x1 h0 _ he) gm_X8_isStar im_yX8_isStar se_yX8_isStar ml_RX8_70 (by decide) (mE_0 _) rfl rfl rfl ⟨Nat.le_of_ble_eq_true rfl, Nat.le_of_ble_eq_true rfl⟩ rfl hl.1 rfl (Nat.le_of_ble_eq_true rfl) dX8_ofStar_2 ⟨Nat.zero_le _, Nat.zero_le _⟩ (fun r_1 h_2 he H locs hP hD hS => ?_)
  refine lv_if_ne (tgt := 10) hx hb0 dX8_ofStar_5 (by decide) (fun c_3 => ?_) (fun c_3 => ?_)
  · have he := he.2 c_3
    refine lv_iload_n hx hb0 dX8_ofStar_10 rfl (lv_at hl 2 rfl) ?_
    by_cases c_4 : x2 = 0
    · have he := he.1 c_4
      refine lv_tableIn (off := 29) (tgt := 40) hx hb0 dX8_ofStar_11 (by rw [c_4]; decide) (by rw [c_4]; decide) (by rw [c_4]; rfl) (by decide) ?_
      refine lv_aload_n hx hb0 dX8_ofStar_40 rfl (lv_at hl 0 rfl) ?_
      refine gx_get hx hb0 hts in_RX8 hown hK hP 0 (by decide) (mE_0 _) rfl 0 (by decide) fl_RX8_7 rfl dX8_ofStar_41 ?_
      refine lv_bipush (v := (15 : Int32)) hx hb0 dX8_ofStar_44 (by decide) ?_
      refine lv_iload_n hx hb0 dX8_ofStar_46 rfl (lv_at hl 1 rfl) ?_
      refine lv_iadd hx hb0 dX8_ofStar_47 ?_
      obtain ⟨v_5, he⟩ := he
      refine gx_iald hx hb0 hK hP 1 0 (by decide) mE_1 rfl v_5 dX8_ofStar_48 ?_
      refine lv_sipush (v := (5400 : Int32)) hx hb0 dX8_ofStar_49 (by decide) ?_
      refine lv_iadd hx hb0 dX8_ofStar_52 ?_
      exact gx_iret hx hb0 hr hlocks hK hP hD hS he dX8_ofStar_53
    have he := he.2 c_4
    by_cases c_6 : x2 = 1
    · have he := he.1 c_6
      refine lv_tableIn (off := 43) (tgt := 54) hx hb0 dX8_ofStar_11 (by rw [c_6]; decide) (by rw [c_6]; decide) (by rw [c_6]; rfl) (by decide) ?_
      refine lv_aload_n hx hb0 dX8_ofStar_54 rfl (lv_at hl 0 rfl) ?_
      refine gx_get hx hb0 hts in_RX8 hown hK hP 0 (by decide) (mE_0 _) rfl 0 (by decide) fl_RX8_7 rfl dX8_ofStar_55 ?_
      refine lv_bipush (v := (23 : Int32)) hx hb0 dX8_ofStar_58 (by decide) ?_
      refine lv_iload_n hx hb0 dX8_ofStar_60 rfl (lv_at hl 1 rfl) ?_
      refine lv_iadd hx hb0 dX8_ofStar_61 ?_
      obtain ⟨v_7, he⟩ := he
      refine gx_iald hx hb0 hK hP 1 0 (by decide) mE_1 rfl v_7 dX8_ofStar_62 ?_
      exact gx_iret hx hb0 hr hlocks hK hP hD hS he dX8_ofStar_63
    have he := he.2 c_6
    by_cases c_8 : x2 = 2
    · have he := he.1 c_8
      refine lv_tableIn (off := 53) (tgt := 64) hx hb0 dX8_ofStar_11 (by rw [c_8]; decide) (by rw [c_8]; decide) (by rw [c_8]; rfl) (by decide) ?_
      refine lv_aload_n hx hb0 dX8_ofStar_64 rfl (lv_at hl 0 rfl) ?_
      refine lv_iload_n hx hb0 dX8_ofStar_65 rfl (lv_at hl 1 rfl) ?_
      refine gx_vi ⟨hx, hb0, hml, hown, hts⟩ (gKM_keep _) hk hK hP hD hS 0 [.int x1] [] (c_X8_height l dC dI P ad x1 h_2 _ he) gm_X8_height im_yX8_height se_yX8_height ml_RX8_58 (by decide) (mE_0 _) rfl rfl rfl ⟨Nat.le_of_ble_eq_true rfl, Nat.le_of_ble_eq_true rfl⟩ rfl hl.1 rfl (Nat.le_of_ble_eq_true rfl) dX8_ofStar_66 ⟨Nat.zero_le _, Nat.zero_le _⟩ (fun r_9 h_10 he H locs hP hD hS => ?_)
      refine lv_sipush (v := (5400 : Int32)) hx hb0 dX8_ofStar_69 (by decide) ?_
      refine lv_iadd hx hb0 dX8_ofStar_72 ?_
      exact gx_iret hx hb0 hr hlocks hK hP hD hS he dX8_ofStar_73
    have he := he.2 c_8
    by_cases c_11 : x2 = 3
    · have he := he.1 c_11
      refine lv_tableIn (off := 63) (tgt := 74) hx hb0 dX8_ofStar_11 (by rw [c_11]; decide) (by rw [c_11]; decide) (by rw [c_11]; rfl) (by decide) ?_
      refine lv_aload_n hx hb0 dX8_ofStar_74 rfl (lv_at hl 0 rfl) ?_
      refine lv_iload_n hx hb0 dX8_ofStar_75 rfl (lv_at hl 1 rfl) ?_
      refine gx_vi ⟨hx, hb0, hml, hown, hts⟩ (gKM_keep _) hk hK hP hD hS 0 [.int x1] [] (c_X8_whoCan l dC dI P ad x1 h_2 _ he) gm_X8_whoCan im_yX8_whoCan se_yX8_whoCan ml_RX8_148 (by decide) (mE_0 _) rfl rfl rfl ⟨Nat.le_of_ble_eq_true rfl, Nat.le_of_ble_eq_true rfl⟩ rfl hl.1 rfl (Nat.le_of_ble_eq_true rfl) dX8_ofStar_76 ⟨Nat.zero_le _, Nat.zero_le _⟩ (fun r_12 h_13 he H locs hP hD hS => ?_)
      exact gx_iret hx hb0 hr hlocks hK hP hD hS he dX8_ofStar_79
    have he := he.2 c_11
    refine lv_tableOut (tgt := 80) hx hb0 dX8_ofStar_11 (by have z0 := lv_neT c_4 (a := 0) rfl; have z1 := lv_neT c_6 (a := 1) rfl; have z2 := lv_neT c_8 (a := 2) rfl; have z3 := lv_neT c_11 (a := 3) rfl; omega) (by decide) ?_
    refine lv_bipush (v := (-2 : Int32)) hx hb0 dX8_ofStar_80 (by decide) ?_
    exact gx_iret hx hb0 hr hlocks hK hP hD hS he dX8_ofStar_82
  · have he := he.1 c_3
    refine lv_iconst (v := (-1 : Int32)) hx hb0 dX8_ofStar_8 (by decide) ?_
    exact gx_iret hx hb0 hr hlocks hK hP hD hS he dX8_ofStar_9
theorem gm_X8_ofStar : gMeth yX8_ofStar cX8_ofStar 3 (some .int) 2 := ⟨⟨by decide, by decide, by decide +kernel⟩, ini_RX8, co_yX8_ofStar⟩
abbrev rm_X8_log : Room := { frames := 1, cells := 0, slots := 0, locals := 22 }
set_option maxHeartbeats 4000000 in
set_option maxRecDepth 100000 in
theorem c_X8_log (l : Launch) (dC : Nat → ClassId) (dI : Nat → Nat → Nat) (P : gP) (ad : Nat → Nat) (x1 : Int32) (x2 : Int32) (h0 : Hp) (Q : Int32 → Hp → Prop) (he : F_X8_log x1 x2 h0 Q) : Met l yX8_log (Cond.code yX8_log cX8_log 3 (some .int) :: TB) rm_X8_log (gPc (dC, dI) vwCl (tyC P) 7 (mE P ad) ad gKM h0 [.ref (ad 0), .int x1, .int x2]) (gQi (dC, dI) vwCl (tyC P) 7 (mE P ad) ad Q) 0 0 (gA 7 ad) := by
  refine gx_start (by decide) (Nat.le_of_ble_eq_true rfl) (fun p e s m below meth c ls hx hb0 hr hlocks hml hown hts hK hk hP hD hS hl => ?_)
  have hl : lv_has ls 3 [(0, .ref (ad 0)), (1, .int x1), (2, .int x2)] := hl
  have hown : s.vm.findClass RX8 = some m.cls := hown
  unfold F_X8_log at he
  refine lv_iload_n hx hb0 dX8_log_0 rfl (lv_at hl 1 rfl) ?_
  refine lv_iconst (v := (0 : Int32)) hx hb0 dX8_log_1 (by decide) ?_
  refine lv_aload_n hx hb0 dX8_log_2 rfl (lv_at hl 0 rfl) ?_
  refine gx_get hx hb0 hts in_RX8 hown hK hP 0 (by decide) (mE_0 _) rfl 0 (by decide) fl_RX8_7 rfl dX8_log_3 ?_
  refine lv_bipush (v := (14 : Int32)) hx hb0 dX8_log_6 (by decide) ?_
  refine gx_ialdK hx hb0 hK hP 1 0 (by decide) mE_1 rfl (vp_lit (14 : Int32) (by decide) (by decide)) 14 rfl dX8_log_8 ?_
  refine lv_iconst (v := (1 : Int32)) hx hb0 dX8_log_9 (by decide) ?_
  refine lv_isub hx hb0 dX8_log_10 ?_
  refine gx_si ⟨hx, hb0, hml, hown, hts⟩ (gKM_keep _) hk hK hP hD hS [.int x1, .int (0 : Int32), .int ((h0 1 14) - (1 : Int32))] [] (c_X8_within l dC dI P ad x1 (0 : Int32) ((h0 1 14) - (1 : Int32)) h0 _ he) gm_X8_within st_yX8_within ml_RX8_32 rfl rfl ⟨Nat.le_of_ble_eq_true rfl, Nat.le_of_ble_eq_true rfl⟩ rfl hl.1 rfl (Nat.le_of_ble_eq_true rfl) dX8_log_11 ⟨Nat.zero_le _, Nat.zero_le _⟩ (fun r_1 h_2 he H locs hP hD hS => ?_)
  refine lv_if_ne (tgt := 19) hx hb0 dX8_log_14 (by decide) (fun c_3 => ?_) (fun c_3 => ?_)
  · have he := he.2 c_3
    refine lv_iload_n hx hb0 dX8_log_19 rfl (lv_at hl 2 rfl) ?_
    refine lv_iconst (v := (0 : Int32)) hx hb0 dX8_log_20 (by decide) ?_
    refine lv_iconst (v := (3 : Int32)) hx hb0 dX8_log_21 (by decide) ?_
    refine gx_si ⟨hx, hb0, hml, hown, hts⟩ (gKM_keep _) hk hK hP hD hS [.int x2, .int (0 : Int32), .int (3 : Int32)] [] (c_X8_within l dC dI P ad x2 (0 : Int32) (3 : Int32) h_2 _ he) gm_X8_within st_yX8_within ml_RX8_32 rfl rfl ⟨Nat.le_of_ble_eq_true rfl, Nat.le_of_ble_eq_true rfl⟩ rfl hl.1 rfl (Nat.le_of_ble_eq_true rfl) dX8_log_22 ⟨Nat.zero_le _, Nat.zero_le _⟩ (fun r_4 h_5 he H locs hP hD hS => ?_)
    refine lv_if_eq (tgt := 44) hx hb0 dX8_log_25 (by decide) (fun c_6 => ?_) (fun c_6 => ?_)
    · have he := he.1 c_6
      refine lv_bipush (v := (-2 : Int32)) hx hb0 dX8_log_44 (by decide) ?_
      exact gx_iret hx hb0 hr hlocks hK hP hD hS he dX8_log_46
    · have he := he.2 c_6
      refine lv_aload_n hx hb0 dX8_log_28 rfl (lv_at hl 0 rfl) ?_
      refine gx_get hx hb0 hts in_RX8 hown hK hP 0 (by decide) (mE_0 _) rfl 0 (by decide) fl_RX8_7 rfl dX8_log_29 ?_
      refine lv_bipush (v := (87 : Int32)) hx hb0 dX8_log_32 (by decide) ?_
      refine lv_iconst (v := (4 : Int32)) hx hb0 dX8_log_34 (by decide) ?_
      refine lv_iload_n hx hb0 dX8_log_35 rfl (lv_at hl 1 rfl) ?_
      refine lv_imul hx hb0 dX8_log_36 ?_
      refine lv_iadd hx hb0 dX8_log_37 ?_
      refine lv_iload_n hx hb0 dX8_log_38 rfl (lv_at hl 2 rfl) ?_
      refine lv_iadd hx hb0 dX8_log_39 ?_
      obtain ⟨v_7, he⟩ := he
      refine gx_iald hx hb0 hK hP 1 0 (by decide) mE_1 rfl v_7 dX8_log_40 ?_
      refine lv_goto (tgt := 46) hx hb0 dX8_log_41 (by decide) ?_
      exact gx_iret hx hb0 hr hlocks hK hP hD hS he dX8_log_46
  · have he := he.1 c_3
    refine lv_iconst (v := (-1 : Int32)) hx hb0 dX8_log_17 (by decide) ?_
    exact gx_iret hx hb0 hr hlocks hK hP hD hS he dX8_log_18
theorem gm_X8_log : gMeth yX8_log cX8_log 3 (some .int) 2 := ⟨⟨by decide, by decide, by decide +kernel⟩, ini_RX8, co_yX8_log⟩
abbrev rm_X8_those : Room := { frames := 1, cells := 0, slots := 0, locals := 22 }
set_option maxHeartbeats 4000000 in
set_option maxRecDepth 100000 in
theorem l_X8_those_4 (l : Launch) (dC : Nat → ClassId) (dI : Nat → Nat → Nat) (P : gP) (ad : Nat → Nat) {p : Program} {e : Env} {s : State} {m : MethodId} {args : Array Value} {below : List Frame} {meth : Method} {c : Code} (hx : p.tables.exec = Jvm.exec) (hb0 : c.code = cX8_those) (hr : meth.sig.returnType = (some .int)) (hlocks : meth.locks = false) (hml : c.maxLocals = 5) (hown : s.vm.findClass RX8 = some m.cls) (hts : ∀ w ∈ TB, w.before args s = true) (hK : va_K (dC, dI) vwCl (tyC P) s) (hk : gKM s) (Q : Int32 → Hp → Prop) : ∀ (n : Nat) (y1 : Int32) (y2 : Int32) (y3 : Int32) (h0 : Hp), F_X8_those_L4  n y1 y2 y3 h0 Q → ∀ (H : Heap) (locs : List Loc) (ls : Array Slot), va_P (dC, dI) vwCl (gW 7 (mE P ad) ad h0) H → va_D (gA 7 ad) (gW 7 (mE P ad) ad h0) → va_S (gA 7 ad) s.heap H locs → lv_has ls 5 [(0, .ref (ad 0)), (1, .int y1), (2, .int y2), (3, .int y3)] → W p l e rm_X8_those s m args below meth c H locs 0 0 (MQ below (gQi (dC, dI) vwCl (tyC P) 7 (mE P ad) ad Q) args s 0 0 (gA 7 ad)) (F0 m 4 ls []) := by
  intro n
  induction n with
  | zero =>
    intro y1 y2 y3 h0 he
    exact he.elim
  | succ n ih =>
    intro y1 y2 y3 h0 he H locs ls hP hD hS hl
    rw [F_X8_those_L4] at he
    refine lv_iload_n hx hb0 dX8_those_4 rfl (lv_at hl 3 rfl) ?_
    refine lv_bipush (v := (7 : Int32)) hx hb0 dX8_those_5 (by decide) ?_
    refine lv_icmp_ge (tgt := 71) hx hb0 dX8_those_7 (by decide) (fun c_1 => ?_) (fun c_1 => ?_)
    · have he := he.1 c_1
      refine lv_iload_n hx hb0 dX8_those_71 rfl (lv_at hl 2 rfl) ?_
      exact gx_iret hx hb0 hr hlocks hK hP hD hS he dX8_those_72
    · have he := he.2 c_1
      refine lv_iload_n hx hb0 dX8_those_10 rfl (lv_at hl 1 rfl) ?_
      refine lv_if_eq (tgt := 33) hx hb0 dX8_those_11 (by decide) (fun c_2 => ?_) (fun c_2 => ?_)
      · have he := he.1 c_2
        refine lv_aload_n hx hb0 dX8_those_33 rfl (lv_at hl 0 rfl) ?_
        refine lv_iload_n hx hb0 dX8_those_34 rfl (lv_at hl 3 rfl) ?_
        refine lv_iconst (v := (5 : Int32)) hx hb0 dX8_those_35 (by decide) ?_
        refine gx_vi ⟨hx, hb0, hml, hown, hts⟩ (gKM_keep _) hk hK hP hD hS 0 [.int y3, .int (5 : Int32)] [] (c_X8_number l dC dI P ad y3 (5 : Int32) h0 _ he) gm_X8_number im_yX8_number se_yX8_number ml_RX8_54 (by decide) (mE_0 _) rfl rfl rfl ⟨Nat.le_of_ble_eq_true rfl, Nat.le_of_ble_eq_true rfl⟩ rfl hl.1 rfl (Nat.le_of_ble_eq_true rfl) dX8_those_36 ⟨Nat.zero_le _, Nat.zero_le _⟩ (fun r_3 h_4 he H locs hP hD hS => ?_)
        refine lv_iconst (v := (1 : Int32)) hx hb0 dX8_those_39 (by decide) ?_
        refine lv_icmp_ne (tgt := 47) hx hb0 dX8_those_40 (by decide) (fun c_5 => ?_) (fun c_5 => ?_)
        · have he := he.2 c_5
          refine lv_iconst (v := (0 : Int32)) hx hb0 dX8_those_47 (by decide) ?_
          refine lv_istore (lv' := [(4, .int (0 : Int32)), (0, .ref (ad 0)), (1, .int y1), (2, .int y2), (3, .int y3)]) hx hb0 dX8_those_48 hl (by decide) rfl (fun ls hl => ?_)
          refine lv_iload_n hx hb0 dX8_those_50 rfl (lv_at hl 3 rfl) ?_
          refine lv_iload hx hb0 dX8_those_51 (lv_at hl 0 rfl) ?_
          refine lv_if_eq (tgt := 62) hx hb0 dX8_those_53 (by decide) (fun c_6 => ?_) (fun c_6 => ?_)
          · refine lv_iconst (v := (0 : Int32)) hx hb0 dX8_those_62 (by decide) ?_
            refine lv_ior hx hb0 dX8_those_63 ?_
            refine lv_topi (fun x_7 ex_7 => ?_)
            have he := he x_7 ex_7
            refine lv_istore_n (lv' := [(2, .int x_7), (4, .int (0 : Int32)), (0, .ref (ad 0)), (1, .int y1), (3, .int y3)]) hx hb0 dX8_those_64 rfl hl (by decide) rfl (fun ls hl => ?_)
            obtain ⟨x_8, ex_8⟩ : ∃ y : Int32, y = y3 + 1 := ⟨_, rfl⟩
            have he := he x_8 ex_8
            refine lv_iinc (v := x_8) (lv' := [(3, .int x_8), (2, .int x_7), (4, .int (0 : Int32)), (0, .ref (ad 0)), (1, .int y1)]) hx hb0 dX8_those_65 hl (k := 4) rfl (by rw [ex_8]; rfl) (by decide) rfl (fun ls hl => ?_)
            refine lv_goto (tgt := 4) hx hb0 dX8_those_68 (by decide) ?_
            exact ih y1 x_7 x_8 h_4 he _ _ ls hP hD hS (lv_sub hl [3, 4, 1, 0] rfl)
          · exact absurd c_6 (by decide)
        · have he := he.1 c_5
          refine lv_iconst (v := (1 : Int32)) hx hb0 dX8_those_43 (by decide) ?_
          refine lv_goto (tgt := 48) hx hb0 dX8_those_44 (by decide) ?_
          refine lv_istore (lv' := [(4, .int (1 : Int32)), (0, .ref (ad 0)), (1, .int y1), (2, .int y2), (3, .int y3)]) hx hb0 dX8_those_48 hl (by decide) rfl (fun ls hl => ?_)
          refine lv_iload_n hx hb0 dX8_those_50 rfl (lv_at hl 3 rfl) ?_
          refine lv_iload hx hb0 dX8_those_51 (lv_at hl 0 rfl) ?_
          refine lv_if_eq (tgt := 62) hx hb0 dX8_those_53 (by decide) (fun c_9 => ?_) (fun c_9 => ?_)
          · exact absurd c_9 (by decide)
          · refine lv_iconst (v := (1 : Int32)) hx hb0 dX8_those_56 (by decide) ?_
            refine lv_iload_n hx hb0 dX8_those_57 rfl (lv_at hl 4 rfl) ?_
            refine lv_ishl hx hb0 dX8_those_58 ?_
            refine lv_goto (tgt := 63) hx hb0 dX8_those_59 (by decide) ?_
            refine lv_ior hx hb0 dX8_those_63 ?_
            refine lv_topi (fun x_10 ex_10 => ?_)
            have he := he x_10 ex_10
            refine lv_istore_n (lv' := [(2, .int x_10), (4, .int (1 : Int32)), (0, .ref (ad 0)), (1, .int y1), (3, .int y3)]) hx hb0 dX8_those_64 rfl hl (by decide) rfl (fun ls hl => ?_)
            obtain ⟨x_11, ex_11⟩ : ∃ y : Int32, y = y3 + 1 := ⟨_, rfl⟩
            have he := he x_11 ex_11
            refine lv_iinc (v := x_11) (lv' := [(3, .int x_11), (2, .int x_10), (4, .int (1 : Int32)), (0, .ref (ad 0)), (1, .int y1)]) hx hb0 dX8_those_65 hl (k := 4) rfl (by rw [ex_11]; rfl) (by decide) rfl (fun ls hl => ?_)
            refine lv_goto (tgt := 4) hx hb0 dX8_those_68 (by decide) ?_
            exact ih y1 x_10 x_11 h_4 he _ _ ls hP hD hS (lv_sub hl [3, 4, 1, 0] rfl)
      · have he := he.2 c_2
        refine lv_aload_n hx hb0 dX8_those_14 rfl (lv_at hl 0 rfl) ?_
        refine lv_iload_n hx hb0 dX8_those_15 rfl (lv_at hl 3 rfl) ?_
        refine lv_bipush (v := (7 : Int32)) hx hb0 dX8_those_16 (by decide) ?_
        refine gx_vi ⟨hx, hb0, hml, hown, hts⟩ (gKM_keep _) hk hK hP hD hS 0 [.int y3, .int (7 : Int32)] [] (c_X8_number l dC dI P ad y3 (7 : Int32) h0 _ he) gm_X8_number im_yX8_number se_yX8_number ml_RX8_54 (by decide) (mE_0 _) rfl rfl rfl ⟨Nat.le_of_ble_eq_true rfl, Nat.le_of_ble_eq_true rfl⟩ rfl hl.1 rfl (Nat.le_of_ble_eq_true rfl) dX8_those_18 ⟨Nat.zero_le _, Nat.zero_le _⟩ (fun r_12 h_13 he H locs hP hD hS => ?_)
        refine lv_iconst (v := (2 : Int32)) hx hb0 dX8_those_21 (by decide) ?_
        refine lv_icmp_ne (tgt := 29) hx hb0 dX8_those_22 (by decide) (fun c_14 => ?_) (fun c_14 => ?_)
        · have he := he.2 c_14
          refine lv_iconst (v := (0 : Int32)) hx hb0 dX8_those_29 (by decide) ?_
          refine lv_goto (tgt := 48) hx hb0 dX8_those_30 (by decide) ?_
          refine lv_istore (lv' := [(4, .int (0 : Int32)), (0, .ref (ad 0)), (1, .int y1), (2, .int y2), (3, .int y3)]) hx hb0 dX8_those_48 hl (by decide) rfl (fun ls hl => ?_)
          refine lv_iload_n hx hb0 dX8_those_50 rfl (lv_at hl 3 rfl) ?_
          refine lv_iload hx hb0 dX8_those_51 (lv_at hl 0 rfl) ?_
          refine lv_if_eq (tgt := 62) hx hb0 dX8_those_53 (by decide) (fun c_15 => ?_) (fun c_15 => ?_)
          · refine lv_iconst (v := (0 : Int32)) hx hb0 dX8_those_62 (by decide) ?_
            refine lv_ior hx hb0 dX8_those_63 ?_
            refine lv_topi (fun x_16 ex_16 => ?_)
            have he := he x_16 ex_16
            refine lv_istore_n (lv' := [(2, .int x_16), (4, .int (0 : Int32)), (0, .ref (ad 0)), (1, .int y1), (3, .int y3)]) hx hb0 dX8_those_64 rfl hl (by decide) rfl (fun ls hl => ?_)
            obtain ⟨x_17, ex_17⟩ : ∃ y : Int32, y = y3 + 1 := ⟨_, rfl⟩
            have he := he x_17 ex_17
            refine lv_iinc (v := x_17) (lv' := [(3, .int x_17), (2, .int x_16), (4, .int (0 : Int32)), (0, .ref (ad 0)), (1, .int y1)]) hx hb0 dX8_those_65 hl (k := 4) rfl (by rw [ex_17]; rfl) (by decide) rfl (fun ls hl => ?_)
            refine lv_goto (tgt := 4) hx hb0 dX8_those_68 (by decide) ?_
            exact ih y1 x_16 x_17 h_13 he _ _ ls hP hD hS (lv_sub hl [3, 4, 1, 0] rfl)
          · exact absurd c_15 (by decide)
        · have he := he.1 c_14
          refine lv_iconst (v := (1 : Int32)) hx hb0 dX8_those_25 (by decide) ?_
          refine lv_goto (tgt := 48) hx hb0 dX8_those_26 (by decide) ?_
          refine lv_istore (lv' := [(4, .int (1 : Int32)), (0, .ref (ad 0)), (1, .int y1), (2, .int y2), (3, .int y3)]) hx hb0 dX8_those_48 hl (by decide) rfl (fun ls hl => ?_)
          refine lv_iload_n hx hb0 dX8_those_50 rfl (lv_at hl 3 rfl) ?_
          refine lv_iload hx hb0 dX8_those_51 (lv_at hl 0 rfl) ?_
          refine lv_if_eq (tgt := 62) hx hb0 dX8_those_53 (by decide) (fun c_18 => ?_) (fun c_18 => ?_)
          · exact absurd c_18 (by decide)
          · refine lv_iconst (v := (1 : Int32)) hx hb0 dX8_those_56 (by decide) ?_
            refine lv_iload_n hx hb0 dX8_those_57 rfl (lv_at hl 4 rfl) ?_
            refine lv_ishl hx hb0 dX8_those_58 ?_
            refine lv_goto (tgt := 63) hx hb0 dX8_those_59 (by decide) ?_
            refine lv_ior hx hb0 dX8_those_63 ?_
            refine lv_topi (fun x_19 ex_19 => ?_)
            have he := he x_19 ex_19
            refine lv_istore_n (lv' := [(2, .int x_19), (4, .int (1 : Int32)), (0, .ref (ad 0)), (1, .int y1), (3, .int y3)]) hx hb0 dX8_those_64 rfl hl (by decide) rfl (fun ls hl => ?_)
            obtain ⟨x_20, ex_20⟩ : ∃ y : Int32, y = y3 + 1 := ⟨_, rfl⟩
            have he := he x_20 ex_20
            refine lv_iinc (v := x_20) (lv' := [(3, .int x_20), (2, .int x_19), (4, .int (1 : Int32)), (0, .ref (ad 0)), (1, .int y1)]) hx hb0 dX8_those_65 hl (k := 4) rfl (by rw [ex_20]; rfl) (by decide) rfl (fun ls hl => ?_)
            refine lv_goto (tgt := 4) hx hb0 dX8_those_68 (by decide) ?_
            exact ih y1 x_19 x_20 h_13 he _ _ ls hP hD hS (lv_sub hl [3, 4, 1, 0] rfl)
set_option maxHeartbeats 4000000 in
set_option maxRecDepth 100000 in
theorem c_X8_those (l : Launch) (dC : Nat → ClassId) (dI : Nat → Nat → Nat) (P : gP) (ad : Nat → Nat) (x1 : Int32) (h0 : Hp) (Q : Int32 → Hp → Prop) (he : F_X8_those x1 h0 Q) : Met l yX8_those (Cond.code yX8_those cX8_those 5 (some .int) :: TB) rm_X8_those (gPc (dC, dI) vwCl (tyC P) 7 (mE P ad) ad gKM h0 [.ref (ad 0), .int x1]) (gQi (dC, dI) vwCl (tyC P) 7 (mE P ad) ad Q) 0 0 (gA 7 ad) := by
  refine gx_start (by decide) (Nat.le_of_ble_eq_true rfl) (fun p e s m below meth c ls hx hb0 hr hlocks hml hown hts hK hk hP hD hS hl => ?_)
  have hl : lv_has ls 5 [(0, .ref (ad 0)), (1, .int x1)] := hl
  have hown : s.vm.findClass RX8 = some m.cls := hown
  unfold F_X8_those at he
  refine lv_iconst (v := (0 : Int32)) hx hb0 dX8_those_0 (by decide) ?_
  refine lv_istore_n (lv' := [(2, .int (0 : Int32)), (0, .ref (ad 0)), (1, .int x1)]) hx hb0 dX8_those_1 rfl hl (by decide) rfl (fun ls hl => ?_)
  refine lv_iconst (v := (0 : Int32)) hx hb0 dX8_those_2 (by decide) ?_
  refine lv_istore_n (lv' := [(3, .int (0 : Int32)), (2, .int (0 : Int32)), (0, .ref (ad 0)), (1, .int x1)]) hx hb0 dX8_those_3 rfl hl (by decide) rfl (fun ls hl => ?_)
  obtain ⟨n_21, he⟩ := he
  exact l_X8_those_4 l dC dI P ad  hx hb0 hr hlocks hml hown hts hK hk Q n_21 x1 (0 : Int32) (0 : Int32) h0 he _ _ ls hP hD hS (lv_sub hl [2, 3, 1, 0] rfl)
theorem gm_X8_those : gMeth yX8_those cX8_those 5 (some .int) 1 := ⟨⟨by decide, by decide, by decide +kernel⟩, ini_RX8, co_yX8_those⟩
abbrev rm_X8_mistake : Room := { frames := 1, cells := 0, slots := 0, locals := 20 }
set_option maxHeartbeats 4000000 in
set_option maxRecDepth 100000 in
theorem c_X8_mistake (l : Launch) (dC : Nat → ClassId) (dI : Nat → Nat → Nat) (P : gP) (ad : Nat → Nat) (h0 : Hp) (Q : Int32 → Hp → Prop) (he : F_X8_mistake  h0 Q) : Met l yX8_mistake (Cond.code yX8_mistake cX8_mistake 1 (some .int) :: TB) rm_X8_mistake (gPc (dC, dI) vwCl (tyC P) 7 (mE P ad) ad gKM h0 [.ref (ad 0)]) (gQi (dC, dI) vwCl (tyC P) 7 (mE P ad) ad Q) 0 0 (gA 7 ad) := by
  refine gx_start (by decide) (Nat.le_of_ble_eq_true rfl) (fun p e s m below meth c ls hx hb0 hr hlocks hml hown hts hK hk hP hD hS hl => ?_)
  have hl : lv_has ls 1 [(0, .ref (ad 0))] := hl
  have hown : s.vm.findClass RX8 = some m.cls := hown
  unfold F_X8_mistake at he
  refine lv_aload_n hx hb0 dX8_mistake_0 rfl (lv_at hl 0 rfl) ?_
  refine gx_get hx hb0 hts in_RX8 hown hK hP 0 (by decide) (mE_0 _) rfl 0 (by decide) fl_RX8_7 rfl dX8_mistake_1 ?_
  refine lv_iconst (v := (5 : Int32)) hx hb0 dX8_mistake_4 (by decide) ?_
  refine gx_ialdK hx hb0 hK hP 1 0 (by decide) mE_1 rfl (vp_lit (5 : Int32) (by decide) (by decide)) 5 rfl dX8_mistake_5 ?_
  refine lv_iconst (v := (1 : Int32)) hx hb0 dX8_mistake_6 (by decide) ?_
  refine lv_icmp_ne (tgt := 30) hx hb0 dX8_mistake_7 (by decide) (fun c_1 => ?_) (fun c_1 => ?_)
  · have he := he.2 c_1
    refine lv_bipush (v := (-6 : Int32)) hx hb0 dX8_mistake_30 (by decide) ?_
    exact gx_iret hx hb0 hr hlocks hK hP hD hS he dX8_mistake_32
  · have he := he.1 c_1
    refine lv_aload_n hx hb0 dX8_mistake_10 rfl (lv_at hl 0 rfl) ?_
    refine gx_get hx hb0 hts in_RX8 hown hK hP 0 (by decide) (mE_0 _) rfl 0 (by decide) fl_RX8_7 rfl dX8_mistake_11 ?_
    refine lv_bipush (v := (6 : Int32)) hx hb0 dX8_mistake_14 (by decide) ?_
    refine gx_ialdK hx hb0 hK hP 1 0 (by decide) mE_1 rfl (vp_lit (6 : Int32) (by decide) (by decide)) 6 rfl dX8_mistake_16 ?_
    refine lv_aload_n hx hb0 dX8_mistake_17 rfl (lv_at hl 0 rfl) ?_
    refine gx_get hx hb0 hts in_RX8 hown hK hP 0 (by decide) (mE_0 _) rfl 0 (by decide) fl_RX8_7 rfl dX8_mistake_18 ?_
    refine lv_iconst (v := (4 : Int32)) hx hb0 dX8_mistake_21 (by decide) ?_
    refine gx_ialdK hx hb0 hK hP 1 0 (by decide) mE_1 rfl (vp_lit (4 : Int32) (by decide) (by decide)) 4 rfl dX8_mistake_22 ?_
    refine lv_isub hx hb0 dX8_mistake_23 ?_
    refine gx_si ⟨hx, hb0, hml, hown, hts⟩ (gKM_keep _) hk hK hP hD hS [.int ((h0 1 6) - (h0 1 4))] [] (c_X8_sizeOf l dC dI P ad ((h0 1 6) - (h0 1 4)) h0 _ he) gm_X8_sizeOf st_yX8_sizeOf ml_RX8_50 rfl rfl ⟨Nat.le_of_ble_eq_true rfl, Nat.le_of_ble_eq_true rfl⟩ rfl hl.1 rfl (Nat.le_of_ble_eq_true rfl) dX8_mistake_24 ⟨Nat.zero_le _, Nat.zero_le _⟩ (fun r_2 h_3 he H locs hP hD hS => ?_)
    refine lv_goto (tgt := 32) hx hb0 dX8_mistake_27 (by decide) ?_
    exact gx_iret hx hb0 hr hlocks hK hP hD hS he dX8_mistake_32
theorem gm_X8_mistake : gMeth yX8_mistake cX8_mistake 1 (some .int) 0 := ⟨⟨by decide, by decide, by decide +kernel⟩, ini_RX8, co_yX8_mistake⟩
abbrev rm_X8_count : Room := { frames := 2, cells := 0, slots := 0, locals := 46 }
set_option maxHeartbeats 4000000 in
set_option maxRecDepth 100000 in
theorem c_X8_count (l : Launch) (dC : Nat → ClassId) (dI : Nat → Nat → Nat) (P : gP) (ad : Nat → Nat) (x1 : Int32) (h0 : Hp) (Q : Int32 → Hp → Prop) (he : F_X8_count x1 h0 Q) : Met l yX8_count (Cond.code yX8_count cX8_count 2 (some .int) :: TB) rm_X8_count (gPc (dC, dI) vwCl (tyC P) 7 (mE P ad) ad gKM h0 [.ref (ad 0), .int x1]) (gQi (dC, dI) vwCl (tyC P) 7 (mE P ad) ad Q) 0 0 (gA 7 ad) := by
  refine gx_start (by decide) (Nat.le_of_ble_eq_true rfl) (fun p e s m below meth c ls hx hb0 hr hlocks hml hown hts hK hk hP hD hS hl => ?_)
  have hl : lv_has ls 2 [(0, .ref (ad 0)), (1, .int x1)] := hl
  have hown : s.vm.findClass RX8 = some m.cls := hown
  unfold F_X8_count at he
  refine lv_iload_n hx hb0 dX8_count_0 rfl (lv_at hl 1 rfl) ?_
  by_cases c_1 : x1 = 0
  · have he := he.1 c_1
    refine lv_tableIn (off := 83) (tgt := 84) hx hb0 dX8_count_1 (by rw [c_1]; decide) (by rw [c_1]; decide) (by rw [c_1]; rfl) (by decide) ?_
    refine lv_aload_n hx hb0 dX8_count_84 rfl (lv_at hl 0 rfl) ?_
    refine gx_get hx hb0 hts in_RX8 hown hK hP 0 (by decide) (mE_0 _) rfl 0 (by decide) fl_RX8_7 rfl dX8_count_85 ?_
    refine lv_iconst (v := (4 : Int32)) hx hb0 dX8_count_88 (by decide) ?_
    refine gx_ialdK hx hb0 hK hP 1 0 (by decide) mE_1 rfl (vp_lit (4 : Int32) (by decide) (by decide)) 4 rfl dX8_count_89 ?_
    refine lv_sipush (v := (5400 : Int32)) hx hb0 dX8_count_90 (by decide) ?_
    refine lv_iadd hx hb0 dX8_count_93 ?_
    exact gx_iret hx hb0 hr hlocks hK hP hD hS he dX8_count_94
  have he := he.2 c_1
  by_cases c_2 : x1 = 1
  · have he := he.1 c_2
    refine lv_tableIn (off := 94) (tgt := 95) hx hb0 dX8_count_1 (by rw [c_2]; decide) (by rw [c_2]; decide) (by rw [c_2]; rfl) (by decide) ?_
    refine lv_aload_n hx hb0 dX8_count_95 rfl (lv_at hl 0 rfl) ?_
    refine gx_vi ⟨hx, hb0, hml, hown, hts⟩ (gKM_keep _) hk hK hP hD hS 0 [] [] (c_X8_belief l dC dI P ad  h0 _ he) gm_X8_belief im_yX8_belief se_yX8_belief ml_RX8_102 (by decide) (mE_0 _) rfl rfl rfl ⟨Nat.le_of_ble_eq_true rfl, Nat.le_of_ble_eq_true rfl⟩ rfl hl.1 rfl (Nat.le_of_ble_eq_true rfl) dX8_count_96 ⟨Nat.zero_le _, Nat.zero_le _⟩ (fun r_3 h_4 he H locs hP hD hS => ?_)
    exact gx_iret hx hb0 hr hlocks hK hP hD hS he dX8_count_99
  have he := he.2 c_2
  by_cases c_5 : x1 = 2
  · have he := he.1 c_5
    refine lv_tableIn (off := 99) (tgt := 100) hx hb0 dX8_count_1 (by rw [c_5]; decide) (by rw [c_5]; decide) (by rw [c_5]; rfl) (by decide) ?_
    refine lv_aload_n hx hb0 dX8_count_100 rfl (lv_at hl 0 rfl) ?_
    refine gx_get hx hb0 hts in_RX8 hown hK hP 0 (by decide) (mE_0 _) rfl 0 (by decide) fl_RX8_7 rfl dX8_count_101 ?_
    refine lv_bipush (v := (7 : Int32)) hx hb0 dX8_count_104 (by decide) ?_
    refine gx_ialdK hx hb0 hK hP 1 0 (by decide) mE_1 rfl (vp_lit (7 : Int32) (by decide) (by decide)) 7 rfl dX8_count_106 ?_
    refine lv_sipush (v := (5400 : Int32)) hx hb0 dX8_count_107 (by decide) ?_
    refine lv_iadd hx hb0 dX8_count_110 ?_
    exact gx_iret hx hb0 hr hlocks hK hP hD hS he dX8_count_111
  have he := he.2 c_5
  by_cases c_6 : x1 = 3
  · have he := he.1 c_6
    refine lv_tableIn (off := 111) (tgt := 112) hx hb0 dX8_count_1 (by rw [c_6]; decide) (by rw [c_6]; decide) (by rw [c_6]; rfl) (by decide) ?_
    refine lv_aload_n hx hb0 dX8_count_112 rfl (lv_at hl 0 rfl) ?_
    refine gx_get hx hb0 hts in_RX8 hown hK hP 0 (by decide) (mE_0 _) rfl 0 (by decide) fl_RX8_7 rfl dX8_count_113 ?_
    refine lv_bipush (v := (8 : Int32)) hx hb0 dX8_count_116 (by decide) ?_
    refine lv_iload_n hx hb0 dX8_count_118 rfl (lv_at hl 1 rfl) ?_
    refine lv_iadd hx hb0 dX8_count_119 ?_
    refine lv_iconst (v := (3 : Int32)) hx hb0 dX8_count_120 (by decide) ?_
    refine lv_isub hx hb0 dX8_count_121 ?_
    obtain ⟨v_7, he⟩ := he
    refine gx_iald hx hb0 hK hP 1 0 (by decide) mE_1 rfl v_7 dX8_count_122 ?_
    exact gx_iret hx hb0 hr hlocks hK hP hD hS he dX8_count_123
  have he := he.2 c_6
  by_cases c_8 : x1 = 4
  · have he := he.1 c_8
    refine lv_tableIn (off := 111) (tgt := 112) hx hb0 dX8_count_1 (by rw [c_8]; decide) (by rw [c_8]; decide) (by rw [c_8]; rfl) (by decide) ?_
    refine lv_aload_n hx hb0 dX8_count_112 rfl (lv_at hl 0 rfl) ?_
    refine gx_get hx hb0 hts in_RX8 hown hK hP 0 (by decide) (mE_0 _) rfl 0 (by decide) fl_RX8_7 rfl dX8_count_113 ?_
    refine lv_bipush (v := (8 : Int32)) hx hb0 dX8_count_116 (by decide) ?_
    refine lv_iload_n hx hb0 dX8_count_118 rfl (lv_at hl 1 rfl) ?_
    refine lv_iadd hx hb0 dX8_count_119 ?_
    refine lv_iconst (v := (3 : Int32)) hx hb0 dX8_count_120 (by decide) ?_
    refine lv_isub hx hb0 dX8_count_121 ?_
    obtain ⟨v_9, he⟩ := he
    refine gx_iald hx hb0 hK hP 1 0 (by decide) mE_1 rfl v_9 dX8_count_122 ?_
    exact gx_iret hx hb0 hr hlocks hK hP hD hS he dX8_count_123
  have he := he.2 c_8
  by_cases c_10 : x1 = 5
  · have he := he.1 c_10
    refine lv_tableIn (off := 111) (tgt := 112) hx hb0 dX8_count_1 (by rw [c_10]; decide) (by rw [c_10]; decide) (by rw [c_10]; rfl) (by decide) ?_
    refine lv_aload_n hx hb0 dX8_count_112 rfl (lv_at hl 0 rfl) ?_
    refine gx_get hx hb0 hts in_RX8 hown hK hP 0 (by decide) (mE_0 _) rfl 0 (by decide) fl_RX8_7 rfl dX8_count_113 ?_
    refine lv_bipush (v := (8 : Int32)) hx hb0 dX8_count_116 (by decide) ?_
    refine lv_iload_n hx hb0 dX8_count_118 rfl (lv_at hl 1 rfl) ?_
    refine lv_iadd hx hb0 dX8_count_119 ?_
    refine lv_iconst (v := (3 : Int32)) hx hb0 dX8_count_120 (by decide) ?_
    refine lv_isub hx hb0 dX8_count_121 ?_
    obtain ⟨v_11, he⟩ := he
    refine gx_iald hx hb0 hK hP 1 0 (by decide) mE_1 rfl v_11 dX8_count_122 ?_
    exact gx_iret hx hb0 hr hlocks hK hP hD hS he dX8_count_123
  have he := he.2 c_10
  by_cases c_12 : x1 = 6
  · have he := he.1 c_12
    refine lv_tableIn (off := 111) (tgt := 112) hx hb0 dX8_count_1 (by rw [c_12]; decide) (by rw [c_12]; decide) (by rw [c_12]; rfl) (by decide) ?_
    refine lv_aload_n hx hb0 dX8_count_112 rfl (lv_at hl 0 rfl) ?_
    refine gx_get hx hb0 hts in_RX8 hown hK hP 0 (by decide) (mE_0 _) rfl 0 (by decide) fl_RX8_7 rfl dX8_count_113 ?_
    refine lv_bipush (v := (8 : Int32)) hx hb0 dX8_count_116 (by decide) ?_
    refine lv_iload_n hx hb0 dX8_count_118 rfl (lv_at hl 1 rfl) ?_
    refine lv_iadd hx hb0 dX8_count_119 ?_
    refine lv_iconst (v := (3 : Int32)) hx hb0 dX8_count_120 (by decide) ?_
    refine lv_isub hx hb0 dX8_count_121 ?_
    obtain ⟨v_13, he⟩ := he
    refine gx_iald hx hb0 hK hP 1 0 (by decide) mE_1 rfl v_13 dX8_count_122 ?_
    exact gx_iret hx hb0 hr hlocks hK hP hD hS he dX8_count_123
  have he := he.2 c_12
  by_cases c_14 : x1 = 7
  · have he := he.1 c_14
    refine lv_tableIn (off := 111) (tgt := 112) hx hb0 dX8_count_1 (by rw [c_14]; decide) (by rw [c_14]; decide) (by rw [c_14]; rfl) (by decide) ?_
    refine lv_aload_n hx hb0 dX8_count_112 rfl (lv_at hl 0 rfl) ?_
    refine gx_get hx hb0 hts in_RX8 hown hK hP 0 (by decide) (mE_0 _) rfl 0 (by decide) fl_RX8_7 rfl dX8_count_113 ?_
    refine lv_bipush (v := (8 : Int32)) hx hb0 dX8_count_116 (by decide) ?_
    refine lv_iload_n hx hb0 dX8_count_118 rfl (lv_at hl 1 rfl) ?_
    refine lv_iadd hx hb0 dX8_count_119 ?_
    refine lv_iconst (v := (3 : Int32)) hx hb0 dX8_count_120 (by decide) ?_
    refine lv_isub hx hb0 dX8_count_121 ?_
    obtain ⟨v_15, he⟩ := he
    refine gx_iald hx hb0 hK hP 1 0 (by decide) mE_1 rfl v_15 dX8_count_122 ?_
    exact gx_iret hx hb0 hr hlocks hK hP hD hS he dX8_count_123
  have he := he.2 c_14
  by_cases c_16 : x1 = 8
  · have he := he.1 c_16
    refine lv_tableIn (off := 123) (tgt := 124) hx hb0 dX8_count_1 (by rw [c_16]; decide) (by rw [c_16]; decide) (by rw [c_16]; rfl) (by decide) ?_
    refine lv_aload_n hx hb0 dX8_count_124 rfl (lv_at hl 0 rfl) ?_
    refine lv_iconst (v := (0 : Int32)) hx hb0 dX8_count_125 (by decide) ?_
    refine gx_vi ⟨hx, hb0, hml, hown, hts⟩ (gKM_keep _) hk hK hP hD hS 0 [.int (0 : Int32)] [] (c_X8_those l dC dI P ad (0 : Int32) h0 _ he) gm_X8_those im_yX8_those se_yX8_those ml_RX8_151 (by decide) (mE_0 _) rfl rfl rfl ⟨Nat.le_of_ble_eq_true rfl, Nat.le_of_ble_eq_true rfl⟩ rfl hl.1 rfl (Nat.le_of_ble_eq_true rfl) dX8_count_126 ⟨Nat.zero_le _, Nat.zero_le _⟩ (fun r_17 h_18 he H locs hP hD hS => ?_)
    exact gx_iret hx hb0 hr hlocks hK hP hD hS he dX8_count_129
  have he := he.2 c_16
  by_cases c_19 : x1 = 9
  · have he := he.1 c_19
    refine lv_tableIn (off := 129) (tgt := 130) hx hb0 dX8_count_1 (by rw [c_19]; decide) (by rw [c_19]; decide) (by rw [c_19]; rfl) (by decide) ?_
    refine lv_aload_n hx hb0 dX8_count_130 rfl (lv_at hl 0 rfl) ?_
    refine lv_iconst (v := (1 : Int32)) hx hb0 dX8_count_131 (by decide) ?_
    refine gx_vi ⟨hx, hb0, hml, hown, hts⟩ (gKM_keep _) hk hK hP hD hS 0 [.int (1 : Int32)] [] (c_X8_those l dC dI P ad (1 : Int32) h0 _ he) gm_X8_those im_yX8_those se_yX8_those ml_RX8_151 (by decide) (mE_0 _) rfl rfl rfl ⟨Nat.le_of_ble_eq_true rfl, Nat.le_of_ble_eq_true rfl⟩ rfl hl.1 rfl (Nat.le_of_ble_eq_true rfl) dX8_count_132 ⟨Nat.zero_le _, Nat.zero_le _⟩ (fun r_20 h_21 he H locs hP hD hS => ?_)
    exact gx_iret hx hb0 hr hlocks hK hP hD hS he dX8_count_135
  have he := he.2 c_19
  by_cases c_22 : x1 = 10
  · have he := he.1 c_22
    refine lv_tableIn (off := 135) (tgt := 136) hx hb0 dX8_count_1 (by rw [c_22]; decide) (by rw [c_22]; decide) (by rw [c_22]; rfl) (by decide) ?_
    refine lv_aload_n hx hb0 dX8_count_136 rfl (lv_at hl 0 rfl) ?_
    refine gx_vi ⟨hx, hb0, hml, hown, hts⟩ (gKM_keep _) hk hK hP hD hS 0 [] [] (c_X8_mistake l dC dI P ad  h0 _ he) gm_X8_mistake im_yX8_mistake se_yX8_mistake ml_RX8_155 (by decide) (mE_0 _) rfl rfl rfl ⟨Nat.le_of_ble_eq_true rfl, Nat.le_of_ble_eq_true rfl⟩ rfl hl.1 rfl (Nat.le_of_ble_eq_true rfl) dX8_count_137 ⟨Nat.zero_le _, Nat.zero_le _⟩ (fun r_23 h_24 he H locs hP hD hS => ?_)
    exact gx_iret hx hb0 hr hlocks hK hP hD hS he dX8_count_140
  have he := he.2 c_22
  by_cases c_25 : x1 = 11
  · have he := he.1 c_25
    refine lv_tableIn (off := 140) (tgt := 141) hx hb0 dX8_count_1 (by rw [c_25]; decide) (by rw [c_25]; decide) (by rw [c_25]; rfl) (by decide) ?_
    refine lv_aload_n hx hb0 dX8_count_141 rfl (lv_at hl 0 rfl) ?_
    refine gx_get hx hb0 hts in_RX8 hown hK hP 0 (by decide) (mE_0 _) rfl 0 (by decide) fl_RX8_7 rfl dX8_count_142 ?_
    refine lv_iconst (v := (0 : Int32)) hx hb0 dX8_count_145 (by decide) ?_
    refine gx_ialdK hx hb0 hK hP 1 0 (by decide) mE_1 rfl (vp_lit (0 : Int32) (by decide) (by decide)) 0 rfl dX8_count_146 ?_
    refine lv_bipush (v := (30 : Int32)) hx hb0 dX8_count_147 (by decide) ?_
    refine lv_iadd hx hb0 dX8_count_149 ?_
    exact gx_iret hx hb0 hr hlocks hK hP hD hS he dX8_count_150
  have he := he.2 c_25
  by_cases c_26 : x1 = 12
  · have he := he.1 c_26
    refine lv_tableIn (off := 150) (tgt := 151) hx hb0 dX8_count_1 (by rw [c_26]; decide) (by rw [c_26]; decide) (by rw [c_26]; rfl) (by decide) ?_
    refine lv_aload_n hx hb0 dX8_count_151 rfl (lv_at hl 0 rfl) ?_
    refine gx_get hx hb0 hts in_RX8 hown hK hP 0 (by decide) (mE_0 _) rfl 0 (by decide) fl_RX8_7 rfl dX8_count_152 ?_
    refine lv_iload_n hx hb0 dX8_count_155 rfl (lv_at hl 1 rfl) ?_
    refine lv_bipush (v := (11 : Int32)) hx hb0 dX8_count_156 (by decide) ?_
    refine lv_isub hx hb0 dX8_count_158 ?_
    obtain ⟨v_27, he⟩ := he
    refine gx_iald hx hb0 hK hP 1 0 (by decide) mE_1 rfl v_27 dX8_count_159 ?_
    exact gx_iret hx hb0 hr hlocks hK hP hD hS he dX8_count_160
  have he := he.2 c_26
  by_cases c_28 : x1 = 13
  · have he := he.1 c_28
    refine lv_tableIn (off := 150) (tgt := 151) hx hb0 dX8_count_1 (by rw [c_28]; decide) (by rw [c_28]; decide) (by rw [c_28]; rfl) (by decide) ?_
    refine lv_aload_n hx hb0 dX8_count_151 rfl (lv_at hl 0 rfl) ?_
    refine gx_get hx hb0 hts in_RX8 hown hK hP 0 (by decide) (mE_0 _) rfl 0 (by decide) fl_RX8_7 rfl dX8_count_152 ?_
    refine lv_iload_n hx hb0 dX8_count_155 rfl (lv_at hl 1 rfl) ?_
    refine lv_bipush (v := (11 : Int32)) hx hb0 dX8_count_156 (by decide) ?_
    refine lv_isub hx hb0 dX8_count_158 ?_
    obtain ⟨v_29, he⟩ := he
    refine gx_iald hx hb0 hK hP 1 0 (by decide) mE_1 rfl v_29 dX8_count_159 ?_
    exact gx_iret hx hb0 hr hlocks hK hP hD hS he dX8_count_160
  have he := he.2 c_28
  by_cases c_30 : x1 = 14
  · have he := he.1 c_30
    refine lv_tableIn (off := 150) (tgt := 151) hx hb0 dX8_count_1 (by rw [c_30]; decide) (by rw [c_30]; decide) (by rw [c_30]; rfl) (by decide) ?_
    refine lv_aload_n hx hb0 dX8_count_151 rfl (lv_at hl 0 rfl) ?_
    refine gx_get hx hb0 hts in_RX8 hown hK hP 0 (by decide) (mE_0 _) rfl 0 (by decide) fl_RX8_7 rfl dX8_count_152 ?_
    refine lv_iload_n hx hb0 dX8_count_155 rfl (lv_at hl 1 rfl) ?_
    refine lv_bipush (v := (11 : Int32)) hx hb0 dX8_count_156 (by decide) ?_
    refine lv_isub hx hb0 dX8_count_158 ?_
    obtain ⟨v_31, he⟩ := he
    refine gx_iald hx hb0 hK hP 1 0 (by decide) mE_1 rfl v_31 dX8_count_159 ?_
    exact gx_iret hx hb0 hr hlocks hK hP hD hS he dX8_count_160
  have he := he.2 c_30
  by_cases c_32 : x1 = 15
  · have he := he.1 c_32
    refine lv_tableIn (off := 160) (tgt := 161) hx hb0 dX8_count_1 (by rw [c_32]; decide) (by rw [c_32]; decide) (by rw [c_32]; rfl) (by decide) ?_
    refine lv_aload_n hx hb0 dX8_count_161 rfl (lv_at hl 0 rfl) ?_
    refine gx_get hx hb0 hts in_RX8 hown hK hP 0 (by decide) (mE_0 _) rfl 7 (by decide) fl_RX8_158 rfl dX8_count_162 ?_
    exact gx_iret hx hb0 hr hlocks hK hP hD hS he dX8_count_165
  have he := he.2 c_32
  by_cases c_33 : x1 = 16
  · have he := he.1 c_33
    refine lv_tableIn (off := 165) (tgt := 166) hx hb0 dX8_count_1 (by rw [c_33]; decide) (by rw [c_33]; decide) (by rw [c_33]; rfl) (by decide) ?_
    refine lv_aload_n hx hb0 dX8_count_166 rfl (lv_at hl 0 rfl) ?_
    refine gx_get hx hb0 hts in_RX8 hown hK hP 0 (by decide) (mE_0 _) rfl 3 (by decide) fl_RX8_36 rfl dX8_count_167 ?_
    exact gx_iret hx hb0 hr hlocks hK hP hD hS he dX8_count_170
  have he := he.2 c_33
  refine lv_tableOut (tgt := 171) hx hb0 dX8_count_1 (by have z0 := lv_neT c_1 (a := 0) rfl; have z1 := lv_neT c_2 (a := 1) rfl; have z2 := lv_neT c_5 (a := 2) rfl; have z3 := lv_neT c_6 (a := 3) rfl; have z4 := lv_neT c_8 (a := 4) rfl; have z5 := lv_neT c_10 (a := 5) rfl; have z6 := lv_neT c_12 (a := 6) rfl; have z7 := lv_neT c_14 (a := 7) rfl; have z8 := lv_neT c_16 (a := 8) rfl; have z9 := lv_neT c_19 (a := 9) rfl; have z10 := lv_neT c_22 (a := 10) rfl; have z11 := lv_neT c_25 (a := 11) rfl; have z12 := lv_neT c_26 (a := 12) rfl; have z13 := lv_neT c_28 (a := 13) rfl; have z14 := lv_neT c_30 (a := 14) rfl; have z15 := lv_neT c_32 (a := 15) rfl; have z16 := lv_neT c_33 (a := 16) rfl; omega) (by decide) ?_
  refine lv_bipush (v := (-2 : Int32)) hx hb0 dX8_count_171 (by decide) ?_
  exact gx_iret hx hb0 hr hlocks hK hP hD hS he dX8_count_173
theorem gm_X8_count : gMeth yX8_count cX8_count 2 (some .int) 1 := ⟨⟨by decide, by decide, by decide +kernel⟩, ini_RX8, co_yX8_count⟩
abbrev rm_X8_why : Room := { frames := 3, cells := 0, slots := 0, locals := 63 }
set_option maxHeartbeats 4000000 in
set_option maxRecDepth 100000 in
theorem c_X8_why (l : Launch) (dC : Nat → ClassId) (dI : Nat → Nat → Nat) (P : gP) (ad : Nat → Nat) (x1 : Int32) (x2 : Int32) (h0 : Hp) (Q : Int32 → Hp → Prop) (he : F_X8_why x1 x2 h0 Q) : Met l yX8_why (Cond.code yX8_why cX8_why 3 (some .int) :: TB) rm_X8_why (gPc (dC, dI) vwCl (tyC P) 7 (mE P ad) ad gKM h0 [.ref (ad 0), .int x1, .int x2]) (gQi (dC, dI) vwCl (tyC P) 7 (mE P ad) ad Q) 0 0 (gA 7 ad) := by
  refine gx_start (by decide) (Nat.le_of_ble_eq_true rfl) (fun p e s m below meth c ls hx hb0 hr hlocks hml hown hts hK hk hP hD hS hl => ?_)
  have hl : lv_has ls 3 [(0, .ref (ad 0)), (1, .int x1), (2, .int x2)] := hl
  have hown : s.vm.findClass RX8 = some m.cls := hown
  unfold F_X8_why at he
  refine lv_iload_n hx hb0 dX8_why_0 rfl (lv_at hl 1 rfl) ?_
  refine gx_si ⟨hx, hb0, hml, hown, hts⟩ (gKM_keep _) hk hK hP hD hS [.int x1] [] (c_X8_isNavigator l dC dI P ad x1 h0 _ he) gm_X8_isNavigator st_yX8_isNavigator ml_RX8_67 rfl rfl ⟨Nat.le_of_ble_eq_true rfl, Nat.le_of_ble_eq_true rfl⟩ rfl hl.1 rfl (Nat.le_of_ble_eq_true rfl) dX8_why_1 ⟨Nat.zero_le _, Nat.zero_le _⟩ (fun r_1 h_2 he H locs hP hD hS => ?_)
  refine lv_if_eq (tgt := 24) hx hb0 dX8_why_4 (by decide) (fun c_3 => ?_) (fun c_3 => ?_)
  · have he := he.1 c_3
    refine lv_iconst (v := (-1 : Int32)) hx hb0 dX8_why_24 (by decide) ?_
    exact gx_iret hx hb0 hr hlocks hK hP hD hS he dX8_why_25
  · have he := he.2 c_3
    refine lv_aload_n hx hb0 dX8_why_7 rfl (lv_at hl 0 rfl) ?_
    refine lv_iload_n hx hb0 dX8_why_8 rfl (lv_at hl 2 rfl) ?_
    refine gx_vi ⟨hx, hb0, hml, hown, hts⟩ (gKM_keep _) hk hK hP hD hS 0 [.int x2] [] (c_X8_isStar l dC dI P ad x2 h_2 _ he) gm_X8_isStar im_yX8_isStar se_yX8_isStar ml_RX8_70 (by decide) (mE_0 _) rfl rfl rfl ⟨Nat.le_of_ble_eq_true rfl, Nat.le_of_ble_eq_true rfl⟩ rfl hl.1 rfl (Nat.le_of_ble_eq_true rfl) dX8_why_9 ⟨Nat.zero_le _, Nat.zero_le _⟩ (fun r_4 h_5 he H locs hP hD hS => ?_)
    refine lv_if_eq (tgt := 24) hx hb0 dX8_why_12 (by decide) (fun c_6 => ?_) (fun c_6 => ?_)
    · have he := he.1 c_6
      refine lv_iconst (v := (-1 : Int32)) hx hb0 dX8_why_24 (by decide) ?_
      exact gx_iret hx hb0 hr hlocks hK hP hD hS he dX8_why_25
    · have he := he.2 c_6
      refine lv_aload_n hx hb0 dX8_why_15 rfl (lv_at hl 0 rfl) ?_
      refine lv_iload_n hx hb0 dX8_why_16 rfl (lv_at hl 1 rfl) ?_
      refine lv_iload_n hx hb0 dX8_why_17 rfl (lv_at hl 2 rfl) ?_
      refine gx_vi ⟨hx, hb0, hml, hown, hts⟩ (gKM_keep _) hk hK hP hD hS 0 [.int x1, .int x2] [] (c_X8_reason l dC dI P ad x1 x2 h_5 _ he) gm_X8_reason im_yX8_reason se_yX8_reason ml_RX8_73 (by decide) (mE_0 _) rfl rfl rfl ⟨Nat.le_of_ble_eq_true rfl, Nat.le_of_ble_eq_true rfl⟩ rfl hl.1 rfl (Nat.le_of_ble_eq_true rfl) dX8_why_18 ⟨Nat.zero_le _, Nat.zero_le _⟩ (fun r_7 h_8 he H locs hP hD hS => ?_)
      refine lv_goto (tgt := 25) hx hb0 dX8_why_21 (by decide) ?_
      exact gx_iret hx hb0 hr hlocks hK hP hD hS he dX8_why_25
theorem gm_X8_why : gMeth yX8_why cX8_why 3 (some .int) 2 := ⟨⟨by decide, by decide, by decide +kernel⟩, ini_RX8, co_yX8_why⟩
abbrev rm_X8_ifSighted : Room := { frames := 4, cells := 0, slots := 0, locals := 85 }
set_option maxHeartbeats 4000000 in
set_option maxRecDepth 100000 in
theorem c_X8_ifSighted (l : Launch) (dC : Nat → ClassId) (dI : Nat → Nat → Nat) (P : gP) (ad : Nat → Nat) (x1 : Int32) (x2 : Int32) (h0 : Hp) (Q : Int32 → Hp → Prop) (he : F_X8_ifSighted x1 x2 h0 Q) : Met l yX8_ifSighted (Cond.code yX8_ifSighted cX8_ifSighted 4 (some .int) :: TB) rm_X8_ifSighted (gPc (dC, dI) vwCl (tyC P) 7 (mE P ad) ad gKM h0 [.ref (ad 0), .int x1, .int x2]) (gQi (dC, dI) vwCl (tyC P) 7 (mE P ad) ad Q) 0 0 (gA 7 ad) := by
  refine gx_start (by decide) (Nat.le_of_ble_eq_true rfl) (fun p e s m below meth c ls hx hb0 hr hlocks hml hown hts hK hk hP hD hS hl => ?_)
  have hl : lv_has ls 4 [(0, .ref (ad 0)), (1, .int x1), (2, .int x2)] := hl
  have hown : s.vm.findClass RX8 = some m.cls := hown
  unfold F_X8_ifSighted at he
  refine lv_aload_n hx hb0 dX8_ifSighted_0 rfl (lv_at hl 0 rfl) ?_
  refine lv_iload_n hx hb0 dX8_ifSighted_1 rfl (lv_at hl 1 rfl) ?_
  refine lv_iload_n hx hb0 dX8_ifSighted_2 rfl (lv_at hl 2 rfl) ?_
  refine gx_vi ⟨hx, hb0, hml, hown, hts⟩ (gKM_keep _) hk hK hP hD hS 0 [.int x1, .int x2] [] (c_X8_whyNot l dC dI P ad x1 x2 h0 _ he) gm_X8_whyNot im_yX8_whyNot se_yX8_whyNot ml_RX8_76 (by decide) (mE_0 _) rfl rfl rfl ⟨Nat.le_of_ble_eq_true rfl, Nat.le_of_ble_eq_true rfl⟩ rfl hl.1 rfl (Nat.le_of_ble_eq_true rfl) dX8_ifSighted_3 ⟨Nat.zero_le _, Nat.zero_le _⟩ (fun r_1 h_2 he H locs hP hD hS => ?_)
  refine lv_istore_n (lv' := [(3, .int r_1), (0, .ref (ad 0)), (1, .int x1), (2, .int x2)]) hx hb0 dX8_ifSighted_6 rfl hl (by decide) rfl (fun ls hl => ?_)
  refine lv_iload_n hx hb0 dX8_ifSighted_7 rfl (lv_at hl 0 rfl) ?_
  refine lv_if_eq (tgt := 15) hx hb0 dX8_ifSighted_8 (by decide) (fun c_3 => ?_) (fun c_3 => ?_)
  · have he := he.1 c_3
    refine lv_aload_n hx hb0 dX8_ifSighted_15 rfl (lv_at hl 1 rfl) ?_
    refine lv_iload_n hx hb0 dX8_ifSighted_16 rfl (lv_at hl 2 rfl) ?_
    refine lv_iload_n hx hb0 dX8_ifSighted_17 rfl (lv_at hl 3 rfl) ?_
    refine gx_vi ⟨hx, hb0, hml, hown, hts⟩ (gKM_keep _) hk hK hP hD hS 0 [.int x1, .int x2] [] (c_X8_wouldBelieve l dC dI P ad x1 x2 h_2 _ he) gm_X8_wouldBelieve im_yX8_wouldBelieve se_yX8_wouldBelieve ml_RX8_79 (by decide) (mE_0 _) rfl rfl rfl ⟨Nat.le_of_ble_eq_true rfl, Nat.le_of_ble_eq_true rfl⟩ rfl hl.1 rfl (Nat.le_of_ble_eq_true rfl) dX8_ifSighted_18 ⟨Nat.zero_le _, Nat.zero_le _⟩ (fun r_4 h_5 he H locs hP hD hS => ?_)
    refine lv_sipush (v := (5400 : Int32)) hx hb0 dX8_ifSighted_21 (by decide) ?_
    refine lv_iadd hx hb0 dX8_ifSighted_24 ?_
    exact gx_iret hx hb0 hr hlocks hK hP hD hS he dX8_ifSighted_25
  · have he := he.2 c_3
    refine lv_iload_n hx hb0 dX8_ifSighted_11 rfl (lv_at hl 0 rfl) ?_
    refine lv_goto (tgt := 25) hx hb0 dX8_ifSighted_12 (by decide) ?_
    exact gx_iret hx hb0 hr hlocks hK hP hD hS he dX8_ifSighted_25
theorem gm_X8_ifSighted : gMeth yX8_ifSighted cX8_ifSighted 4 (some .int) 2 := ⟨⟨by decide, by decide, by decide +kernel⟩, ini_RX8, co_yX8_ifSighted⟩
abbrev rm_X8_median : Room := { frames := 4, cells := 0, slots := 0, locals := 94 }
set_option maxHeartbeats 4000000 in
set_option maxRecDepth 100000 in
theorem c_X8_median (l : Launch) (dC : Nat → ClassId) (dI : Nat → Nat → Nat) (P : gP) (ad : Nat → Nat) (x1 : Int32) (h0 : Hp) (Q : Int32 → Hp → Prop) (he : F_X8_median x1 h0 Q) : Met l yX8_median (Cond.code yX8_median cX8_median 2 (some .int) :: TB) rm_X8_median (gPc (dC, dI) vwCl (tyC P) 7 (mE P ad) ad gKM h0 [.ref (ad 0), .int x1]) (gQi (dC, dI) vwCl (tyC P) 7 (mE P ad) ad Q) 0 0 (gA 7 ad) := by
  refine gx_start (by decide) (Nat.le_of_ble_eq_true rfl) (fun p e s m below meth c ls hx hb0 hr hlocks hml hown hts hK hk hP hD hS hl => ?_)
  have hl : lv_has ls 2 [(0, .ref (ad 0)), (1, .int x1)] := hl
  have hown : s.vm.findClass RX8 = some m.cls := hown
  unfold F_X8_median at he
  refine lv_iload_n hx hb0 dX8_median_0 rfl (lv_at hl 1 rfl) ?_
  refine lv_bipush (v := (-6 : Int32)) hx hb0 dX8_median_1 (by decide) ?_
  refine lv_icmp_eq (tgt := 15) hx hb0 dX8_median_3 (by decide) (fun c_1 => ?_) (fun c_1 => ?_)
  · have he := he.1 c_1
    refine lv_aload_n hx hb0 dX8_median_15 rfl (lv_at hl 0 rfl) ?_
    refine lv_iload_n hx hb0 dX8_median_16 rfl (lv_at hl 1 rfl) ?_
    refine gx_vi ⟨hx, hb0, hml, hown, hts⟩ (gKM_keep _) hk hK hP hD hS 0 [.int x1] [] (c_X8_parts l dC dI P ad x1 h0 _ he) gm_X8_parts im_yX8_parts se_yX8_parts ml_RX8_86 (by decide) (mE_0 _) rfl rfl rfl ⟨Nat.le_of_ble_eq_true rfl, Nat.le_of_ble_eq_true rfl⟩ rfl hl.1 rfl (Nat.le_of_ble_eq_true rfl) dX8_median_17 ⟨Nat.zero_le _, Nat.zero_le _⟩ (fun r_2 h_3 he H locs hP hD hS => ?_)
    refine lv_iconst (v := (3 : Int32)) hx hb0 dX8_median_20 (by decide) ?_
    refine lv_icmp_ge (tgt := 29) hx hb0 dX8_median_21 (by decide) (fun c_4 => ?_) (fun c_4 => ?_)
    · have he := he.1 c_4
      refine lv_aload_n hx hb0 dX8_median_29 rfl (lv_at hl 0 rfl) ?_
      refine lv_iload_n hx hb0 dX8_median_30 rfl (lv_at hl 1 rfl) ?_
      refine gx_vi ⟨hx, hb0, hml, hown, hts⟩ (gKM_keep _) hk hK hP hD hS 0 [.int x1] [] (c_X8_middle l dC dI P ad x1 h_3 _ he) gm_X8_middle im_yX8_middle se_yX8_middle ml_RX8_92 (by decide) (mE_0 _) rfl rfl rfl ⟨Nat.le_of_ble_eq_true rfl, Nat.le_of_ble_eq_true rfl⟩ rfl hl.1 rfl (Nat.le_of_ble_eq_true rfl) dX8_median_31 ⟨Nat.zero_le _, Nat.zero_le _⟩ (fun r_5 h_6 he H locs hP hD hS => ?_)
      refine lv_sipush (v := (5400 : Int32)) hx hb0 dX8_median_34 (by decide) ?_
      refine lv_iadd hx hb0 dX8_median_37 ?_
      exact gx_iret hx hb0 hr hlocks hK hP hD hS he dX8_median_38
    · have he := he.2 c_4
      refine lv_bipush (v := (-5 : Int32)) hx hb0 dX8_median_24 (by decide) ?_
      refine lv_goto (tgt := 38) hx hb0 dX8_median_26 (by decide) ?_
      exact gx_iret hx hb0 hr hlocks hK hP hD hS he dX8_median_38
  · have he := he.2 c_1
    refine lv_iload_n hx hb0 dX8_median_6 rfl (lv_at hl 1 rfl) ?_
    refine gx_si ⟨hx, hb0, hml, hown, hts⟩ (gKM_keep _) hk hK hP hD hS [.int x1] [] (c_X8_isNavigator l dC dI P ad x1 h0 _ he) gm_X8_isNavigator st_yX8_isNavigator ml_RX8_67 rfl rfl ⟨Nat.le_of_ble_eq_true rfl, Nat.le_of_ble_eq_true rfl⟩ rfl hl.1 rfl (Nat.le_of_ble_eq_true rfl) dX8_median_7 ⟨Nat.zero_le _, Nat.zero_le _⟩ (fun r_7 h_8 he H locs hP hD hS => ?_)
    refine lv_if_ne (tgt := 15) hx hb0 dX8_median_10 (by decide) (fun c_9 => ?_) (fun c_9 => ?_)
    · have he := he.2 c_9
      refine lv_aload_n hx hb0 dX8_median_15 rfl (lv_at hl 0 rfl) ?_
      refine lv_iload_n hx hb0 dX8_median_16 rfl (lv_at hl 1 rfl) ?_
      refine gx_vi ⟨hx, hb0, hml, hown, hts⟩ (gKM_keep _) hk hK hP hD hS 0 [.int x1] [] (c_X8_parts l dC dI P ad x1 h_8 _ he) gm_X8_parts im_yX8_parts se_yX8_parts ml_RX8_86 (by decide) (mE_0 _) rfl rfl rfl ⟨Nat.le_of_ble_eq_true rfl, Nat.le_of_ble_eq_true rfl⟩ rfl hl.1 rfl (Nat.le_of_ble_eq_true rfl) dX8_median_17 ⟨Nat.zero_le _, Nat.zero_le _⟩ (fun r_10 h_11 he H locs hP hD hS => ?_)
      refine lv_iconst (v := (3 : Int32)) hx hb0 dX8_median_20 (by decide) ?_
      refine lv_icmp_ge (tgt := 29) hx hb0 dX8_median_21 (by decide) (fun c_12 => ?_) (fun c_12 => ?_)
      · have he := he.1 c_12
        refine lv_aload_n hx hb0 dX8_median_29 rfl (lv_at hl 0 rfl) ?_
        refine lv_iload_n hx hb0 dX8_median_30 rfl (lv_at hl 1 rfl) ?_
        refine gx_vi ⟨hx, hb0, hml, hown, hts⟩ (gKM_keep _) hk hK hP hD hS 0 [.int x1] [] (c_X8_middle l dC dI P ad x1 h_11 _ he) gm_X8_middle im_yX8_middle se_yX8_middle ml_RX8_92 (by decide) (mE_0 _) rfl rfl rfl ⟨Nat.le_of_ble_eq_true rfl, Nat.le_of_ble_eq_true rfl⟩ rfl hl.1 rfl (Nat.le_of_ble_eq_true rfl) dX8_median_31 ⟨Nat.zero_le _, Nat.zero_le _⟩ (fun r_13 h_14 he H locs hP hD hS => ?_)
        refine lv_sipush (v := (5400 : Int32)) hx hb0 dX8_median_34 (by decide) ?_
        refine lv_iadd hx hb0 dX8_median_37 ?_
        exact gx_iret hx hb0 hr hlocks hK hP hD hS he dX8_median_38
      · have he := he.2 c_12
        refine lv_bipush (v := (-5 : Int32)) hx hb0 dX8_median_24 (by decide) ?_
        refine lv_goto (tgt := 38) hx hb0 dX8_median_26 (by decide) ?_
        exact gx_iret hx hb0 hr hlocks hK hP hD hS he dX8_median_38
    · have he := he.1 c_9
      refine lv_iconst (v := (-1 : Int32)) hx hb0 dX8_median_13 (by decide) ?_
      exact gx_iret hx hb0 hr hlocks hK hP hD hS he dX8_median_14
theorem gm_X8_median : gMeth yX8_median cX8_median 2 (some .int) 1 := ⟨⟨by decide, by decide, by decide +kernel⟩, ini_RX8, co_yX8_median⟩
abbrev rm_X8_bestStar : Room := { frames := 2, cells := 0, slots := 0, locals := 41 }
set_option maxHeartbeats 4000000 in
set_option maxRecDepth 100000 in
theorem l_X8_bestStar_5 (l : Launch) (dC : Nat → ClassId) (dI : Nat → Nat → Nat) (P : gP) (ad : Nat → Nat) {p : Program} {e : Env} {s : State} {m : MethodId} {args : Array Value} {below : List Frame} {meth : Method} {c : Code} (hx : p.tables.exec = Jvm.exec) (hb0 : c.code = cX8_bestStar) (hr : meth.sig.returnType = (some .int)) (hlocks : meth.locks = false) (hml : c.maxLocals = 4) (hown : s.vm.findClass RX8 = some m.cls) (hts : ∀ w ∈ TB, w.before args s = true) (hK : va_K (dC, dI) vwCl (tyC P) s) (hk : gKM s) (Q : Int32 → Hp → Prop) : ∀ (n : Nat) (y1 : Int32) (y2 : Int32) (h0 : Hp), F_X8_bestStar_L5  n y1 y2 h0 Q → ∀ (H : Heap) (locs : List Loc) (ls : Array Slot), va_P (dC, dI) vwCl (gW 7 (mE P ad) ad h0) H → va_D (gA 7 ad) (gW 7 (mE P ad) ad h0) → va_S (gA 7 ad) s.heap H locs → lv_has ls 4 [(0, .ref (ad 0)), (1, .int y1), (2, .int y2)] → W p l e rm_X8_bestStar s m args below meth c H locs 0 0 (MQ below (gQi (dC, dI) vwCl (tyC P) 7 (mE P ad) ad Q) args s 0 0 (gA 7 ad)) (F0 m 5 ls []) := by
  intro n
  induction n with
  | zero =>
    intro y1 y2 h0 he
    exact he.elim
  | succ n ih =>
    intro y1 y2 h0 he H locs ls hP hD hS hl
    rw [F_X8_bestStar_L5] at he
    refine lv_iload_n hx hb0 dX8_bestStar_5 rfl (lv_at hl 2 rfl) ?_
    refine lv_aload_n hx hb0 dX8_bestStar_6 rfl (lv_at hl 0 rfl) ?_
    refine gx_get hx hb0 hts in_RX8 hown hK hP 0 (by decide) (mE_0 _) rfl 0 (by decide) fl_RX8_7 rfl dX8_bestStar_7 ?_
    refine lv_bipush (v := (13 : Int32)) hx hb0 dX8_bestStar_10 (by decide) ?_
    refine gx_ialdK hx hb0 hK hP 1 0 (by decide) mE_1 rfl (vp_lit (13 : Int32) (by decide) (by decide)) 13 rfl dX8_bestStar_12 ?_
    refine lv_icmp_ge (tgt := 83) hx hb0 dX8_bestStar_13 (by decide) (fun c_1 => ?_) (fun c_1 => ?_)
    · have he := he.1 c_1
      refine lv_iload_n hx hb0 dX8_bestStar_83 rfl (lv_at hl 1 rfl) ?_
      exact gx_iret hx hb0 hr hlocks hK hP hD hS he dX8_bestStar_84
    · have he := he.2 c_1
      refine lv_aload_n hx hb0 dX8_bestStar_16 rfl (lv_at hl 0 rfl) ?_
      refine gx_get hx hb0 hts in_RX8 hown hK hP 0 (by decide) (mE_0 _) rfl 0 (by decide) fl_RX8_7 rfl dX8_bestStar_17 ?_
      refine lv_bipush (v := (23 : Int32)) hx hb0 dX8_bestStar_20 (by decide) ?_
      refine lv_iload_n hx hb0 dX8_bestStar_22 rfl (lv_at hl 2 rfl) ?_
      refine lv_iadd hx hb0 dX8_bestStar_23 ?_
      obtain ⟨v_2, he⟩ := he
      refine gx_iald hx hb0 hK hP 1 0 (by decide) mE_1 rfl v_2 dX8_bestStar_24 ?_
      refine lv_if_ne (tgt := 46) hx hb0 dX8_bestStar_25 (by decide) (fun c_3 => ?_) (fun c_3 => ?_)
      · have he := he.2 c_3
        refine lv_iconst (v := (0 : Int32)) hx hb0 dX8_bestStar_46 (by decide) ?_
        refine lv_istore_n (lv' := [(3, .int (0 : Int32)), (0, .ref (ad 0)), (1, .int y1), (2, .int y2)]) hx hb0 dX8_bestStar_47 rfl hl (by decide) rfl (fun ls hl => ?_)
        refine lv_iload_n hx hb0 dX8_bestStar_48 rfl (lv_at hl 0 rfl) ?_
        refine lv_if_eq (tgt := 75) hx hb0 dX8_bestStar_49 (by decide) (fun c_4 => ?_) (fun c_4 => ?_)
        · refine lv_iload_n hx hb0 dX8_bestStar_75 rfl (lv_at hl 2 rfl) ?_
          refine lv_istore_n (lv' := [(1, .int y1), (3, .int (0 : Int32)), (0, .ref (ad 0)), (2, .int y2)]) hx hb0 dX8_bestStar_76 rfl hl (by decide) rfl (fun ls hl => ?_)
          obtain ⟨x_5, ex_5⟩ : ∃ y : Int32, y = y2 + 1 := ⟨_, rfl⟩
          have he := he x_5 ex_5
          refine lv_iinc (v := x_5) (lv' := [(2, .int x_5), (1, .int y1), (3, .int (0 : Int32)), (0, .ref (ad 0))]) hx hb0 dX8_bestStar_77 hl (k := 3) rfl (by rw [ex_5]; rfl) (by decide) rfl (fun ls hl => ?_)
          refine lv_goto (tgt := 5) hx hb0 dX8_bestStar_80 (by decide) ?_
          exact ih y1 x_5 h0 he _ _ ls hP hD hS (lv_sub hl [3, 1, 0] rfl)
        · exact absurd c_4 (by decide)
      · have he := he.1 c_3
        refine lv_aload_n hx hb0 dX8_bestStar_28 rfl (lv_at hl 0 rfl) ?_
        refine lv_iload_n hx hb0 dX8_bestStar_29 rfl (lv_at hl 2 rfl) ?_
        refine gx_vi ⟨hx, hb0, hml, hown, hts⟩ (gKM_keep _) hk hK hP hD hS 0 [.int y2] [] (c_X8_height l dC dI P ad y2 h0 _ he) gm_X8_height im_yX8_height se_yX8_height ml_RX8_58 (by decide) (mE_0 _) rfl rfl rfl ⟨Nat.le_of_ble_eq_true rfl, Nat.le_of_ble_eq_true rfl⟩ rfl hl.1 rfl (Nat.le_of_ble_eq_true rfl) dX8_bestStar_30 ⟨Nat.zero_le _, Nat.zero_le _⟩ (fun r_6 h_7 he H locs hP hD hS => ?_)
        refine lv_aload_n hx hb0 dX8_bestStar_33 rfl (lv_at hl 0 rfl) ?_
        refine gx_get hx hb0 hts in_RX8 hown hK hP 0 (by decide) (mE_0 _) rfl 0 (by decide) fl_RX8_7 rfl dX8_bestStar_34 ?_
        refine lv_iconst (v := (3 : Int32)) hx hb0 dX8_bestStar_37 (by decide) ?_
        refine gx_ialdK hx hb0 hK hP 1 0 (by decide) mE_1 rfl (vp_lit (3 : Int32) (by decide) (by decide)) 3 rfl dX8_bestStar_38 ?_
        refine lv_icmp_lt (tgt := 46) hx hb0 dX8_bestStar_39 (by decide) (fun c_8 => ?_) (fun c_8 => ?_)
        · have he := he.1 c_8
          refine lv_iconst (v := (0 : Int32)) hx hb0 dX8_bestStar_46 (by decide) ?_
          refine lv_istore_n (lv' := [(3, .int (0 : Int32)), (0, .ref (ad 0)), (1, .int y1), (2, .int y2)]) hx hb0 dX8_bestStar_47 rfl hl (by decide) rfl (fun ls hl => ?_)
          refine lv_iload_n hx hb0 dX8_bestStar_48 rfl (lv_at hl 0 rfl) ?_
          refine lv_if_eq (tgt := 75) hx hb0 dX8_bestStar_49 (by decide) (fun c_9 => ?_) (fun c_9 => ?_)
          · refine lv_iload_n hx hb0 dX8_bestStar_75 rfl (lv_at hl 2 rfl) ?_
            refine lv_istore_n (lv' := [(1, .int y1), (3, .int (0 : Int32)), (0, .ref (ad 0)), (2, .int y2)]) hx hb0 dX8_bestStar_76 rfl hl (by decide) rfl (fun ls hl => ?_)
            obtain ⟨x_10, ex_10⟩ : ∃ y : Int32, y = y2 + 1 := ⟨_, rfl⟩
            have he := he x_10 ex_10
            refine lv_iinc (v := x_10) (lv' := [(2, .int x_10), (1, .int y1), (3, .int (0 : Int32)), (0, .ref (ad 0))]) hx hb0 dX8_bestStar_77 hl (k := 3) rfl (by rw [ex_10]; rfl) (by decide) rfl (fun ls hl => ?_)
            refine lv_goto (tgt := 5) hx hb0 dX8_bestStar_80 (by decide) ?_
            exact ih y1 x_10 h_7 he _ _ ls hP hD hS (lv_sub hl [3, 1, 0] rfl)
          · exact absurd c_9 (by decide)
        · have he := he.2 c_8
          refine lv_iconst (v := (1 : Int32)) hx hb0 dX8_bestStar_42 (by decide) ?_
          refine lv_goto (tgt := 47) hx hb0 dX8_bestStar_43 (by decide) ?_
          refine lv_istore_n (lv' := [(3, .int (1 : Int32)), (0, .ref (ad 0)), (1, .int y1), (2, .int y2)]) hx hb0 dX8_bestStar_47 rfl hl (by decide) rfl (fun ls hl => ?_)
          refine lv_iload_n hx hb0 dX8_bestStar_48 rfl (lv_at hl 0 rfl) ?_
          refine lv_if_eq (tgt := 75) hx hb0 dX8_bestStar_49 (by decide) (fun c_11 => ?_) (fun c_11 => ?_)
          · exact absurd c_11 (by decide)
          · refine lv_iload_n hx hb0 dX8_bestStar_52 rfl (lv_at hl 2 rfl) ?_
            refine lv_bipush (v := (-6 : Int32)) hx hb0 dX8_bestStar_53 (by decide) ?_
            refine lv_icmp_eq (tgt := 71) hx hb0 dX8_bestStar_55 (by decide) (fun c_12 => ?_) (fun c_12 => ?_)
            · have he := he.1 c_12
              refine lv_iload_n hx hb0 dX8_bestStar_71 rfl (lv_at hl 3 rfl) ?_
              refine lv_goto (tgt := 76) hx hb0 dX8_bestStar_72 (by decide) ?_
              refine lv_istore_n (lv' := [(1, .int y2), (3, .int (1 : Int32)), (0, .ref (ad 0)), (2, .int y2)]) hx hb0 dX8_bestStar_76 rfl hl (by decide) rfl (fun ls hl => ?_)
              obtain ⟨x_13, ex_13⟩ : ∃ y : Int32, y = y2 + 1 := ⟨_, rfl⟩
              have he := he x_13 ex_13
              refine lv_iinc (v := x_13) (lv' := [(2, .int x_13), (1, .int y2), (3, .int (1 : Int32)), (0, .ref (ad 0))]) hx hb0 dX8_bestStar_77 hl (k := 3) rfl (by rw [ex_13]; rfl) (by decide) rfl (fun ls hl => ?_)
              refine lv_goto (tgt := 5) hx hb0 dX8_bestStar_80 (by decide) ?_
              exact ih y2 x_13 h_7 he _ _ ls hP hD hS (lv_sub hl [3, 1, 0] rfl)
            · have he := he.2 c_12
              refine lv_aload_n hx hb0 dX8_bestStar_58 rfl (lv_at hl 1 rfl) ?_
              refine lv_iload_n hx hb0 dX8_bestStar_59 rfl (lv_at hl 3 rfl) ?_
              refine gx_vi ⟨hx, hb0, hml, hown, hts⟩ (gKM_keep _) hk hK hP hD hS 0 [.int y2] [] (c_X8_height l dC dI P ad y2 h_7 _ he) gm_X8_height im_yX8_height se_yX8_height ml_RX8_58 (by decide) (mE_0 _) rfl rfl rfl ⟨Nat.le_of_ble_eq_true rfl, Nat.le_of_ble_eq_true rfl⟩ rfl hl.1 rfl (Nat.le_of_ble_eq_true rfl) dX8_bestStar_60 ⟨Nat.zero_le _, Nat.zero_le _⟩ (fun r_14 h_15 he H locs hP hD hS => ?_)
              refine lv_aload_n hx hb0 dX8_bestStar_63 rfl (lv_at hl 1 rfl) ?_
              refine lv_iload_n hx hb0 dX8_bestStar_64 rfl (lv_at hl 2 rfl) ?_
              refine gx_vi ⟨hx, hb0, hml, hown, hts⟩ (gKM_keep _) hk hK hP hD hS 0 [.int y1] [.int r_14] (c_X8_height l dC dI P ad y1 h_15 _ he) gm_X8_height im_yX8_height se_yX8_height ml_RX8_58 (by decide) (mE_0 _) rfl rfl rfl ⟨Nat.le_of_ble_eq_true rfl, Nat.le_of_ble_eq_true rfl⟩ rfl hl.1 rfl (Nat.le_of_ble_eq_true rfl) dX8_bestStar_65 ⟨Nat.zero_le _, Nat.zero_le _⟩ (fun r_16 h_17 he H locs hP hD hS => ?_)
              refine lv_icmp_le (tgt := 75) hx hb0 dX8_bestStar_68 (by decide) (fun c_18 => ?_) (fun c_18 => ?_)
              · have he := he.1 c_18
                refine lv_iload_n hx hb0 dX8_bestStar_75 rfl (lv_at hl 2 rfl) ?_
                refine lv_istore_n (lv' := [(1, .int y1), (3, .int (1 : Int32)), (0, .ref (ad 0)), (2, .int y2)]) hx hb0 dX8_bestStar_76 rfl hl (by decide) rfl (fun ls hl => ?_)
                obtain ⟨x_19, ex_19⟩ : ∃ y : Int32, y = y2 + 1 := ⟨_, rfl⟩
                have he := he x_19 ex_19
                refine lv_iinc (v := x_19) (lv' := [(2, .int x_19), (1, .int y1), (3, .int (1 : Int32)), (0, .ref (ad 0))]) hx hb0 dX8_bestStar_77 hl (k := 3) rfl (by rw [ex_19]; rfl) (by decide) rfl (fun ls hl => ?_)
                refine lv_goto (tgt := 5) hx hb0 dX8_bestStar_80 (by decide) ?_
                exact ih y1 x_19 h_17 he _ _ ls hP hD hS (lv_sub hl [3, 1, 0] rfl)
              · have he := he.2 c_18
                refine lv_iload_n hx hb0 dX8_bestStar_71 rfl (lv_at hl 3 rfl) ?_
                refine lv_goto (tgt := 76) hx hb0 dX8_bestStar_72 (by decide) ?_
                refine lv_istore_n (lv' := [(1, .int y2), (3, .int (1 : Int32)), (0, .ref (ad 0)), (2, .int y2)]) hx hb0 dX8_bestStar_76 rfl hl (by decide) rfl (fun ls hl => ?_)
                obtain ⟨x_20, ex_20⟩ : ∃ y : Int32, y = y2 + 1 := ⟨_, rfl⟩
                have he := he x_20 ex_20
                refine lv_iinc (v := x_20) (lv' := [(2, .int x_20), (1, .int y2), (3, .int (1 : Int32)), (0, .ref (ad 0))]) hx hb0 dX8_bestStar_77 hl (k := 3) rfl (by rw [ex_20]; rfl) (by decide) rfl (fun ls hl => ?_)
                refine lv_goto (tgt := 5) hx hb0 dX8_bestStar_80 (by decide) ?_
                exact ih y2 x_20 h_17 he _ _ ls hP hD hS (lv_sub hl [3, 1, 0] rfl)
set_option maxHeartbeats 4000000 in
set_option maxRecDepth 100000 in
theorem c_X8_bestStar (l : Launch) (dC : Nat → ClassId) (dI : Nat → Nat → Nat) (P : gP) (ad : Nat → Nat) (h0 : Hp) (Q : Int32 → Hp → Prop) (he : F_X8_bestStar  h0 Q) : Met l yX8_bestStar (Cond.code yX8_bestStar cX8_bestStar 4 (some .int) :: TB) rm_X8_bestStar (gPc (dC, dI) vwCl (tyC P) 7 (mE P ad) ad gKM h0 [.ref (ad 0)]) (gQi (dC, dI) vwCl (tyC P) 7 (mE P ad) ad Q) 0 0 (gA 7 ad) := by
  refine gx_start (by decide) (Nat.le_of_ble_eq_true rfl) (fun p e s m below meth c ls hx hb0 hr hlocks hml hown hts hK hk hP hD hS hl => ?_)
  have hl : lv_has ls 4 [(0, .ref (ad 0))] := hl
  have hown : s.vm.findClass RX8 = some m.cls := hown
  unfold F_X8_bestStar at he
  refine lv_bipush (v := (-6 : Int32)) hx hb0 dX8_bestStar_0 (by decide) ?_
  refine lv_istore_n (lv' := [(1, .int (-6 : Int32)), (0, .ref (ad 0))]) hx hb0 dX8_bestStar_2 rfl hl (by decide) rfl (fun ls hl => ?_)
  refine lv_iconst (v := (0 : Int32)) hx hb0 dX8_bestStar_3 (by decide) ?_
  refine lv_istore_n (lv' := [(2, .int (0 : Int32)), (1, .int (-6 : Int32)), (0, .ref (ad 0))]) hx hb0 dX8_bestStar_4 rfl hl (by decide) rfl (fun ls hl => ?_)
  obtain ⟨n_21, he⟩ := he
  exact l_X8_bestStar_5 l dC dI P ad  hx hb0 hr hlocks hml hown hts hK hk Q n_21 (-6 : Int32) (0 : Int32) h0 he _ _ ls hP hD hS (lv_sub hl [2, 1, 0] rfl)
theorem gm_X8_bestStar : gMeth yX8_bestStar cX8_bestStar 4 (some .int) 0 := ⟨⟨by decide, by decide, by decide +kernel⟩, ini_RX8, co_yX8_bestStar⟩
abbrev rm_X8_nearest : Room := { frames := 1, cells := 0, slots := 0, locals := 22 }
set_option maxHeartbeats 4000000 in
set_option maxRecDepth 100000 in
theorem l_X8_nearest_21 (l : Launch) (dC : Nat → ClassId) (dI : Nat → Nat → Nat) (P : gP) (ad : Nat → Nat) {p : Program} {e : Env} {s : State} {m : MethodId} {args : Array Value} {below : List Frame} {meth : Method} {c : Code} (hx : p.tables.exec = Jvm.exec) (hb0 : c.code = cX8_nearest) (hr : meth.sig.returnType = (some .int)) (hlocks : meth.locks = false) (hml : c.maxLocals = 7) (hown : s.vm.findClass RX8 = some m.cls) (hts : ∀ w ∈ TB, w.before args s = true) (hK : va_K (dC, dI) vwCl (tyC P) s) (hk : gKM s) (Q : Int32 → Hp → Prop) : ∀ (n : Nat) (y1 : Int32) (y2 : Int32) (y3 : Int32) (y4 : Int32) (h0 : Hp), F_X8_nearest_L21  n y1 y2 y3 y4 h0 Q → ∀ (H : Heap) (locs : List Loc) (ls : Array Slot), va_P (dC, dI) vwCl (gW 7 (mE P ad) ad h0) H → va_D (gA 7 ad) (gW 7 (mE P ad) ad h0) → va_S (gA 7 ad) s.heap H locs → lv_has ls 7 [(0, .ref (ad 0)), (1, .int y1), (2, .int y2), (3, .int y3), (4, .int y4)] → W p l e rm_X8_nearest s m args below meth c H locs 0 0 (MQ below (gQi (dC, dI) vwCl (tyC P) 7 (mE P ad) ad Q) args s 0 0 (gA 7 ad)) (F0 m 21 ls []) := by
  intro n
  induction n with
  | zero =>
    intro y1 y2 y3 y4 h0 he
    exact he.elim
  | succ n ih =>
    intro y1 y2 y3 y4 h0 he H locs ls hP hD hS hl
    rw [F_X8_nearest_L21] at he
    refine lv_iload hx hb0 dX8_nearest_21 (lv_at hl 4 rfl) ?_
    refine lv_bipush (v := (7 : Int32)) hx hb0 dX8_nearest_23 (by decide) ?_
    refine lv_icmp_ge (tgt := 108) hx hb0 dX8_nearest_25 (by decide) (fun c_4 => ?_) (fun c_4 => ?_)
    · have he := he.1 c_4
      refine lv_iload_n hx hb0 dX8_nearest_108 rfl (lv_at hl 1 rfl) ?_
      refine lv_if_ne (tgt := 116) hx hb0 dX8_nearest_109 (by decide) (fun c_5 => ?_) (fun c_5 => ?_)
      · have he := he.2 c_5
        refine lv_iload_n hx hb0 dX8_nearest_116 rfl (lv_at hl 3 rfl) ?_
        exact gx_iret hx hb0 hr hlocks hK hP hD hS he dX8_nearest_117
      · have he := he.1 c_5
        refine lv_iload_n hx hb0 dX8_nearest_112 rfl (lv_at hl 2 rfl) ?_
        refine lv_goto (tgt := 117) hx hb0 dX8_nearest_113 (by decide) ?_
        exact gx_iret hx hb0 hr hlocks hK hP hD hS he dX8_nearest_117
    · have he := he.2 c_4
      refine lv_aload_n hx hb0 dX8_nearest_28 rfl (lv_at hl 0 rfl) ?_
      refine lv_iload hx hb0 dX8_nearest_29 (lv_at hl 4 rfl) ?_
      refine lv_bipush (v := (6 : Int32)) hx hb0 dX8_nearest_31 (by decide) ?_
      refine gx_vi ⟨hx, hb0, hml, hown, hts⟩ (gKM_keep _) hk hK hP hD hS 0 [.int y4, .int (6 : Int32)] [] (c_X8_number l dC dI P ad y4 (6 : Int32) h0 _ he) gm_X8_number im_yX8_number se_yX8_number ml_RX8_54 (by decide) (mE_0 _) rfl rfl rfl ⟨Nat.le_of_ble_eq_true rfl, Nat.le_of_ble_eq_true rfl⟩ rfl hl.1 rfl (Nat.le_of_ble_eq_true rfl) dX8_nearest_33 ⟨Nat.zero_le _, Nat.zero_le _⟩ (fun r_6 h_7 he H locs hP hD hS => ?_)
      refine lv_aload_n hx hb0 dX8_nearest_36 rfl (lv_at hl 0 rfl) ?_
      refine gx_get hx hb0 hts in_RX8 hown hK hP 0 (by decide) (mE_0 _) rfl 0 (by decide) fl_RX8_7 rfl dX8_nearest_37 ?_
      refine lv_iconst (v := (4 : Int32)) hx hb0 dX8_nearest_40 (by decide) ?_
      refine gx_ialdK hx hb0 hK hP 1 0 (by decide) mE_1 rfl (vp_lit (4 : Int32) (by decide) (by decide)) 4 rfl dX8_nearest_41 ?_
      refine lv_isub hx hb0 dX8_nearest_42 ?_
      refine gx_si ⟨hx, hb0, hml, hown, hts⟩ (gKM_keep _) hk hK hP hD hS [.int (r_6 - (h_7 1 4))] [] (c_X8_sizeOf l dC dI P ad (r_6 - (h_7 1 4)) h_7 _ he) gm_X8_sizeOf st_yX8_sizeOf ml_RX8_50 rfl rfl ⟨Nat.le_of_ble_eq_true rfl, Nat.le_of_ble_eq_true rfl⟩ rfl hl.1 rfl (Nat.le_of_ble_eq_true rfl) dX8_nearest_43 ⟨Nat.zero_le _, Nat.zero_le _⟩ (fun r_8 h_9 he H locs hP hD hS => ?_)
      refine lv_istore (lv' := [(5, .int r_8), (0, .ref (ad 0)), (1, .int y1), (2, .int y2), (3, .int y3), (4, .int y4)]) hx hb0 dX8_nearest_46 hl (by decide) rfl (fun ls hl => ?_)
      refine lv_aload_n hx hb0 dX8_nearest_48 rfl (lv_at hl 1 rfl) ?_
      refine lv_iload hx hb0 dX8_nearest_49 (lv_at hl 5 rfl) ?_
      refine lv_iconst (v := (5 : Int32)) hx hb0 dX8_nearest_51 (by decide) ?_
      refine gx_vi ⟨hx, hb0, hml, hown, hts⟩ (gKM_keep _) hk hK hP hD hS 0 [.int y4, .int (5 : Int32)] [] (c_X8_number l dC dI P ad y4 (5 : Int32) h_9 _ he) gm_X8_number im_yX8_number se_yX8_number ml_RX8_54 (by decide) (mE_0 _) rfl rfl rfl ⟨Nat.le_of_ble_eq_true rfl, Nat.le_of_ble_eq_true rfl⟩ rfl hl.1 rfl (Nat.le_of_ble_eq_true rfl) dX8_nearest_52 ⟨Nat.zero_le _, Nat.zero_le _⟩ (fun r_10 h_11 he H locs hP hD hS => ?_)
      refine lv_iconst (v := (1 : Int32)) hx hb0 dX8_nearest_55 (by decide) ?_
      refine lv_icmp_ne (tgt := 75) hx hb0 dX8_nearest_56 (by decide) (fun c_12 => ?_) (fun c_12 => ?_)
      · have he := he.2 c_12
        refine lv_iconst (v := (0 : Int32)) hx hb0 dX8_nearest_75 (by decide) ?_
        refine lv_istore (lv' := [(6, .int (0 : Int32)), (5, .int r_8), (0, .ref (ad 0)), (1, .int y1), (2, .int y2), (3, .int y3), (4, .int y4)]) hx hb0 dX8_nearest_76 hl (by decide) rfl (fun ls hl => ?_)
        refine lv_iload hx hb0 dX8_nearest_78 (lv_at hl 0 rfl) ?_
        refine lv_if_eq (tgt := 88) hx hb0 dX8_nearest_80 (by decide) (fun c_13 => ?_) (fun c_13 => ?_)
        · refine lv_iload_n hx hb0 dX8_nearest_88 rfl (lv_at hl 4 rfl) ?_
          refine lv_istore_n (lv' := [(2, .int y2), (6, .int (0 : Int32)), (5, .int r_8), (0, .ref (ad 0)), (1, .int y1), (3, .int y3), (4, .int y4)]) hx hb0 dX8_nearest_89 rfl hl (by decide) rfl (fun ls hl => ?_)
          refine lv_iload hx hb0 dX8_nearest_90 (lv_at hl 1 rfl) ?_
          refine lv_if_eq (tgt := 100) hx hb0 dX8_nearest_92 (by decide) (fun c_14 => ?_) (fun c_14 => ?_)
          · refine lv_iload_n hx hb0 dX8_nearest_100 rfl (lv_at hl 5 rfl) ?_
            refine lv_istore_n (lv' := [(3, .int y3), (2, .int y2), (6, .int (0 : Int32)), (5, .int r_8), (0, .ref (ad 0)), (1, .int y1), (4, .int y4)]) hx hb0 dX8_nearest_101 rfl hl (by decide) rfl (fun ls hl => ?_)
            obtain ⟨x_15, ex_15⟩ : ∃ y : Int32, y = y4 + 1 := ⟨_, rfl⟩
            have he := he x_15 ex_15
            refine lv_iinc (v := x_15) (lv' := [(4, .int x_15), (3, .int y3), (2, .int y2), (6, .int (0 : Int32)), (5, .int r_8), (0, .ref (ad 0)), (1, .int y1)]) hx hb0 dX8_nearest_102 hl (k := 6) rfl (by rw [ex_15]; rfl) (by decide) rfl (fun ls hl => ?_)
            refine lv_goto (tgt := 21) hx hb0 dX8_nearest_105 (by decide) ?_
            exact ih y1 y2 y3 x_15 h_11 he _ _ ls hP hD hS (lv_sub hl [5, 6, 2, 1, 0] rfl)
          · exact absurd c_14 (by decide)
        · exact absurd c_13 (by decide)
      · have he := he.1 c_12
        refine lv_iload_n hx hb0 dX8_nearest_59 rfl (lv_at hl 3 rfl) ?_
        refine lv_bipush (v := (-6 : Int32)) hx hb0 dX8_nearest_60 (by decide) ?_
        refine lv_icmp_eq (tgt := 71) hx hb0 dX8_nearest_62 (by decide) (fun c_16 => ?_) (fun c_16 => ?_)
        · have he := he.1 c_16
          refine lv_iconst (v := (1 : Int32)) hx hb0 dX8_nearest_71 (by decide) ?_
          refine lv_goto (tgt := 76) hx hb0 dX8_nearest_72 (by decide) ?_
          refine lv_istore (lv' := [(6, .int (1 : Int32)), (5, .int r_8), (0, .ref (ad 0)), (1, .int y1), (2, .int y2), (3, .int y3), (4, .int y4)]) hx hb0 dX8_nearest_76 hl (by decide) rfl (fun ls hl => ?_)
          refine lv_iload hx hb0 dX8_nearest_78 (lv_at hl 0 rfl) ?_
          refine lv_if_eq (tgt := 88) hx hb0 dX8_nearest_80 (by decide) (fun c_17 => ?_) (fun c_17 => ?_)
          · exact absurd c_17 (by decide)
          · refine lv_iload hx hb0 dX8_nearest_83 (lv_at hl 6 rfl) ?_
            refine lv_goto (tgt := 89) hx hb0 dX8_nearest_85 (by decide) ?_
            refine lv_istore_n (lv' := [(2, .int y4), (6, .int (1 : Int32)), (5, .int r_8), (0, .ref (ad 0)), (1, .int y1), (3, .int y3), (4, .int y4)]) hx hb0 dX8_nearest_89 rfl hl (by decide) rfl (fun ls hl => ?_)
            refine lv_iload hx hb0 dX8_nearest_90 (lv_at hl 1 rfl) ?_
            refine lv_if_eq (tgt := 100) hx hb0 dX8_nearest_92 (by decide) (fun c_18 => ?_) (fun c_18 => ?_)
            · exact absurd c_18 (by decide)
            · refine lv_iload hx hb0 dX8_nearest_95 (lv_at hl 2 rfl) ?_
              refine lv_goto (tgt := 101) hx hb0 dX8_nearest_97 (by decide) ?_
              refine lv_istore_n (lv' := [(3, .int r_8), (2, .int y4), (6, .int (1 : Int32)), (5, .int r_8), (0, .ref (ad 0)), (1, .int y1), (4, .int y4)]) hx hb0 dX8_nearest_101 rfl hl (by decide) rfl (fun ls hl => ?_)
              obtain ⟨x_19, ex_19⟩ : ∃ y : Int32, y = y4 + 1 := ⟨_, rfl⟩
              have he := he x_19 ex_19
              refine lv_iinc (v := x_19) (lv' := [(4, .int x_19), (3, .int r_8), (2, .int y4), (6, .int (1 : Int32)), (5, .int r_8), (0, .ref (ad 0)), (1, .int y1)]) hx hb0 dX8_nearest_102 hl (k := 6) rfl (by rw [ex_19]; rfl) (by decide) rfl (fun ls hl => ?_)
              refine lv_goto (tgt := 21) hx hb0 dX8_nearest_105 (by decide) ?_
              exact ih y1 y4 r_8 x_19 h_11 he _ _ ls hP hD hS (lv_sub hl [5, 6, 2, 1, 0] rfl)
        · have he := he.2 c_16
          refine lv_iload hx hb0 dX8_nearest_65 (lv_at hl 0 rfl) ?_
          refine lv_iload_n hx hb0 dX8_nearest_67 rfl (lv_at hl 4 rfl) ?_
          refine lv_icmp_ge (tgt := 75) hx hb0 dX8_nearest_68 (by decide) (fun c_20 => ?_) (fun c_20 => ?_)
          · have he := he.1 c_20
            refine lv_iconst (v := (0 : Int32)) hx hb0 dX8_nearest_75 (by decide) ?_
            refine lv_istore (lv' := [(6, .int (0 : Int32)), (5, .int r_8), (0, .ref (ad 0)), (1, .int y1), (2, .int y2), (3, .int y3), (4, .int y4)]) hx hb0 dX8_nearest_76 hl (by decide) rfl (fun ls hl => ?_)
            refine lv_iload hx hb0 dX8_nearest_78 (lv_at hl 0 rfl) ?_
            refine lv_if_eq (tgt := 88) hx hb0 dX8_nearest_80 (by decide) (fun c_21 => ?_) (fun c_21 => ?_)
            · refine lv_iload_n hx hb0 dX8_nearest_88 rfl (lv_at hl 4 rfl) ?_
              refine lv_istore_n (lv' := [(2, .int y2), (6, .int (0 : Int32)), (5, .int r_8), (0, .ref (ad 0)), (1, .int y1), (3, .int y3), (4, .int y4)]) hx hb0 dX8_nearest_89 rfl hl (by decide) rfl (fun ls hl => ?_)
              refine lv_iload hx hb0 dX8_nearest_90 (lv_at hl 1 rfl) ?_
              refine lv_if_eq (tgt := 100) hx hb0 dX8_nearest_92 (by decide) (fun c_22 => ?_) (fun c_22 => ?_)
              · refine lv_iload_n hx hb0 dX8_nearest_100 rfl (lv_at hl 5 rfl) ?_
                refine lv_istore_n (lv' := [(3, .int y3), (2, .int y2), (6, .int (0 : Int32)), (5, .int r_8), (0, .ref (ad 0)), (1, .int y1), (4, .int y4)]) hx hb0 dX8_nearest_101 rfl hl (by decide) rfl (fun ls hl => ?_)
                obtain ⟨x_23, ex_23⟩ : ∃ y : Int32, y = y4 + 1 := ⟨_, rfl⟩
                have he := he x_23 ex_23
                refine lv_iinc (v := x_23) (lv' := [(4, .int x_23), (3, .int y3), (2, .int y2), (6, .int (0 : Int32)), (5, .int r_8), (0, .ref (ad 0)), (1, .int y1)]) hx hb0 dX8_nearest_102 hl (k := 6) rfl (by rw [ex_23]; rfl) (by decide) rfl (fun ls hl => ?_)
                refine lv_goto (tgt := 21) hx hb0 dX8_nearest_105 (by decide) ?_
                exact ih y1 y2 y3 x_23 h_11 he _ _ ls hP hD hS (lv_sub hl [5, 6, 2, 1, 0] rfl)
              · exact absurd c_22 (by decide)
            · exact absurd c_21 (by decide)
          · have he := he.2 c_20
            refine lv_iconst (v := (1 : Int32)) hx hb0 dX8_nearest_71 (by decide) ?_
            refine lv_goto (tgt := 76) hx hb0 dX8_nearest_72 (by decide) ?_
            refine lv_istore (lv' := [(6, .int (1 : Int32)), (5, .int r_8), (0, .ref (ad 0)), (1, .int y1), (2, .int y2), (3, .int y3), (4, .int y4)]) hx hb0 dX8_nearest_76 hl (by decide) rfl (fun ls hl => ?_)
            refine lv_iload hx hb0 dX8_nearest_78 (lv_at hl 0 rfl) ?_
            refine lv_if_eq (tgt := 88) hx hb0 dX8_nearest_80 (by decide) (fun c_24 => ?_) (fun c_24 => ?_)
            · exact absurd c_24 (by decide)
            · refine lv_iload hx hb0 dX8_nearest_83 (lv_at hl 6 rfl) ?_
              refine lv_goto (tgt := 89) hx hb0 dX8_nearest_85 (by decide) ?_
              refine lv_istore_n (lv' := [(2, .int y4), (6, .int (1 : Int32)), (5, .int r_8), (0, .ref (ad 0)), (1, .int y1), (3, .int y3), (4, .int y4)]) hx hb0 dX8_nearest_89 rfl hl (by decide) rfl (fun ls hl => ?_)
              refine lv_iload hx hb0 dX8_nearest_90 (lv_at hl 1 rfl) ?_
              refine lv_if_eq (tgt := 100) hx hb0 dX8_nearest_92 (by decide) (fun c_25 => ?_) (fun c_25 => ?_)
              · exact absurd c_25 (by decide)
              · refine lv_iload hx hb0 dX8_nearest_95 (lv_at hl 2 rfl) ?_
                refine lv_goto (tgt := 101) hx hb0 dX8_nearest_97 (by decide) ?_
                refine lv_istore_n (lv' := [(3, .int r_8), (2, .int y4), (6, .int (1 : Int32)), (5, .int r_8), (0, .ref (ad 0)), (1, .int y1), (4, .int y4)]) hx hb0 dX8_nearest_101 rfl hl (by decide) rfl (fun ls hl => ?_)
                obtain ⟨x_26, ex_26⟩ : ∃ y : Int32, y = y4 + 1 := ⟨_, rfl⟩
                have he := he x_26 ex_26
                refine lv_iinc (v := x_26) (lv' := [(4, .int x_26), (3, .int r_8), (2, .int y4), (6, .int (1 : Int32)), (5, .int r_8), (0, .ref (ad 0)), (1, .int y1)]) hx hb0 dX8_nearest_102 hl (k := 6) rfl (by rw [ex_26]; rfl) (by decide) rfl (fun ls hl => ?_)
                refine lv_goto (tgt := 21) hx hb0 dX8_nearest_105 (by decide) ?_
                exact ih y1 y4 r_8 x_26 h_11 he _ _ ls hP hD hS (lv_sub hl [5, 6, 2, 1, 0] rfl)
set_option maxHeartbeats 4000000 in
set_option maxRecDepth 100000 in
theorem c_X8_nearest (l : Launch) (dC : Nat → ClassId) (dI : Nat → Nat → Nat) (P : gP) (ad : Nat → Nat) (x1 : Int32) (h0 : Hp) (Q : Int32 → Hp → Prop) (he : F_X8_nearest x1 h0 Q) : Met l yX8_nearest (Cond.code yX8_nearest cX8_nearest 7 (some .int) :: TB) rm_X8_nearest (gPc (dC, dI) vwCl (tyC P) 7 (mE P ad) ad gKM h0 [.ref (ad 0), .int x1]) (gQi (dC, dI) vwCl (tyC P) 7 (mE P ad) ad Q) 0 0 (gA 7 ad) := by
  refine gx_start (by decide) (Nat.le_of_ble_eq_true rfl) (fun p e s m below meth c ls hx hb0 hr hlocks hml hown hts hK hk hP hD hS hl => ?_)
  have hl : lv_has ls 7 [(0, .ref (ad 0)), (1, .int x1)] := hl
  have hown : s.vm.findClass RX8 = some m.cls := hown
  unfold F_X8_nearest at he
  refine lv_iload_n hx hb0 dX8_nearest_0 rfl (lv_at hl 1 rfl) ?_
  refine lv_iconst (v := (0 : Int32)) hx hb0 dX8_nearest_1 (by decide) ?_
  refine lv_iconst (v := (1 : Int32)) hx hb0 dX8_nearest_2 (by decide) ?_
  refine gx_si ⟨hx, hb0, hml, hown, hts⟩ (gKM_keep _) hk hK hP hD hS [.int x1, .int (0 : Int32), .int (1 : Int32)] [] (c_X8_within l dC dI P ad x1 (0 : Int32) (1 : Int32) h0 _ he) gm_X8_within st_yX8_within ml_RX8_32 rfl rfl ⟨Nat.le_of_ble_eq_true rfl, Nat.le_of_ble_eq_true rfl⟩ rfl hl.1 rfl (Nat.le_of_ble_eq_true rfl) dX8_nearest_3 ⟨Nat.zero_le _, Nat.zero_le _⟩ (fun r_1 h_2 he H locs hP hD hS => ?_)
  refine lv_if_ne (tgt := 12) hx hb0 dX8_nearest_6 (by decide) (fun c_3 => ?_) (fun c_3 => ?_)
  · have he := he.2 c_3
    refine lv_bipush (v := (-6 : Int32)) hx hb0 dX8_nearest_12 (by decide) ?_
    refine lv_istore_n (lv' := [(2, .int (-6 : Int32)), (0, .ref (ad 0)), (1, .int x1)]) hx hb0 dX8_nearest_14 rfl hl (by decide) rfl (fun ls hl => ?_)
    refine lv_bipush (v := (-6 : Int32)) hx hb0 dX8_nearest_15 (by decide) ?_
    refine lv_istore_n (lv' := [(3, .int (-6 : Int32)), (2, .int (-6 : Int32)), (0, .ref (ad 0)), (1, .int x1)]) hx hb0 dX8_nearest_17 rfl hl (by decide) rfl (fun ls hl => ?_)
    refine lv_iconst (v := (0 : Int32)) hx hb0 dX8_nearest_18 (by decide) ?_
    refine lv_istore (lv' := [(4, .int (0 : Int32)), (3, .int (-6 : Int32)), (2, .int (-6 : Int32)), (0, .ref (ad 0)), (1, .int x1)]) hx hb0 dX8_nearest_19 hl (by decide) rfl (fun ls hl => ?_)
    obtain ⟨n_27, he⟩ := he
    exact l_X8_nearest_21 l dC dI P ad  hx hb0 hr hlocks hml hown hts hK hk Q n_27 x1 (-6 : Int32) (-6 : Int32) (0 : Int32) h_2 he _ _ ls hP hD hS (lv_sub hl [3, 4, 2, 1, 0] rfl)
  · have he := he.1 c_3
    refine lv_bipush (v := (-2 : Int32)) hx hb0 dX8_nearest_9 (by decide) ?_
    exact gx_iret hx hb0 hr hlocks hK hP hD hS he dX8_nearest_11
theorem gm_X8_nearest : gMeth yX8_nearest cX8_nearest 7 (some .int) 1 := ⟨⟨by decide, by decide, by decide +kernel⟩, ini_RX8, co_yX8_nearest⟩
abbrev rm_X8_arrivesIn : Room := { frames := 2, cells := 0, slots := 0, locals := 42 }
set_option maxHeartbeats 4000000 in
set_option maxRecDepth 100000 in
theorem l_X8_arrivesIn_20 (l : Launch) (dC : Nat → ClassId) (dI : Nat → Nat → Nat) (P : gP) (ad : Nat → Nat) {p : Program} {e : Env} {s : State} {m : MethodId} {args : Array Value} {below : List Frame} {meth : Method} {c : Code} (hx : p.tables.exec = Jvm.exec) (hb0 : c.code = cX8_arrivesIn) (hr : meth.sig.returnType = (some .int)) (hlocks : meth.locks = false) (hml : c.maxLocals = 3) (hown : s.vm.findClass RX8 = some m.cls) (hts : ∀ w ∈ TB, w.before args s = true) (hK : va_K (dC, dI) vwCl (tyC P) s) (hk : gKM s) (Q : Int32 → Hp → Prop) : ∀ (n : Nat) (y1 : Int32) (y2 : Int32) (h0 : Hp), F_X8_arrivesIn_L20  n y1 y2 h0 Q → ∀ (H : Heap) (locs : List Loc) (ls : Array Slot), va_P (dC, dI) vwCl (gW 7 (mE P ad) ad h0) H → va_D (gA 7 ad) (gW 7 (mE P ad) ad h0) → va_S (gA 7 ad) s.heap H locs → lv_has ls 3 [(0, .ref (ad 0)), (1, .int y1), (2, .int y2)] → W p l e rm_X8_arrivesIn s m args below meth c H locs 0 0 (MQ below (gQi (dC, dI) vwCl (tyC P) 7 (mE P ad) ad Q) args s 0 0 (gA 7 ad)) (F0 m 20 ls []) := by
  intro n
  induction n with
  | zero =>
    intro y1 y2 h0 he
    exact he.elim
  | succ n ih =>
    intro y1 y2 h0 he H locs ls hP hD hS hl
    rw [F_X8_arrivesIn_L20] at he
    refine lv_iload_n hx hb0 dX8_arrivesIn_20 rfl (lv_at hl 2 rfl) ?_
    refine lv_sipush (v := (500 : Int32)) hx hb0 dX8_arrivesIn_21 (by decide) ?_
    refine lv_icmp_gt (tgt := 58) hx hb0 dX8_arrivesIn_24 (by decide) (fun c_6 => ?_) (fun c_6 => ?_)
    · have he := he.1 c_6
      refine lv_aload_n hx hb0 dX8_arrivesIn_58 rfl (lv_at hl 0 rfl) ?_
      refine gx_vv ⟨hx, hb0, hml, hown, hts⟩ (gKM_keep _) hk hK hP hD hS 0 [] [] (c_X8_takeBack l dC dI P ad  h0 _ he) gm_X8_takeBack im_yX8_takeBack se_yX8_takeBack ml_RX8_161 (by decide) (mE_0 _) rfl rfl rfl ⟨Nat.le_of_ble_eq_true rfl, Nat.le_of_ble_eq_true rfl⟩ rfl hl.1 rfl (Nat.le_of_ble_eq_true rfl) dX8_arrivesIn_59 ⟨Nat.zero_le _, Nat.zero_le _⟩ (fun h_8 he H locs hP hD hS => ?_)
      refine lv_iload_n hx hb0 dX8_arrivesIn_62 rfl (lv_at hl 2 rfl) ?_
      refine lv_sipush (v := (500 : Int32)) hx hb0 dX8_arrivesIn_63 (by decide) ?_
      refine lv_icmp_le (tgt := 74) hx hb0 dX8_arrivesIn_66 (by decide) (fun c_9 => ?_) (fun c_9 => ?_)
      · have he := he.1 c_9
        refine lv_iload_n hx hb0 dX8_arrivesIn_74 rfl (lv_at hl 2 rfl) ?_
        exact gx_iret hx hb0 hr hlocks hK hP hD hS he dX8_arrivesIn_75
      · have he := he.2 c_9
        refine lv_bipush (v := (-6 : Int32)) hx hb0 dX8_arrivesIn_69 (by decide) ?_
        refine lv_goto (tgt := 75) hx hb0 dX8_arrivesIn_71 (by decide) ?_
        exact gx_iret hx hb0 hr hlocks hK hP hD hS he dX8_arrivesIn_75
    · have he := he.2 c_6
      refine lv_aload_n hx hb0 dX8_arrivesIn_27 rfl (lv_at hl 0 rfl) ?_
      refine gx_get hx hb0 hts in_RX8 hown hK hP 0 (by decide) (mE_0 _) rfl 0 (by decide) fl_RX8_7 rfl dX8_arrivesIn_28 ?_
      refine lv_iconst (v := (4 : Int32)) hx hb0 dX8_arrivesIn_31 (by decide) ?_
      refine gx_ialdK hx hb0 hK hP 1 0 (by decide) mE_1 rfl (vp_lit (4 : Int32) (by decide) (by decide)) 4 rfl dX8_arrivesIn_32 ?_
      refine lv_aload_n hx hb0 dX8_arrivesIn_33 rfl (lv_at hl 0 rfl) ?_
      refine gx_get hx hb0 hts in_RX8 hown hK hP 0 (by decide) (mE_0 _) rfl 0 (by decide) fl_RX8_7 rfl dX8_arrivesIn_34 ?_
      refine lv_bipush (v := (7 : Int32)) hx hb0 dX8_arrivesIn_37 (by decide) ?_
      refine gx_ialdK hx hb0 hK hP 1 0 (by decide) mE_1 rfl (vp_lit (7 : Int32) (by decide) (by decide)) 7 rfl dX8_arrivesIn_39 ?_
      refine lv_isub hx hb0 dX8_arrivesIn_40 ?_
      refine gx_si ⟨hx, hb0, hml, hown, hts⟩ (gKM_keep _) hk hK hP hD hS [.int ((h0 1 4) - (h0 1 7))] [] (c_X8_sizeOf l dC dI P ad ((h0 1 4) - (h0 1 7)) h0 _ he) gm_X8_sizeOf st_yX8_sizeOf ml_RX8_50 rfl rfl ⟨Nat.le_of_ble_eq_true rfl, Nat.le_of_ble_eq_true rfl⟩ rfl hl.1 rfl (Nat.le_of_ble_eq_true rfl) dX8_arrivesIn_41 ⟨Nat.zero_le _, Nat.zero_le _⟩ (fun r_10 h_11 he H locs hP hD hS => ?_)
      refine lv_iload_n hx hb0 dX8_arrivesIn_44 rfl (lv_at hl 1 rfl) ?_
      refine lv_icmp_le (tgt := 58) hx hb0 dX8_arrivesIn_45 (by decide) (fun c_12 => ?_) (fun c_12 => ?_)
      · have he := he.1 c_12
        refine lv_aload_n hx hb0 dX8_arrivesIn_58 rfl (lv_at hl 0 rfl) ?_
        refine gx_vv ⟨hx, hb0, hml, hown, hts⟩ (gKM_keep _) hk hK hP hD hS 0 [] [] (c_X8_takeBack l dC dI P ad  h_11 _ he) gm_X8_takeBack im_yX8_takeBack se_yX8_takeBack ml_RX8_161 (by decide) (mE_0 _) rfl rfl rfl ⟨Nat.le_of_ble_eq_true rfl, Nat.le_of_ble_eq_true rfl⟩ rfl hl.1 rfl (Nat.le_of_ble_eq_true rfl) dX8_arrivesIn_59 ⟨Nat.zero_le _, Nat.zero_le _⟩ (fun h_14 he H locs hP hD hS => ?_)
        refine lv_iload_n hx hb0 dX8_arrivesIn_62 rfl (lv_at hl 2 rfl) ?_
        refine lv_sipush (v := (500 : Int32)) hx hb0 dX8_arrivesIn_63 (by decide) ?_
        refine lv_icmp_le (tgt := 74) hx hb0 dX8_arrivesIn_66 (by decide) (fun c_15 => ?_) (fun c_15 => ?_)
        · have he := he.1 c_15
          refine lv_iload_n hx hb0 dX8_arrivesIn_74 rfl (lv_at hl 2 rfl) ?_
          exact gx_iret hx hb0 hr hlocks hK hP hD hS he dX8_arrivesIn_75
        · have he := he.2 c_15
          refine lv_bipush (v := (-6 : Int32)) hx hb0 dX8_arrivesIn_69 (by decide) ?_
          refine lv_goto (tgt := 75) hx hb0 dX8_arrivesIn_71 (by decide) ?_
          exact gx_iret hx hb0 hr hlocks hK hP hD hS he dX8_arrivesIn_75
      · have he := he.2 c_12
        refine lv_aload_n hx hb0 dX8_arrivesIn_48 rfl (lv_at hl 0 rfl) ?_
        refine gx_vv ⟨hx, hb0, hml, hown, hts⟩ (gKM_keep _) hk hK hP hD hS 0 [] [] (c_X8_passHour l dC dI P ad  h_11 _ he) gm_X8_passHour im_yX8_passHour se_yX8_passHour ml_RX8_99 (by decide) (mE_0 _) rfl rfl rfl ⟨Nat.le_of_ble_eq_true rfl, Nat.le_of_ble_eq_true rfl⟩ rfl hl.1 rfl (Nat.le_of_ble_eq_true rfl) dX8_arrivesIn_49 ⟨Nat.zero_le _, Nat.zero_le _⟩ (fun h_17 he H locs hP hD hS => ?_)
        obtain ⟨x_18, ex_18⟩ : ∃ y : Int32, y = y2 + 1 := ⟨_, rfl⟩
        have he := he x_18 ex_18
        refine lv_iinc (v := x_18) (lv' := [(2, .int x_18), (0, .ref (ad 0)), (1, .int y1)]) hx hb0 dX8_arrivesIn_52 hl (k := 2) rfl (by rw [ex_18]; rfl) (by decide) rfl (fun ls hl => ?_)
        refine lv_goto (tgt := 20) hx hb0 dX8_arrivesIn_55 (by decide) ?_
        exact ih y1 x_18 h_17 he _ _ ls hP hD hS (lv_sub hl [1, 2, 0] rfl)
set_option maxHeartbeats 4000000 in
set_option maxRecDepth 100000 in
theorem c_X8_arrivesIn (l : Launch) (dC : Nat → ClassId) (dI : Nat → Nat → Nat) (P : gP) (ad : Nat → Nat) (x1 : Int32) (h0 : Hp) (Q : Int32 → Hp → Prop) (he : F_X8_arrivesIn x1 h0 Q) : Met l yX8_arrivesIn (Cond.code yX8_arrivesIn cX8_arrivesIn 3 (some .int) :: TB) rm_X8_arrivesIn (gPc (dC, dI) vwCl (tyC P) 7 (mE P ad) ad gKM h0 [.ref (ad 0), .int x1]) (gQi (dC, dI) vwCl (tyC P) 7 (mE P ad) ad Q) 0 0 (gA 7 ad) := by
  refine gx_start (by decide) (Nat.le_of_ble_eq_true rfl) (fun p e s m below meth c ls hx hb0 hr hlocks hml hown hts hK hk hP hD hS hl => ?_)
  have hl : lv_has ls 3 [(0, .ref (ad 0)), (1, .int x1)] := hl
  have hown : s.vm.findClass RX8 = some m.cls := hown
  unfold F_X8_arrivesIn at he
  refine lv_iload_n hx hb0 dX8_arrivesIn_0 rfl (lv_at hl 1 rfl) ?_
  refine lv_iconst (v := (0 : Int32)) hx hb0 dX8_arrivesIn_1 (by decide) ?_
  refine lv_sipush (v := (999 : Int32)) hx hb0 dX8_arrivesIn_2 (by decide) ?_
  refine gx_si ⟨hx, hb0, hml, hown, hts⟩ (gKM_keep _) hk hK hP hD hS [.int x1, .int (0 : Int32), .int (999 : Int32)] [] (c_X8_within l dC dI P ad x1 (0 : Int32) (999 : Int32) h0 _ he) gm_X8_within st_yX8_within ml_RX8_32 rfl rfl ⟨Nat.le_of_ble_eq_true rfl, Nat.le_of_ble_eq_true rfl⟩ rfl hl.1 rfl (Nat.le_of_ble_eq_true rfl) dX8_arrivesIn_5 ⟨Nat.zero_le _, Nat.zero_le _⟩ (fun r_1 h_2 he H locs hP hD hS => ?_)
  refine lv_if_ne (tgt := 14) hx hb0 dX8_arrivesIn_8 (by decide) (fun c_3 => ?_) (fun c_3 => ?_)
  · have he := he.2 c_3
    refine lv_aload_n hx hb0 dX8_arrivesIn_14 rfl (lv_at hl 0 rfl) ?_
    refine gx_vv ⟨hx, hb0, hml, hown, hts⟩ (gKM_keep _) hk hK hP hD hS 0 [] [] (c_X8_putAside l dC dI P ad  h_2 _ he) gm_X8_putAside im_yX8_putAside se_yX8_putAside ml_RX8_47 (by decide) (mE_0 _) rfl rfl rfl ⟨Nat.le_of_ble_eq_true rfl, Nat.le_of_ble_eq_true rfl⟩ rfl hl.1 rfl (Nat.le_of_ble_eq_true rfl) dX8_arrivesIn_15 ⟨Nat.zero_le _, Nat.zero_le _⟩ (fun h_5 he H locs hP hD hS => ?_)
    refine lv_iconst (v := (0 : Int32)) hx hb0 dX8_arrivesIn_18 (by decide) ?_
    refine lv_istore_n (lv' := [(2, .int (0 : Int32)), (0, .ref (ad 0)), (1, .int x1)]) hx hb0 dX8_arrivesIn_19 rfl hl (by decide) rfl (fun ls hl => ?_)
    obtain ⟨n_19, he⟩ := he
    exact l_X8_arrivesIn_20 l dC dI P ad  hx hb0 hr hlocks hml hown hts hK hk Q n_19 x1 (0 : Int32) h_5 he _ _ ls hP hD hS (lv_sub hl [1, 2, 0] rfl)
  · have he := he.1 c_3
    refine lv_bipush (v := (-2 : Int32)) hx hb0 dX8_arrivesIn_11 (by decide) ?_
    exact gx_iret hx hb0 hr hlocks hK hP hD hS he dX8_arrivesIn_13
theorem gm_X8_arrivesIn : gMeth yX8_arrivesIn cX8_arrivesIn 3 (some .int) 1 := ⟨⟨by decide, by decide, by decide +kernel⟩, ini_RX8, co_yX8_arrivesIn⟩
abbrev rm_X8_isCharacter : Room := { frames := 1, cells := 0, slots := 0, locals := 22 }
set_option maxHeartbeats 4000000 in
set_option maxRecDepth 100000 in
theorem c_X8_isCharacter (l : Launch) (dC : Nat → ClassId) (dI : Nat → Nat → Nat) (P : gP) (ad : Nat → Nat) (x0 : Int32) (h0 : Hp) (Q : Int32 → Hp → Prop) (he : F_X8_isCharacter x0 h0 Q) : Met l yX8_isCharacter (Cond.code yX8_isCharacter cX8_isCharacter 1 (some .boolean) :: TB) rm_X8_isCharacter (gPc (dC, dI) vwCl (tyC P) 7 (mE P ad) ad gKM h0 [.int x0]) (gQi (dC, dI) vwCl (tyC P) 7 (mE P ad) ad Q) 0 0 (gA 7 ad) := by
  refine gx_start (by decide) (Nat.le_of_ble_eq_true rfl) (fun p e s m below meth c ls hx hb0 hr hlocks hml hown hts hK hk hP hD hS hl => ?_)
  have hl : lv_has ls 1 [(0, .int x0)] := hl
  have hown : s.vm.findClass RX8 = some m.cls := hown
  unfold F_X8_isCharacter at he
  refine lv_iload_n hx hb0 dX8_isCharacter_0 rfl (lv_at hl 0 rfl) ?_
  refine lv_bipush (v := (33 : Int32)) hx hb0 dX8_isCharacter_1 (by decide) ?_
  refine lv_bipush (v := (126 : Int32)) hx hb0 dX8_isCharacter_3 (by decide) ?_
  refine gx_si ⟨hx, hb0, hml, hown, hts⟩ (gKM_keep _) hk hK hP hD hS [.int x0, .int (33 : Int32), .int (126 : Int32)] [] (c_X8_within l dC dI P ad x0 (33 : Int32) (126 : Int32) h0 _ he) gm_X8_within st_yX8_within ml_RX8_32 rfl rfl ⟨Nat.le_of_ble_eq_true rfl, Nat.le_of_ble_eq_true rfl⟩ rfl hl.1 rfl (Nat.le_of_ble_eq_true rfl) dX8_isCharacter_5 ⟨Nat.zero_le _, Nat.zero_le _⟩ (fun r_1 h_2 he H locs hP hD hS => ?_)
  obtain ⟨z_3, he⟩ := he
  exact gx_zret hx hb0 hr z_3 hlocks hK hP hD hS he dX8_isCharacter_8
theorem gm_X8_isCharacter : gMeth yX8_isCharacter cX8_isCharacter 1 (some .boolean) 1 := ⟨⟨by decide, by decide, by decide +kernel⟩, ini_RX8, co_yX8_isCharacter⟩
abbrev rm_X8_charactersIn : Room := { frames := 2, cells := 0, slots := 0, locals := 42 }
set_option maxHeartbeats 4000000 in
set_option maxRecDepth 100000 in
theorem l_X8_charactersIn_4 (l : Launch) (dC : Nat → ClassId) (dI : Nat → Nat → Nat) (P : gP) (ad : Nat → Nat) {p : Program} {e : Env} {s : State} {m : MethodId} {args : Array Value} {below : List Frame} {meth : Method} {c : Code} (hx : p.tables.exec = Jvm.exec) (hb0 : c.code = cX8_charactersIn) (hr : meth.sig.returnType = (some .int)) (hlocks : meth.locks = false) (hml : c.maxLocals = 5) (hown : s.vm.findClass RX8 = some m.cls) (hts : ∀ w ∈ TB, w.before args s = true) (hK : va_K (dC, dI) vwCl (tyC P) s) (hk : gKM s) (Q : Int32 → Hp → Prop) : ∀ (n : Nat) (y0 : Int64) (y2 : Int32) (y3 : Int64) (h0 : Hp), F_X8_charactersIn_L4  n y0 y2 y3 h0 Q → ∀ (H : Heap) (locs : List Loc) (ls : Array Slot), va_P (dC, dI) vwCl (gW 7 (mE P ad) ad h0) H → va_D (gA 7 ad) (gW 7 (mE P ad) ad h0) → va_S (gA 7 ad) s.heap H locs → lv_has ls 5 [(0, .long y0), (2, .int y2), (3, .long y3)] → W p l e rm_X8_charactersIn s m args below meth c H locs 0 0 (MQ below (gQi (dC, dI) vwCl (tyC P) 7 (mE P ad) ad Q) args s 0 0 (gA 7 ad)) (F0 m 4 ls []) := by
  intro n
  induction n with
  | zero =>
    intro y0 y2 y3 h0 he
    exact he.elim
  | succ n ih =>
    intro y0 y2 y3 h0 he H locs ls hP hD hS hl
    rw [F_X8_charactersIn_L4] at he
    refine lv_iload_n hx hb0 dX8_charactersIn_4 rfl (lv_at hl 1 rfl) ?_
    refine lv_bipush (v := (8 : Int32)) hx hb0 dX8_charactersIn_5 (by decide) ?_
    refine lv_icmp_ge (tgt := 45) hx hb0 dX8_charactersIn_7 (by decide) (fun c_1 => ?_) (fun c_1 => ?_)
    · have he := he.1 c_1
      refine lv_lload_n hx hb0 dX8_charactersIn_45 rfl (lv_at hl 2 rfl) ?_
      refine lv_lconst (v := 0) hx hb0 dX8_charactersIn_46 (by decide) ?_
      refine W.lcmp hx hb0 dX8_charactersIn_47 ?_
      refine lv_if_ne (tgt := 55) hx hb0 dX8_charactersIn_48 (by decide) (fun c_2 => ?_) (fun c_2 => ?_)
      · have he := he.2 c_2
        refine lv_iconst (v := (0 : Int32)) hx hb0 dX8_charactersIn_55 (by decide) ?_
        exact gx_iret hx hb0 hr hlocks hK hP hD hS he dX8_charactersIn_56
      · have he := he.1 c_2
        refine lv_iload_n hx hb0 dX8_charactersIn_51 rfl (lv_at hl 1 rfl) ?_
        refine lv_goto (tgt := 56) hx hb0 dX8_charactersIn_52 (by decide) ?_
        exact gx_iret hx hb0 hr hlocks hK hP hD hS he dX8_charactersIn_56
    · have he := he.2 c_1
      refine lv_lload_n hx hb0 dX8_charactersIn_10 rfl (lv_at hl 2 rfl) ?_
      refine lv_ldc2 (v := (255 : Int64)) hx hb0 hown (hts _ kl_RX8_164) dX8_charactersIn_11 ?_
      refine lv_land hx hb0 dX8_charactersIn_14 ?_
      refine lv_lconst (v := 0) hx hb0 dX8_charactersIn_15 (by decide) ?_
      refine W.lcmp hx hb0 dX8_charactersIn_16 ?_
      refine lv_if_eq (tgt := 45) hx hb0 dX8_charactersIn_17 (by decide) (fun c_3 => ?_) (fun c_3 => ?_)
      · have he := he.1 c_3
        refine lv_lload_n hx hb0 dX8_charactersIn_45 rfl (lv_at hl 2 rfl) ?_
        refine lv_lconst (v := 0) hx hb0 dX8_charactersIn_46 (by decide) ?_
        refine W.lcmp hx hb0 dX8_charactersIn_47 ?_
        refine lv_if_ne (tgt := 55) hx hb0 dX8_charactersIn_48 (by decide) (fun c_4 => ?_) (fun c_4 => ?_)
        · have he := he.2 c_4
          refine lv_iconst (v := (0 : Int32)) hx hb0 dX8_charactersIn_55 (by decide) ?_
          exact gx_iret hx hb0 hr hlocks hK hP hD hS he dX8_charactersIn_56
        · have he := he.1 c_4
          refine lv_iload_n hx hb0 dX8_charactersIn_51 rfl (lv_at hl 1 rfl) ?_
          refine lv_goto (tgt := 56) hx hb0 dX8_charactersIn_52 (by decide) ?_
          exact gx_iret hx hb0 hr hlocks hK hP hD hS he dX8_charactersIn_56
      · have he := he.2 c_3
        refine lv_lload_n hx hb0 dX8_charactersIn_20 rfl (lv_at hl 2 rfl) ?_
        refine lv_ldc2 (v := (255 : Int64)) hx hb0 hown (hts _ kl_RX8_164) dX8_charactersIn_21 ?_
        refine lv_land hx hb0 dX8_charactersIn_24 ?_
        refine lv_l2i (v := (y3 &&& (255 : Int64)).toInt32) hx hb0 dX8_charactersIn_25 rfl ?_
        refine gx_si ⟨hx, hb0, hml, hown, hts⟩ (gKM_keep _) hk hK hP hD hS [.int (y3 &&& (255 : Int64)).toInt32] [] (c_X8_isCharacter l dC dI P ad (y3 &&& (255 : Int64)).toInt32 h0 _ he) gm_X8_isCharacter st_yX8_isCharacter ml_RX8_166 rfl rfl ⟨Nat.le_of_ble_eq_true rfl, Nat.le_of_ble_eq_true rfl⟩ rfl hl.1 rfl (Nat.le_of_ble_eq_true rfl) dX8_charactersIn_26 ⟨Nat.zero_le _, Nat.zero_le _⟩ (fun r_5 h_6 he H locs hP hD hS => ?_)
        refine lv_if_ne (tgt := 34) hx hb0 dX8_charactersIn_29 (by decide) (fun c_7 => ?_) (fun c_7 => ?_)
        · have he := he.2 c_7
          refine lv_lload_n hx hb0 dX8_charactersIn_34 rfl (lv_at hl 2 rfl) ?_
          refine lv_bipush (v := (8 : Int32)) hx hb0 dX8_charactersIn_35 (by decide) ?_
          refine lv_lushr (v := (y3.toUInt64 >>> ((8 : Int32).toInt64.toUInt64 &&& Int64.toUInt64 63)).toInt64) hx hb0 dX8_charactersIn_37 rfl ?_
          refine lv_topl (fun x_8 ex_8 => ?_)
          have he := he x_8 ex_8
          refine lv_lstore_n (lv' := [(3, .long x_8), (0, .long y0), (2, .int y2)]) hx hb0 dX8_charactersIn_38 rfl hl (by decide) rfl (fun ls hl => ?_)
          obtain ⟨x_9, ex_9⟩ : ∃ y : Int32, y = y2 + 1 := ⟨_, rfl⟩
          have he := he x_9 ex_9
          refine lv_iinc (v := x_9) (lv' := [(2, .int x_9), (3, .long x_8), (0, .long y0)]) hx hb0 dX8_charactersIn_39 hl (k := 2) rfl (by rw [ex_9]; rfl) (by decide) rfl (fun ls hl => ?_)
          refine lv_goto (tgt := 4) hx hb0 dX8_charactersIn_42 (by decide) ?_
          exact ih y0 x_9 x_8 h_6 he _ _ ls hP hD hS (lv_sub hl [2, 0, 1] rfl)
        · have he := he.1 c_7
          refine lv_iconst (v := (0 : Int32)) hx hb0 dX8_charactersIn_32 (by decide) ?_
          exact gx_iret hx hb0 hr hlocks hK hP hD hS he dX8_charactersIn_33
set_option maxHeartbeats 4000000 in
set_option maxRecDepth 100000 in
theorem c_X8_charactersIn (l : Launch) (dC : Nat → ClassId) (dI : Nat → Nat → Nat) (P : gP) (ad : Nat → Nat) (x0 : Int64) (h0 : Hp) (Q : Int32 → Hp → Prop) (he : F_X8_charactersIn x0 h0 Q) : Met l yX8_charactersIn (Cond.code yX8_charactersIn cX8_charactersIn 5 (some .int) :: TB) rm_X8_charactersIn (gPc (dC, dI) vwCl (tyC P) 7 (mE P ad) ad gKM h0 [.long x0]) (gQi (dC, dI) vwCl (tyC P) 7 (mE P ad) ad Q) 0 0 (gA 7 ad) := by
  refine gx_start (by decide) (Nat.le_of_ble_eq_true rfl) (fun p e s m below meth c ls hx hb0 hr hlocks hml hown hts hK hk hP hD hS hl => ?_)
  have hl : lv_has ls 5 [(0, .long x0)] := hl
  have hown : s.vm.findClass RX8 = some m.cls := hown
  unfold F_X8_charactersIn at he
  refine lv_iconst (v := (0 : Int32)) hx hb0 dX8_charactersIn_0 (by decide) ?_
  refine lv_istore_n (lv' := [(2, .int (0 : Int32)), (0, .long x0)]) hx hb0 dX8_charactersIn_1 rfl hl (by decide) rfl (fun ls hl => ?_)
  refine lv_lload_n hx hb0 dX8_charactersIn_2 rfl (lv_at hl 1 rfl) ?_
  refine lv_lstore_n (lv' := [(3, .long x0), (2, .int (0 : Int32)), (0, .long x0)]) hx hb0 dX8_charactersIn_3 rfl hl (by decide) rfl (fun ls hl => ?_)
  obtain ⟨n_10, he⟩ := he
  exact l_X8_charactersIn_4 l dC dI P ad  hx hb0 hr hlocks hml hown hts hK hk Q n_10 x0 (0 : Int32) x0 h0 he _ _ ls hP hD hS (lv_sub hl [2, 1, 0] rfl)
theorem gm_X8_charactersIn : gMeth yX8_charactersIn cX8_charactersIn 5 (some .int) 1 := ⟨⟨by decide, by decide, by decide +kernel⟩, ini_RX8, co_yX8_charactersIn⟩
abbrev rm_X8_put : Room := { frames := 3, cells := 0, slots := 0, locals := 66 }
set_option maxHeartbeats 4000000 in
set_option maxRecDepth 100000 in
theorem l_X8_put_31 (l : Launch) (dC : Nat → ClassId) (dI : Nat → Nat → Nat) (P : gP) (ad : Nat → Nat) {p : Program} {e : Env} {s : State} {m : MethodId} {args : Array Value} {below : List Frame} {meth : Method} {c : Code} (hx : p.tables.exec = Jvm.exec) (hb0 : c.code = cX8_put) (hr : meth.sig.returnType = (some .int)) (hlocks : meth.locks = false) (hml : c.maxLocals = 5) (hown : s.vm.findClass RX8 = some m.cls) (hts : ∀ w ∈ TB, w.before args s = true) (hK : va_K (dC, dI) vwCl (tyC P) s) (hk : gKM s) (Q : Int32 → Hp → Prop) : ∀ (n : Nat) (y1 : Int64) (y3 : Int32) (y4 : Int32) (h0 : Hp), F_X8_put_L31  n y1 y3 y4 h0 Q → ∀ (H : Heap) (locs : List Loc) (ls : Array Slot), va_P (dC, dI) vwCl (gW 7 (mE P ad) ad h0) H → va_D (gA 7 ad) (gW 7 (mE P ad) ad h0) → va_S (gA 7 ad) s.heap H locs → lv_has ls 5 [(0, .ref (ad 0)), (1, .long y1), (3, .int y3), (4, .int y4)] → W p l e rm_X8_put s m args below meth c H locs 0 0 (MQ below (gQi (dC, dI) vwCl (tyC P) 7 (mE P ad) ad Q) args s 0 0 (gA 7 ad)) (F0 m 31 ls []) := by
  intro n
  induction n with
  | zero =>
    intro y1 y3 y4 h0 he
    exact he.elim
  | succ n ih =>
    intro y1 y3 y4 h0 he H locs ls hP hD hS hl
    rw [F_X8_put_L31] at he
    refine lv_iload hx hb0 dX8_put_31 (lv_at hl 3 rfl) ?_
    refine lv_if_lt (tgt := 73) hx hb0 dX8_put_33 (by decide) (fun c_6 => ?_) (fun c_6 => ?_)
    · have he := he.1 c_6
      refine lv_aload_n hx hb0 dX8_put_73 rfl (lv_at hl 0 rfl) ?_
      refine gx_get hx hb0 hts in_RX8 hown hK hP 0 (by decide) (mE_0 _) rfl 7 (by decide) fl_RX8_158 rfl dX8_put_74 ?_
      exact gx_iret hx hb0 hr hlocks hK hP hD hS he dX8_put_77
    · have he := he.2 c_6
      refine lv_aload_n hx hb0 dX8_put_36 rfl (lv_at hl 0 rfl) ?_
      refine gx_get hx hb0 hts in_RX8 hown hK hP 0 (by decide) (mE_0 _) rfl 6 (by decide) fl_RX8_25 rfl dX8_put_37 ?_
      refine lv_aload_n hx hb0 dX8_put_40 rfl (lv_at hl 0 rfl) ?_
      refine gx_get hx hb0 hts in_RX8 hown hK hP 0 (by decide) (mE_0 _) rfl 7 (by decide) fl_RX8_158 rfl dX8_put_41 ?_
      refine lv_lload_n hx hb0 dX8_put_44 rfl (lv_at hl 1 rfl) ?_
      refine lv_bipush (v := (8 : Int32)) hx hb0 dX8_put_45 (by decide) ?_
      refine lv_iload hx hb0 dX8_put_47 (lv_at hl 3 rfl) ?_
      refine lv_imul hx hb0 dX8_put_49 ?_
      refine lv_lshr (v := (y1 >>> (((8 : Int32) * y4).toInt64 &&& 63))) hx hb0 dX8_put_50 rfl ?_
      refine lv_ldc2 (v := (255 : Int64)) hx hb0 hown (hts _ kl_RX8_164) dX8_put_51 ?_
      refine lv_land hx hb0 dX8_put_54 ?_
      refine lv_l2i (v := ((y1 >>> (((8 : Int32) * y4).toInt64 &&& 63)) &&& (255 : Int64)).toInt32) hx hb0 dX8_put_55 rfl ?_
      obtain ⟨v_8, he⟩ := he
      refine gx_iast hx hb0 hK hP hD hS 6 0 (by decide) mE_6 rfl v_8 dX8_put_56 (fun h_7 eh_7 H locs hP hD hS => ?_)
      have he := he h_7 eh_7
      refine lv_aload_n hx hb0 dX8_put_57 rfl (lv_at hl 0 rfl) ?_
      refine lv_dup hx hb0 dX8_put_58 rfl ?_
      refine gx_get hx hb0 hts in_RX8 hown hK hP 0 (by decide) (mE_0 _) rfl 7 (by decide) fl_RX8_158 rfl dX8_put_59 ?_
      refine lv_iconst (v := (1 : Int32)) hx hb0 dX8_put_62 (by decide) ?_
      refine lv_iadd hx hb0 dX8_put_63 ?_
      refine gx_put hx hb0 hts in_RX8 tyX8 tyX8_ok nmX8 hown hK hP hD hS 0 (by decide) mE_0 rfl 7 (by decide) fl_RX8_158 rfl (tyX8_ok 7 (by decide)) (Nat.le_of_ble_eq_true rfl) rfl dX8_put_64 (fun h_9 eh_9 H locs hP hD hS => ?_)
      have he := he h_9 eh_9
      obtain ⟨x_10, ex_10⟩ : ∃ y : Int32, y = y4 + (-1) := ⟨_, rfl⟩
      have he := he x_10 ex_10
      refine lv_iinc (v := x_10) (lv' := [(4, .int x_10), (0, .ref (ad 0)), (1, .long y1), (3, .int y3)]) hx hb0 dX8_put_67 hl (k := 3) rfl (by rw [ex_10]; rfl) (by decide) rfl (fun ls hl => ?_)
      refine lv_goto (tgt := 31) hx hb0 dX8_put_70 (by decide) ?_
      exact ih y1 y3 x_10 h_9 he _ _ ls hP hD hS (lv_sub hl [1, 2, 3, 0] rfl)
set_option maxHeartbeats 4000000 in
set_option maxRecDepth 100000 in
theorem c_X8_put (l : Launch) (dC : Nat → ClassId) (dI : Nat → Nat → Nat) (P : gP) (ad : Nat → Nat) (x1 : Int64) (h0 : Hp) (Q : Int32 → Hp → Prop) (he : F_X8_put x1 h0 Q) : Met l yX8_put (Cond.code yX8_put cX8_put 5 (some .int) :: TB) rm_X8_put (gPc (dC, dI) vwCl (tyC P) 7 (mE P ad) ad gKM h0 [.ref (ad 0), .long x1]) (gQi (dC, dI) vwCl (tyC P) 7 (mE P ad) ad Q) 0 0 (gA 7 ad) := by
  refine gx_start (by decide) (Nat.le_of_ble_eq_true rfl) (fun p e s m below meth c ls hx hb0 hr hlocks hml hown hts hK hk hP hD hS hl => ?_)
  have hl : lv_has ls 5 [(0, .ref (ad 0)), (1, .long x1)] := hl
  have hown : s.vm.findClass RX8 = some m.cls := hown
  unfold F_X8_put at he
  refine lv_lload_n hx hb0 dX8_put_0 rfl (lv_at hl 1 rfl) ?_
  refine gx_si ⟨hx, hb0, hml, hown, hts⟩ (gKM_keep _) hk hK hP hD hS [.long x1] [] (c_X8_charactersIn l dC dI P ad x1 h0 _ he) gm_X8_charactersIn st_yX8_charactersIn ml_RX8_169 rfl rfl ⟨Nat.le_of_ble_eq_true rfl, Nat.le_of_ble_eq_true rfl⟩ rfl hl.1 rfl (Nat.le_of_ble_eq_true rfl) dX8_put_1 ⟨Nat.zero_le _, Nat.zero_le _⟩ (fun r_1 h_2 he H locs hP hD hS => ?_)
  refine lv_istore_n (lv' := [(3, .int r_1), (0, .ref (ad 0)), (1, .long x1)]) hx hb0 dX8_put_4 rfl hl (by decide) rfl (fun ls hl => ?_)
  refine lv_iload_n hx hb0 dX8_put_5 rfl (lv_at hl 0 rfl) ?_
  refine lv_if_ne (tgt := 12) hx hb0 dX8_put_6 (by decide) (fun c_3 => ?_) (fun c_3 => ?_)
  · have he := he.2 c_3
    refine lv_aload_n hx hb0 dX8_put_12 rfl (lv_at hl 1 rfl) ?_
    refine gx_get hx hb0 hts in_RX8 hown hK hP 0 (by decide) (mE_0 _) rfl 7 (by decide) fl_RX8_158 rfl dX8_put_13 ?_
    refine lv_iload_n hx hb0 dX8_put_16 rfl (lv_at hl 0 rfl) ?_
    refine lv_iadd hx hb0 dX8_put_17 ?_
    refine lv_bipush (v := (80 : Int32)) hx hb0 dX8_put_18 (by decide) ?_
    refine lv_icmp_le (tgt := 26) hx hb0 dX8_put_20 (by decide) (fun c_4 => ?_) (fun c_4 => ?_)
    · have he := he.1 c_4
      refine lv_iload_n hx hb0 dX8_put_26 rfl (lv_at hl 0 rfl) ?_
      refine lv_iconst (v := (1 : Int32)) hx hb0 dX8_put_27 (by decide) ?_
      refine lv_isub hx hb0 dX8_put_28 ?_
      refine lv_topi (fun x_5 ex_5 => ?_)
      have he := he x_5 ex_5
      refine lv_istore (lv' := [(4, .int x_5), (3, .int r_1), (0, .ref (ad 0)), (1, .long x1)]) hx hb0 dX8_put_29 hl (by decide) rfl (fun ls hl => ?_)
      obtain ⟨n_11, he⟩ := he
      exact l_X8_put_31 l dC dI P ad  hx hb0 hr hlocks hml hown hts hK hk Q n_11 x1 r_1 x_5 h_2 he _ _ ls hP hD hS (lv_sub hl [2, 3, 1, 0] rfl)
    · have he := he.2 c_4
      refine lv_bipush (v := (-4 : Int32)) hx hb0 dX8_put_23 (by decide) ?_
      exact gx_iret hx hb0 hr hlocks hK hP hD hS he dX8_put_25
  · have he := he.1 c_3
    refine lv_bipush (v := (-2 : Int32)) hx hb0 dX8_put_9 (by decide) ?_
    exact gx_iret hx hb0 hr hlocks hK hP hD hS he dX8_put_11
theorem gm_X8_put : gMeth yX8_put cX8_put 5 (some .int) 1 := ⟨⟨by decide, by decide, by decide +kernel⟩, ini_RX8, co_yX8_put⟩
abbrev rm_X8_wipe : Room := { frames := 0, cells := 0, slots := 0, locals := 0 }
set_option maxHeartbeats 4000000 in
set_option maxRecDepth 100000 in
theorem c_X8_wipe (l : Launch) (dC : Nat → ClassId) (dI : Nat → Nat → Nat) (P : gP) (ad : Nat → Nat) (h0 : Hp) (Q : Int32 → Hp → Prop) (he : F_X8_wipe  h0 Q) : Met l yX8_wipe (Cond.code yX8_wipe cX8_wipe 2 (some .int) :: TB) rm_X8_wipe (gPc (dC, dI) vwCl (tyC P) 7 (mE P ad) ad gKM h0 [.ref (ad 0)]) (gQi (dC, dI) vwCl (tyC P) 7 (mE P ad) ad Q) 0 0 (gA 7 ad) := by
  refine gx_start (by decide) (Nat.le_of_ble_eq_true rfl) (fun p e s m below meth c ls hx hb0 hr hlocks hml hown hts hK hk hP hD hS hl => ?_)
  have hl : lv_has ls 2 [(0, .ref (ad 0))] := hl
  have hown : s.vm.findClass RX8 = some m.cls := hown
  unfold F_X8_wipe at he
  refine lv_aload_n hx hb0 dX8_wipe_0 rfl (lv_at hl 0 rfl) ?_
  refine gx_get hx hb0 hts in_RX8 hown hK hP 0 (by decide) (mE_0 _) rfl 7 (by decide) fl_RX8_158 rfl dX8_wipe_1 ?_
  refine lv_topi (fun x_1 ex_1 => ?_)
  have he := he x_1 ex_1
  refine lv_istore_n (lv' := [(1, .int x_1), (0, .ref (ad 0))]) hx hb0 dX8_wipe_4 rfl hl (by decide) rfl (fun ls hl => ?_)
  refine lv_aload_n hx hb0 dX8_wipe_5 rfl (lv_at hl 1 rfl) ?_
  refine lv_iconst (v := (0 : Int32)) hx hb0 dX8_wipe_6 (by decide) ?_
  refine gx_put hx hb0 hts in_RX8 tyX8 tyX8_ok nmX8 hown hK hP hD hS 0 (by decide) mE_0 rfl 7 (by decide) fl_RX8_158 rfl (tyX8_ok 7 (by decide)) (Nat.le_of_ble_eq_true rfl) rfl dX8_wipe_7 (fun h_2 eh_2 H locs hP hD hS => ?_)
  have he := he h_2 eh_2
  refine lv_iload_n hx hb0 dX8_wipe_10 rfl (lv_at hl 0 rfl) ?_
  exact gx_iret hx hb0 hr hlocks hK hP hD hS he dX8_wipe_11
theorem gm_X8_wipe : gMeth yX8_wipe cX8_wipe 2 (some .int) 0 := ⟨⟨by decide, by decide, by decide +kernel⟩, ini_RX8, co_yX8_wipe⟩
abbrev rm_X8_code : Room := { frames := 0, cells := 0, slots := 0, locals := 0 }
set_option maxHeartbeats 4000000 in
set_option maxRecDepth 100000 in
theorem c_X8_code (l : Launch) (dC : Nat → ClassId) (dI : Nat → Nat → Nat) (P : gP) (ad : Nat → Nat) (h0 : Hp) (Q : Int32 → Hp → Prop) (he : F_X8_code  h0 Q) : Met l yX8_code (Cond.code yX8_code cX8_code 1 (some .int) :: TB) rm_X8_code (gPc (dC, dI) vwCl (tyC P) 7 (mE P ad) ad gKM h0 [.ref (ad 0)]) (gQi (dC, dI) vwCl (tyC P) 7 (mE P ad) ad Q) 0 0 (gA 7 ad) := by
  refine gx_start (by decide) (Nat.le_of_ble_eq_true rfl) (fun p e s m below meth c ls hx hb0 hr hlocks hml hown hts hK hk hP hD hS hl => ?_)
  have hl : lv_has ls 1 [(0, .ref (ad 0))] := hl
  have hown : s.vm.findClass RX8 = some m.cls := hown
  unfold F_X8_code at he
  refine lv_aload_n hx hb0 dX8_code_0 rfl (lv_at hl 0 rfl) ?_
  refine gx_get hx hb0 hts in_RX8 hown hK hP 0 (by decide) (mE_0 _) rfl 8 (by decide) fl_RX8_173 rfl dX8_code_1 ?_
  refine lv_aload_n hx hb0 dX8_code_4 rfl (lv_at hl 0 rfl) ?_
  refine gx_get hx hb0 hts in_RX8 hown hK hP 0 (by decide) (mE_0 _) rfl 7 (by decide) fl_RX8_158 rfl dX8_code_5 ?_
  refine lv_icmp_ge (tgt := 23) hx hb0 dX8_code_8 (by decide) (fun c_1 => ?_) (fun c_1 => ?_)
  · have he := he.1 c_1
    refine lv_iconst (v := (0 : Int32)) hx hb0 dX8_code_23 (by decide) ?_
    exact gx_iret hx hb0 hr hlocks hK hP hD hS he dX8_code_24
  · have he := he.2 c_1
    refine lv_aload_n hx hb0 dX8_code_11 rfl (lv_at hl 0 rfl) ?_
    refine gx_get hx hb0 hts in_RX8 hown hK hP 0 (by decide) (mE_0 _) rfl 6 (by decide) fl_RX8_25 rfl dX8_code_12 ?_
    refine lv_aload_n hx hb0 dX8_code_15 rfl (lv_at hl 0 rfl) ?_
    refine gx_get hx hb0 hts in_RX8 hown hK hP 0 (by decide) (mE_0 _) rfl 8 (by decide) fl_RX8_173 rfl dX8_code_16 ?_
    obtain ⟨v_2, he⟩ := he
    refine gx_iald hx hb0 hK hP 6 0 (by decide) mE_6 rfl v_2 dX8_code_19 ?_
    refine lv_goto (tgt := 24) hx hb0 dX8_code_20 (by decide) ?_
    exact gx_iret hx hb0 hr hlocks hK hP hD hS he dX8_code_24
theorem gm_X8_code : gMeth yX8_code cX8_code 1 (some .int) 0 := ⟨⟨by decide, by decide, by decide +kernel⟩, ini_RX8, co_yX8_code⟩
abbrev rm_X8_takes : Room := { frames := 1, cells := 0, slots := 0, locals := 20 }
set_option maxHeartbeats 4000000 in
set_option maxRecDepth 100000 in
theorem c_X8_takes (l : Launch) (dC : Nat → ClassId) (dI : Nat → Nat → Nat) (P : gP) (ad : Nat → Nat) (x1 : Int32) (h0 : Hp) (Q : Int32 → Hp → Prop) (he : F_X8_takes x1 h0 Q) : Met l yX8_takes (Cond.code yX8_takes cX8_takes 3 (some .boolean) :: TB) rm_X8_takes (gPc (dC, dI) vwCl (tyC P) 7 (mE P ad) ad gKM h0 [.ref (ad 0), .int x1]) (gQi (dC, dI) vwCl (tyC P) 7 (mE P ad) ad Q) 0 0 (gA 7 ad) := by
  refine gx_start (by decide) (Nat.le_of_ble_eq_true rfl) (fun p e s m below meth c ls hx hb0 hr hlocks hml hown hts hK hk hP hD hS hl => ?_)
  have hl : lv_has ls 3 [(0, .ref (ad 0)), (1, .int x1)] := hl
  have hown : s.vm.findClass RX8 = some m.cls := hown
  unfold F_X8_takes at he
  refine lv_aload_n hx hb0 dX8_takes_0 rfl (lv_at hl 0 rfl) ?_
  refine gx_vi ⟨hx, hb0, hml, hown, hts⟩ (gKM_keep _) hk hK hP hD hS 0 [] [] (c_X8_code l dC dI P ad  h0 _ he) gm_X8_code im_yX8_code se_yX8_code ml_RX8_176 (by decide) (mE_0 _) rfl rfl rfl ⟨Nat.le_of_ble_eq_true rfl, Nat.le_of_ble_eq_true rfl⟩ rfl hl.1 rfl (Nat.le_of_ble_eq_true rfl) dX8_takes_1 ⟨Nat.zero_le _, Nat.zero_le _⟩ (fun r_1 h_2 he H locs hP hD hS => ?_)
  refine lv_iload_n hx hb0 dX8_takes_4 rfl (lv_at hl 1 rfl) ?_
  refine lv_icmp_ne (tgt := 12) hx hb0 dX8_takes_5 (by decide) (fun c_3 => ?_) (fun c_3 => ?_)
  · have he := he.2 c_3
    refine lv_iconst (v := (0 : Int32)) hx hb0 dX8_takes_12 (by decide) ?_
    refine lv_istore_n (lv' := [(2, .int (0 : Int32)), (0, .ref (ad 0)), (1, .int x1)]) hx hb0 dX8_takes_13 rfl hl (by decide) rfl (fun ls hl => ?_)
    refine lv_aload_n hx hb0 dX8_takes_14 rfl (lv_at hl 1 rfl) ?_
    refine lv_dup hx hb0 dX8_takes_15 rfl ?_
    refine gx_get hx hb0 hts in_RX8 hown hK hP 0 (by decide) (mE_0 _) rfl 8 (by decide) fl_RX8_173 rfl dX8_takes_16 ?_
    refine lv_iload_n hx hb0 dX8_takes_19 rfl (lv_at hl 0 rfl) ?_
    refine lv_if_eq (tgt := 27) hx hb0 dX8_takes_20 (by decide) (fun c_4 => ?_) (fun c_4 => ?_)
    · refine lv_iconst (v := (0 : Int32)) hx hb0 dX8_takes_27 (by decide) ?_
      refine lv_iadd hx hb0 dX8_takes_28 ?_
      refine gx_put hx hb0 hts in_RX8 tyX8 tyX8_ok nmX8 hown hK hP hD hS 0 (by decide) mE_0 rfl 8 (by decide) fl_RX8_173 rfl (tyX8_ok 8 (by decide)) (Nat.le_of_ble_eq_true rfl) rfl dX8_takes_29 (fun h_5 eh_5 H locs hP hD hS => ?_)
      have he := he h_5 eh_5
      refine lv_iload_n hx hb0 dX8_takes_32 rfl (lv_at hl 0 rfl) ?_
      exact gx_zret hx hb0 hr (by decide) hlocks hK hP hD hS he dX8_takes_33
    · exact absurd c_4 (by decide)
  · have he := he.1 c_3
    refine lv_iconst (v := (1 : Int32)) hx hb0 dX8_takes_8 (by decide) ?_
    refine lv_goto (tgt := 13) hx hb0 dX8_takes_9 (by decide) ?_
    refine lv_istore_n (lv' := [(2, .int (1 : Int32)), (0, .ref (ad 0)), (1, .int x1)]) hx hb0 dX8_takes_13 rfl hl (by decide) rfl (fun ls hl => ?_)
    refine lv_aload_n hx hb0 dX8_takes_14 rfl (lv_at hl 1 rfl) ?_
    refine lv_dup hx hb0 dX8_takes_15 rfl ?_
    refine gx_get hx hb0 hts in_RX8 hown hK hP 0 (by decide) (mE_0 _) rfl 8 (by decide) fl_RX8_173 rfl dX8_takes_16 ?_
    refine lv_iload_n hx hb0 dX8_takes_19 rfl (lv_at hl 0 rfl) ?_
    refine lv_if_eq (tgt := 27) hx hb0 dX8_takes_20 (by decide) (fun c_6 => ?_) (fun c_6 => ?_)
    · exact absurd c_6 (by decide)
    · refine lv_iconst (v := (1 : Int32)) hx hb0 dX8_takes_23 (by decide) ?_
      refine lv_goto (tgt := 28) hx hb0 dX8_takes_24 (by decide) ?_
      refine lv_iadd hx hb0 dX8_takes_28 ?_
      refine gx_put hx hb0 hts in_RX8 tyX8 tyX8_ok nmX8 hown hK hP hD hS 0 (by decide) mE_0 rfl 8 (by decide) fl_RX8_173 rfl (tyX8_ok 8 (by decide)) (Nat.le_of_ble_eq_true rfl) rfl dX8_takes_29 (fun h_7 eh_7 H locs hP hD hS => ?_)
      have he := he h_7 eh_7
      refine lv_iload_n hx hb0 dX8_takes_32 rfl (lv_at hl 0 rfl) ?_
      exact gx_zret hx hb0 hr (by decide) hlocks hK hP hD hS he dX8_takes_33
theorem gm_X8_takes : gMeth yX8_takes cX8_takes 3 (some .boolean) 1 := ⟨⟨by decide, by decide, by decide +kernel⟩, ini_RX8, co_yX8_takes⟩
abbrev rm_X8_takeDigit : Room := { frames := 1, cells := 0, slots := 0, locals := 22 }
set_option maxHeartbeats 4000000 in
set_option maxRecDepth 100000 in
theorem c_X8_takeDigit (l : Launch) (dC : Nat → ClassId) (dI : Nat → Nat → Nat) (P : gP) (ad : Nat → Nat) (h0 : Hp) (Q : Int32 → Hp → Prop) (he : F_X8_takeDigit  h0 Q) : Met l yX8_takeDigit (Cond.code yX8_takeDigit cX8_takeDigit 3 (some .int) :: TB) rm_X8_takeDigit (gPc (dC, dI) vwCl (tyC P) 7 (mE P ad) ad gKM h0 [.ref (ad 0)]) (gQi (dC, dI) vwCl (tyC P) 7 (mE P ad) ad Q) 0 0 (gA 7 ad) := by
  refine gx_start (by decide) (Nat.le_of_ble_eq_true rfl) (fun p e s m below meth c ls hx hb0 hr hlocks hml hown hts hK hk hP hD hS hl => ?_)
  have hl : lv_has ls 3 [(0, .ref (ad 0))] := hl
  have hown : s.vm.findClass RX8 = some m.cls := hown
  unfold F_X8_takeDigit at he
  refine lv_aload_n hx hb0 dX8_takeDigit_0 rfl (lv_at hl 0 rfl) ?_
  refine gx_vi ⟨hx, hb0, hml, hown, hts⟩ (gKM_keep _) hk hK hP hD hS 0 [] [] (c_X8_code l dC dI P ad  h0 _ he) gm_X8_code im_yX8_code se_yX8_code ml_RX8_176 (by decide) (mE_0 _) rfl rfl rfl ⟨Nat.le_of_ble_eq_true rfl, Nat.le_of_ble_eq_true rfl⟩ rfl hl.1 rfl (Nat.le_of_ble_eq_true rfl) dX8_takeDigit_1 ⟨Nat.zero_le _, Nat.zero_le _⟩ (fun r_1 h_2 he H locs hP hD hS => ?_)
  refine lv_bipush (v := (48 : Int32)) hx hb0 dX8_takeDigit_4 (by decide) ?_
  refine lv_isub hx hb0 dX8_takeDigit_6 ?_
  refine lv_topi (fun x_3 ex_3 => ?_)
  have he := he x_3 ex_3
  refine lv_istore_n (lv' := [(1, .int x_3), (0, .ref (ad 0))]) hx hb0 dX8_takeDigit_7 rfl hl (by decide) rfl (fun ls hl => ?_)
  refine lv_iload_n hx hb0 dX8_takeDigit_8 rfl (lv_at hl 0 rfl) ?_
  refine lv_iconst (v := (0 : Int32)) hx hb0 dX8_takeDigit_9 (by decide) ?_
  refine lv_bipush (v := (9 : Int32)) hx hb0 dX8_takeDigit_10 (by decide) ?_
  refine gx_si ⟨hx, hb0, hml, hown, hts⟩ (gKM_keep _) hk hK hP hD hS [.int x_3, .int (0 : Int32), .int (9 : Int32)] [] (c_X8_within l dC dI P ad x_3 (0 : Int32) (9 : Int32) h_2 _ he) gm_X8_within st_yX8_within ml_RX8_32 rfl rfl ⟨Nat.le_of_ble_eq_true rfl, Nat.le_of_ble_eq_true rfl⟩ rfl hl.1 rfl (Nat.le_of_ble_eq_true rfl) dX8_takeDigit_12 ⟨Nat.zero_le _, Nat.zero_le _⟩ (fun r_4 h_5 he H locs hP hD hS => ?_)
  refine lv_istore_n (lv' := [(2, .int r_4), (1, .int x_3), (0, .ref (ad 0))]) hx hb0 dX8_takeDigit_15 rfl hl (by decide) rfl (fun ls hl => ?_)
  refine lv_aload_n hx hb0 dX8_takeDigit_16 rfl (lv_at hl 2 rfl) ?_
  refine lv_dup hx hb0 dX8_takeDigit_17 rfl ?_
  refine gx_get hx hb0 hts in_RX8 hown hK hP 0 (by decide) (mE_0 _) rfl 8 (by decide) fl_RX8_173 rfl dX8_takeDigit_18 ?_
  refine lv_iload_n hx hb0 dX8_takeDigit_21 rfl (lv_at hl 0 rfl) ?_
  refine lv_if_eq (tgt := 29) hx hb0 dX8_takeDigit_22 (by decide) (fun c_6 => ?_) (fun c_6 => ?_)
  · have he := he.1 c_6
    refine lv_iconst (v := (0 : Int32)) hx hb0 dX8_takeDigit_29 (by decide) ?_
    refine lv_iadd hx hb0 dX8_takeDigit_30 ?_
    refine gx_put hx hb0 hts in_RX8 tyX8 tyX8_ok nmX8 hown hK hP hD hS 0 (by decide) mE_0 rfl 8 (by decide) fl_RX8_173 rfl (tyX8_ok 8 (by decide)) (Nat.le_of_ble_eq_true rfl) rfl dX8_takeDigit_31 (fun h_7 eh_7 H locs hP hD hS => ?_)
    have he := he h_7 eh_7
    refine lv_iload_n hx hb0 dX8_takeDigit_34 rfl (lv_at hl 0 rfl) ?_
    refine lv_if_eq (tgt := 42) hx hb0 dX8_takeDigit_35 (by decide) (fun c_8 => ?_) (fun c_8 => ?_)
    · have he := he.1 c_8
      refine lv_bipush (v := (-6 : Int32)) hx hb0 dX8_takeDigit_42 (by decide) ?_
      exact gx_iret hx hb0 hr hlocks hK hP hD hS he dX8_takeDigit_44
    · have he := he.2 c_8
      refine lv_iload_n hx hb0 dX8_takeDigit_38 rfl (lv_at hl 1 rfl) ?_
      refine lv_goto (tgt := 44) hx hb0 dX8_takeDigit_39 (by decide) ?_
      exact gx_iret hx hb0 hr hlocks hK hP hD hS he dX8_takeDigit_44
  · have he := he.2 c_6
    refine lv_iconst (v := (1 : Int32)) hx hb0 dX8_takeDigit_25 (by decide) ?_
    refine lv_goto (tgt := 30) hx hb0 dX8_takeDigit_26 (by decide) ?_
    refine lv_iadd hx hb0 dX8_takeDigit_30 ?_
    refine gx_put hx hb0 hts in_RX8 tyX8 tyX8_ok nmX8 hown hK hP hD hS 0 (by decide) mE_0 rfl 8 (by decide) fl_RX8_173 rfl (tyX8_ok 8 (by decide)) (Nat.le_of_ble_eq_true rfl) rfl dX8_takeDigit_31 (fun h_9 eh_9 H locs hP hD hS => ?_)
    have he := he h_9 eh_9
    refine lv_iload_n hx hb0 dX8_takeDigit_34 rfl (lv_at hl 0 rfl) ?_
    refine lv_if_eq (tgt := 42) hx hb0 dX8_takeDigit_35 (by decide) (fun c_10 => ?_) (fun c_10 => ?_)
    · have he := he.1 c_10
      refine lv_bipush (v := (-6 : Int32)) hx hb0 dX8_takeDigit_42 (by decide) ?_
      exact gx_iret hx hb0 hr hlocks hK hP hD hS he dX8_takeDigit_44
    · have he := he.2 c_10
      refine lv_iload_n hx hb0 dX8_takeDigit_38 rfl (lv_at hl 1 rfl) ?_
      refine lv_goto (tgt := 44) hx hb0 dX8_takeDigit_39 (by decide) ?_
      exact gx_iret hx hb0 hr hlocks hK hP hD hS he dX8_takeDigit_44
theorem gm_X8_takeDigit : gMeth yX8_takeDigit cX8_takeDigit 3 (some .int) 0 := ⟨⟨by decide, by decide, by decide +kernel⟩, ini_RX8, co_yX8_takeDigit⟩
abbrev rm_X8_readsNumber : Room := { frames := 2, cells := 0, slots := 0, locals := 44 }
set_option maxHeartbeats 4000000 in
set_option maxRecDepth 100000 in
theorem l_X8_readsNumber_19 (l : Launch) (dC : Nat → ClassId) (dI : Nat → Nat → Nat) (P : gP) (ad : Nat → Nat) {p : Program} {e : Env} {s : State} {m : MethodId} {args : Array Value} {below : List Frame} {meth : Method} {c : Code} (hx : p.tables.exec = Jvm.exec) (hb0 : c.code = cX8_readsNumber) (hr : meth.sig.returnType = (some .boolean)) (hlocks : meth.locks = false) (hml : c.maxLocals = 1) (hown : s.vm.findClass RX8 = some m.cls) (hts : ∀ w ∈ TB, w.before args s = true) (hK : va_K (dC, dI) vwCl (tyC P) s) (hk : gKM s) (Q : Int32 → Hp → Prop) : ∀ (n : Nat) (h0 : Hp), F_X8_readsNumber_L19  n h0 Q → ∀ (H : Heap) (locs : List Loc) (ls : Array Slot), va_P (dC, dI) vwCl (gW 7 (mE P ad) ad h0) H → va_D (gA 7 ad) (gW 7 (mE P ad) ad h0) → va_S (gA 7 ad) s.heap H locs → lv_has ls 1 [(0, .ref (ad 0))] → W p l e rm_X8_readsNumber s m args below meth c H locs 0 0 (MQ below (gQi (dC, dI) vwCl (tyC P) 7 (mE P ad) ad Q) args s 0 0 (gA 7 ad)) (F0 m 19 ls []) := by
  intro n
  induction n with
  | zero =>
    intro  h0 he
    exact he.elim
  | succ n ih =>
    intro  h0 he H locs ls hP hD hS hl
    rw [F_X8_readsNumber_L19] at he
    refine lv_aload_n hx hb0 dX8_readsNumber_19 rfl (lv_at hl 0 rfl) ?_
    refine gx_get hx hb0 hts in_RX8 hown hK hP 0 (by decide) (mE_0 _) rfl 10 (by decide) fl_RX8_182 rfl dX8_readsNumber_20 ?_
    refine lv_if_le (tgt := 69) hx hb0 dX8_readsNumber_23 (by decide) (fun c_5 => ?_) (fun c_5 => ?_)
    · have he := he.1 c_5
      refine lv_iconst (v := (1 : Int32)) hx hb0 dX8_readsNumber_69 (by decide) ?_
      exact gx_zret hx hb0 hr (by decide) hlocks hK hP hD hS he dX8_readsNumber_70
    · have he := he.2 c_5
      refine lv_aload_n hx hb0 dX8_readsNumber_26 rfl (lv_at hl 0 rfl) ?_
      refine gx_get hx hb0 hts in_RX8 hown hK hP 0 (by decide) (mE_0 _) rfl 10 (by decide) fl_RX8_182 rfl dX8_readsNumber_27 ?_
      refine lv_sipush (v := (1000 : Int32)) hx hb0 dX8_readsNumber_30 (by decide) ?_
      refine lv_icmp_ge (tgt := 69) hx hb0 dX8_readsNumber_33 (by decide) (fun c_6 => ?_) (fun c_6 => ?_)
      · have he := he.1 c_6
        refine lv_iconst (v := (1 : Int32)) hx hb0 dX8_readsNumber_69 (by decide) ?_
        exact gx_zret hx hb0 hr (by decide) hlocks hK hP hD hS he dX8_readsNumber_70
      · have he := he.2 c_6
        refine lv_aload_n hx hb0 dX8_readsNumber_36 rfl (lv_at hl 0 rfl) ?_
        refine gx_vi ⟨hx, hb0, hml, hown, hts⟩ (gKM_keep _) hk hK hP hD hS 0 [] [] (c_X8_code l dC dI P ad  h0 _ he) gm_X8_code im_yX8_code se_yX8_code ml_RX8_176 (by decide) (mE_0 _) rfl rfl rfl ⟨Nat.le_of_ble_eq_true rfl, Nat.le_of_ble_eq_true rfl⟩ rfl hl.1 rfl (Nat.le_of_ble_eq_true rfl) dX8_readsNumber_37 ⟨Nat.zero_le _, Nat.zero_le _⟩ (fun r_7 h_8 he H locs hP hD hS => ?_)
        refine lv_bipush (v := (48 : Int32)) hx hb0 dX8_readsNumber_40 (by decide) ?_
        refine lv_bipush (v := (57 : Int32)) hx hb0 dX8_readsNumber_42 (by decide) ?_
        refine gx_si ⟨hx, hb0, hml, hown, hts⟩ (gKM_keep _) hk hK hP hD hS [.int r_7, .int (48 : Int32), .int (57 : Int32)] [] (c_X8_within l dC dI P ad r_7 (48 : Int32) (57 : Int32) h_8 _ he) gm_X8_within st_yX8_within ml_RX8_32 rfl rfl ⟨Nat.le_of_ble_eq_true rfl, Nat.le_of_ble_eq_true rfl⟩ rfl hl.1 rfl (Nat.le_of_ble_eq_true rfl) dX8_readsNumber_44 ⟨Nat.zero_le _, Nat.zero_le _⟩ (fun r_9 h_10 he H locs hP hD hS => ?_)
        refine lv_if_eq (tgt := 69) hx hb0 dX8_readsNumber_47 (by decide) (fun c_11 => ?_) (fun c_11 => ?_)
        · have he := he.1 c_11
          refine lv_iconst (v := (1 : Int32)) hx hb0 dX8_readsNumber_69 (by decide) ?_
          exact gx_zret hx hb0 hr (by decide) hlocks hK hP hD hS he dX8_readsNumber_70
        · have he := he.2 c_11
          refine lv_aload_n hx hb0 dX8_readsNumber_50 rfl (lv_at hl 0 rfl) ?_
          refine lv_bipush (v := (10 : Int32)) hx hb0 dX8_readsNumber_51 (by decide) ?_
          refine lv_aload_n hx hb0 dX8_readsNumber_53 rfl (lv_at hl 0 rfl) ?_
          refine gx_get hx hb0 hts in_RX8 hown hK hP 0 (by decide) (mE_0 _) rfl 10 (by decide) fl_RX8_182 rfl dX8_readsNumber_54 ?_
          refine lv_imul hx hb0 dX8_readsNumber_57 ?_
          refine lv_aload_n hx hb0 dX8_readsNumber_58 rfl (lv_at hl 0 rfl) ?_
          refine gx_vi ⟨hx, hb0, hml, hown, hts⟩ (gKM_keep _) hk hK hP hD hS 0 [] [.int ((10 : Int32) * (h_10 0 10)), .ref (ad 0)] (c_X8_takeDigit l dC dI P ad  h_10 _ he) gm_X8_takeDigit im_yX8_takeDigit se_yX8_takeDigit ml_RX8_179 (by decide) (mE_0 _) rfl rfl rfl ⟨Nat.le_of_ble_eq_true rfl, Nat.le_of_ble_eq_true rfl⟩ rfl hl.1 rfl (Nat.le_of_ble_eq_true rfl) dX8_readsNumber_59 ⟨Nat.zero_le _, Nat.zero_le _⟩ (fun r_12 h_13 he H locs hP hD hS => ?_)
          refine lv_iadd hx hb0 dX8_readsNumber_62 ?_
          refine gx_put hx hb0 hts in_RX8 tyX8 tyX8_ok nmX8 hown hK hP hD hS 0 (by decide) mE_0 rfl 10 (by decide) fl_RX8_182 rfl (tyX8_ok 10 (by decide)) (Nat.le_of_ble_eq_true rfl) rfl dX8_readsNumber_63 (fun h_14 eh_14 H locs hP hD hS => ?_)
          have he := he h_14 eh_14
          refine lv_goto (tgt := 19) hx hb0 dX8_readsNumber_66 (by decide) ?_
          exact ih  h_14 he _ _ ls hP hD hS (lv_sub hl [0] rfl)
set_option maxHeartbeats 4000000 in
set_option maxRecDepth 100000 in
theorem c_X8_readsNumber (l : Launch) (dC : Nat → ClassId) (dI : Nat → Nat → Nat) (P : gP) (ad : Nat → Nat) (h0 : Hp) (Q : Int32 → Hp → Prop) (he : F_X8_readsNumber  h0 Q) : Met l yX8_readsNumber (Cond.code yX8_readsNumber cX8_readsNumber 1 (some .boolean) :: TB) rm_X8_readsNumber (gPc (dC, dI) vwCl (tyC P) 7 (mE P ad) ad gKM h0 [.ref (ad 0)]) (gQi (dC, dI) vwCl (tyC P) 7 (mE P ad) ad Q) 0 0 (gA 7 ad) := by
  refine gx_start (by decide) (Nat.le_of_ble_eq_true rfl) (fun p e s m below meth c ls hx hb0 hr hlocks hml hown hts hK hk hP hD hS hl => ?_)
  have hl : lv_has ls 1 [(0, .ref (ad 0))] := hl
  have hown : s.vm.findClass RX8 = some m.cls := hown
  unfold F_X8_readsNumber at he
  refine lv_aload_n hx hb0 dX8_readsNumber_0 rfl (lv_at hl 0 rfl) ?_
  refine lv_aload_n hx hb0 dX8_readsNumber_1 rfl (lv_at hl 0 rfl) ?_
  refine gx_vi ⟨hx, hb0, hml, hown, hts⟩ (gKM_keep _) hk hK hP hD hS 0 [] [.ref (ad 0)] (c_X8_takeDigit l dC dI P ad  h0 _ he) gm_X8_takeDigit im_yX8_takeDigit se_yX8_takeDigit ml_RX8_179 (by decide) (mE_0 _) rfl rfl rfl ⟨Nat.le_of_ble_eq_true rfl, Nat.le_of_ble_eq_true rfl⟩ rfl hl.1 rfl (Nat.le_of_ble_eq_true rfl) dX8_readsNumber_2 ⟨Nat.zero_le _, Nat.zero_le _⟩ (fun r_1 h_2 he H locs hP hD hS => ?_)
  refine gx_put hx hb0 hts in_RX8 tyX8 tyX8_ok nmX8 hown hK hP hD hS 0 (by decide) mE_0 rfl 10 (by decide) fl_RX8_182 rfl (tyX8_ok 10 (by decide)) (Nat.le_of_ble_eq_true rfl) rfl dX8_readsNumber_5 (fun h_3 eh_3 H locs hP hD hS => ?_)
  have he := he h_3 eh_3
  refine lv_aload_n hx hb0 dX8_readsNumber_8 rfl (lv_at hl 0 rfl) ?_
  refine gx_get hx hb0 hts in_RX8 hown hK hP 0 (by decide) (mE_0 _) rfl 10 (by decide) fl_RX8_182 rfl dX8_readsNumber_9 ?_
  refine lv_bipush (v := (-6 : Int32)) hx hb0 dX8_readsNumber_12 (by decide) ?_
  refine lv_icmp_ne (tgt := 19) hx hb0 dX8_readsNumber_14 (by decide) (fun c_4 => ?_) (fun c_4 => ?_)
  · have he := he.2 c_4
    obtain ⟨n_15, he⟩ := he
    exact l_X8_readsNumber_19 l dC dI P ad  hx hb0 hr hlocks hml hown hts hK hk Q n_15  h_3 he _ _ ls hP hD hS (lv_sub hl [0] rfl)
  · have he := he.1 c_4
    refine lv_iconst (v := (0 : Int32)) hx hb0 dX8_readsNumber_17 (by decide) ?_
    exact gx_zret hx hb0 hr (by decide) hlocks hK hP hD hS he dX8_readsNumber_18
theorem gm_X8_readsNumber : gMeth yX8_readsNumber cX8_readsNumber 1 (some .boolean) 0 := ⟨⟨by decide, by decide, by decide +kernel⟩, ini_RX8, co_yX8_readsNumber⟩
abbrev rm_X8_readsSigned : Room := { frames := 3, cells := 0, slots := 0, locals := 64 }
set_option maxHeartbeats 4000000 in
set_option maxRecDepth 100000 in
theorem c_X8_readsSigned (l : Launch) (dC : Nat → ClassId) (dI : Nat → Nat → Nat) (P : gP) (ad : Nat → Nat) (h0 : Hp) (Q : Int32 → Hp → Prop) (he : F_X8_readsSigned  h0 Q) : Met l yX8_readsSigned (Cond.code yX8_readsSigned cX8_readsSigned 3 (some .boolean) :: TB) rm_X8_readsSigned (gPc (dC, dI) vwCl (tyC P) 7 (mE P ad) ad gKM h0 [.ref (ad 0)]) (gQi (dC, dI) vwCl (tyC P) 7 (mE P ad) ad Q) 0 0 (gA 7 ad) := by
  refine gx_start (by decide) (Nat.le_of_ble_eq_true rfl) (fun p e s m below meth c ls hx hb0 hr hlocks hml hown hts hK hk hP hD hS hl => ?_)
  have hl : lv_has ls 3 [(0, .ref (ad 0))] := hl
  have hown : s.vm.findClass RX8 = some m.cls := hown
  unfold F_X8_readsSigned at he
  refine lv_aload_n hx hb0 dX8_readsSigned_0 rfl (lv_at hl 0 rfl) ?_
  refine gx_vi ⟨hx, hb0, hml, hown, hts⟩ (gKM_keep _) hk hK hP hD hS 0 [] [] (c_X8_code l dC dI P ad  h0 _ he) gm_X8_code im_yX8_code se_yX8_code ml_RX8_176 (by decide) (mE_0 _) rfl rfl rfl ⟨Nat.le_of_ble_eq_true rfl, Nat.le_of_ble_eq_true rfl⟩ rfl hl.1 rfl (Nat.le_of_ble_eq_true rfl) dX8_readsSigned_1 ⟨Nat.zero_le _, Nat.zero_le _⟩ (fun r_1 h_2 he H locs hP hD hS => ?_)
  refine lv_bipush (v := (45 : Int32)) hx hb0 dX8_readsSigned_4 (by decide) ?_
  refine lv_icmp_ne (tgt := 13) hx hb0 dX8_readsSigned_6 (by decide) (fun c_3 => ?_) (fun c_3 => ?_)
  · have he := he.2 c_3
    refine lv_iconst (v := (0 : Int32)) hx hb0 dX8_readsSigned_13 (by decide) ?_
    refine lv_istore_n (lv' := [(1, .int (0 : Int32)), (0, .ref (ad 0))]) hx hb0 dX8_readsSigned_14 rfl hl (by decide) rfl (fun ls hl => ?_)
    refine lv_aload_n hx hb0 dX8_readsSigned_15 rfl (lv_at hl 1 rfl) ?_
    refine lv_bipush (v := (43 : Int32)) hx hb0 dX8_readsSigned_16 (by decide) ?_
    refine gx_vi ⟨hx, hb0, hml, hown, hts⟩ (gKM_keep _) hk hK hP hD hS 0 [.int (43 : Int32)] [] (c_X8_takes l dC dI P ad (43 : Int32) h_2 _ he) gm_X8_takes im_yX8_takes se_yX8_takes ml_RX8_185 (by decide) (mE_0 _) rfl rfl rfl ⟨Nat.le_of_ble_eq_true rfl, Nat.le_of_ble_eq_true rfl⟩ rfl hl.1 rfl (Nat.le_of_ble_eq_true rfl) dX8_readsSigned_18 ⟨Nat.zero_le _, Nat.zero_le _⟩ (fun r_4 h_5 he H locs hP hD hS => ?_)
    refine lv_if_ne (tgt := 35) hx hb0 dX8_readsSigned_21 (by decide) (fun c_6 => ?_) (fun c_6 => ?_)
    · have he := he.2 c_6
      refine lv_aload_n hx hb0 dX8_readsSigned_35 rfl (lv_at hl 1 rfl) ?_
      refine gx_vi ⟨hx, hb0, hml, hown, hts⟩ (gKM_keep _) hk hK hP hD hS 0 [] [] (c_X8_readsNumber l dC dI P ad  h_5 _ he) gm_X8_readsNumber im_yX8_readsNumber se_yX8_readsNumber ml_RX8_188 (by decide) (mE_0 _) rfl rfl rfl ⟨Nat.le_of_ble_eq_true rfl, Nat.le_of_ble_eq_true rfl⟩ rfl hl.1 rfl (Nat.le_of_ble_eq_true rfl) dX8_readsSigned_36 ⟨Nat.zero_le _, Nat.zero_le _⟩ (fun r_7 h_8 he H locs hP hD hS => ?_)
      refine lv_istore_n (lv' := [(2, .int r_7), (1, .int (0 : Int32)), (0, .ref (ad 0))]) hx hb0 dX8_readsSigned_39 rfl hl (by decide) rfl (fun ls hl => ?_)
      refine lv_aload_n hx hb0 dX8_readsSigned_40 rfl (lv_at hl 2 rfl) ?_
      refine lv_iload_n hx hb0 dX8_readsSigned_41 rfl (lv_at hl 1 rfl) ?_
      refine lv_if_eq (tgt := 53) hx hb0 dX8_readsSigned_42 (by decide) (fun c_9 => ?_) (fun c_9 => ?_)
      · refine lv_aload_n hx hb0 dX8_readsSigned_53 rfl (lv_at hl 2 rfl) ?_
        refine gx_get hx hb0 hts in_RX8 hown hK hP 0 (by decide) (mE_0 _) rfl 10 (by decide) fl_RX8_182 rfl dX8_readsSigned_54 ?_
        refine gx_put hx hb0 hts in_RX8 tyX8 tyX8_ok nmX8 hown hK hP hD hS 0 (by decide) mE_0 rfl 10 (by decide) fl_RX8_182 rfl (tyX8_ok 10 (by decide)) (Nat.le_of_ble_eq_true rfl) rfl dX8_readsSigned_57 (fun h_10 eh_10 H locs hP hD hS => ?_)
        have he := he h_10 eh_10
        refine lv_iload_n hx hb0 dX8_readsSigned_60 rfl (lv_at hl 0 rfl) ?_
        obtain ⟨z_11, he⟩ := he
        exact gx_zret hx hb0 hr z_11 hlocks hK hP hD hS he dX8_readsSigned_61
      · exact absurd c_9 (by decide)
    · have he := he.1 c_6
      refine lv_aload_n hx hb0 dX8_readsSigned_24 rfl (lv_at hl 1 rfl) ?_
      refine lv_bipush (v := (45 : Int32)) hx hb0 dX8_readsSigned_25 (by decide) ?_
      refine gx_vi ⟨hx, hb0, hml, hown, hts⟩ (gKM_keep _) hk hK hP hD hS 0 [.int (45 : Int32)] [] (c_X8_takes l dC dI P ad (45 : Int32) h_5 _ he) gm_X8_takes im_yX8_takes se_yX8_takes ml_RX8_185 (by decide) (mE_0 _) rfl rfl rfl ⟨Nat.le_of_ble_eq_true rfl, Nat.le_of_ble_eq_true rfl⟩ rfl hl.1 rfl (Nat.le_of_ble_eq_true rfl) dX8_readsSigned_27 ⟨Nat.zero_le _, Nat.zero_le _⟩ (fun r_12 h_13 he H locs hP hD hS => ?_)
      refine lv_if_ne (tgt := 35) hx hb0 dX8_readsSigned_30 (by decide) (fun c_14 => ?_) (fun c_14 => ?_)
      · have he := he.2 c_14
        refine lv_aload_n hx hb0 dX8_readsSigned_35 rfl (lv_at hl 1 rfl) ?_
        refine gx_vi ⟨hx, hb0, hml, hown, hts⟩ (gKM_keep _) hk hK hP hD hS 0 [] [] (c_X8_readsNumber l dC dI P ad  h_13 _ he) gm_X8_readsNumber im_yX8_readsNumber se_yX8_readsNumber ml_RX8_188 (by decide) (mE_0 _) rfl rfl rfl ⟨Nat.le_of_ble_eq_true rfl, Nat.le_of_ble_eq_true rfl⟩ rfl hl.1 rfl (Nat.le_of_ble_eq_true rfl) dX8_readsSigned_36 ⟨Nat.zero_le _, Nat.zero_le _⟩ (fun r_15 h_16 he H locs hP hD hS => ?_)
        refine lv_istore_n (lv' := [(2, .int r_15), (1, .int (0 : Int32)), (0, .ref (ad 0))]) hx hb0 dX8_readsSigned_39 rfl hl (by decide) rfl (fun ls hl => ?_)
        refine lv_aload_n hx hb0 dX8_readsSigned_40 rfl (lv_at hl 2 rfl) ?_
        refine lv_iload_n hx hb0 dX8_readsSigned_41 rfl (lv_at hl 1 rfl) ?_
        refine lv_if_eq (tgt := 53) hx hb0 dX8_readsSigned_42 (by decide) (fun c_17 => ?_) (fun c_17 => ?_)
        · refine lv_aload_n hx hb0 dX8_readsSigned_53 rfl (lv_at hl 2 rfl) ?_
          refine gx_get hx hb0 hts in_RX8 hown hK hP 0 (by decide) (mE_0 _) rfl 10 (by decide) fl_RX8_182 rfl dX8_readsSigned_54 ?_
          refine gx_put hx hb0 hts in_RX8 tyX8 tyX8_ok nmX8 hown hK hP hD hS 0 (by decide) mE_0 rfl 10 (by decide) fl_RX8_182 rfl (tyX8_ok 10 (by decide)) (Nat.le_of_ble_eq_true rfl) rfl dX8_readsSigned_57 (fun h_18 eh_18 H locs hP hD hS => ?_)
          have he := he h_18 eh_18
          refine lv_iload_n hx hb0 dX8_readsSigned_60 rfl (lv_at hl 0 rfl) ?_
          obtain ⟨z_19, he⟩ := he
          exact gx_zret hx hb0 hr z_19 hlocks hK hP hD hS he dX8_readsSigned_61
        · exact absurd c_17 (by decide)
      · have he := he.1 c_14
        refine lv_iconst (v := (0 : Int32)) hx hb0 dX8_readsSigned_33 (by decide) ?_
        exact gx_zret hx hb0 hr (by decide) hlocks hK hP hD hS he dX8_readsSigned_34
  · have he := he.1 c_3
    refine lv_iconst (v := (1 : Int32)) hx hb0 dX8_readsSigned_9 (by decide) ?_
    refine lv_goto (tgt := 14) hx hb0 dX8_readsSigned_10 (by decide) ?_
    refine lv_istore_n (lv' := [(1, .int (1 : Int32)), (0, .ref (ad 0))]) hx hb0 dX8_readsSigned_14 rfl hl (by decide) rfl (fun ls hl => ?_)
    refine lv_aload_n hx hb0 dX8_readsSigned_15 rfl (lv_at hl 1 rfl) ?_
    refine lv_bipush (v := (43 : Int32)) hx hb0 dX8_readsSigned_16 (by decide) ?_
    refine gx_vi ⟨hx, hb0, hml, hown, hts⟩ (gKM_keep _) hk hK hP hD hS 0 [.int (43 : Int32)] [] (c_X8_takes l dC dI P ad (43 : Int32) h_2 _ he) gm_X8_takes im_yX8_takes se_yX8_takes ml_RX8_185 (by decide) (mE_0 _) rfl rfl rfl ⟨Nat.le_of_ble_eq_true rfl, Nat.le_of_ble_eq_true rfl⟩ rfl hl.1 rfl (Nat.le_of_ble_eq_true rfl) dX8_readsSigned_18 ⟨Nat.zero_le _, Nat.zero_le _⟩ (fun r_20 h_21 he H locs hP hD hS => ?_)
    refine lv_if_ne (tgt := 35) hx hb0 dX8_readsSigned_21 (by decide) (fun c_22 => ?_) (fun c_22 => ?_)
    · have he := he.2 c_22
      refine lv_aload_n hx hb0 dX8_readsSigned_35 rfl (lv_at hl 1 rfl) ?_
      refine gx_vi ⟨hx, hb0, hml, hown, hts⟩ (gKM_keep _) hk hK hP hD hS 0 [] [] (c_X8_readsNumber l dC dI P ad  h_21 _ he) gm_X8_readsNumber im_yX8_readsNumber se_yX8_readsNumber ml_RX8_188 (by decide) (mE_0 _) rfl rfl rfl ⟨Nat.le_of_ble_eq_true rfl, Nat.le_of_ble_eq_true rfl⟩ rfl hl.1 rfl (Nat.le_of_ble_eq_true rfl) dX8_readsSigned_36 ⟨Nat.zero_le _, Nat.zero_le _⟩ (fun r_23 h_24 he H locs hP hD hS => ?_)
      refine lv_istore_n (lv' := [(2, .int r_23), (1, .int (1 : Int32)), (0, .ref (ad 0))]) hx hb0 dX8_readsSigned_39 rfl hl (by decide) rfl (fun ls hl => ?_)
      refine lv_aload_n hx hb0 dX8_readsSigned_40 rfl (lv_at hl 2 rfl) ?_
      refine lv_iload_n hx hb0 dX8_readsSigned_41 rfl (lv_at hl 1 rfl) ?_
      refine lv_if_eq (tgt := 53) hx hb0 dX8_readsSigned_42 (by decide) (fun c_25 => ?_) (fun c_25 => ?_)
      · exact absurd c_25 (by decide)
      · refine lv_aload_n hx hb0 dX8_readsSigned_45 rfl (lv_at hl 2 rfl) ?_
        refine gx_get hx hb0 hts in_RX8 hown hK hP 0 (by decide) (mE_0 _) rfl 10 (by decide) fl_RX8_182 rfl dX8_readsSigned_46 ?_
        refine lv_ineg hx hb0 dX8_readsSigned_49 ?_
        refine lv_goto (tgt := 57) hx hb0 dX8_readsSigned_50 (by decide) ?_
        refine gx_put hx hb0 hts in_RX8 tyX8 tyX8_ok nmX8 hown hK hP hD hS 0 (by decide) mE_0 rfl 10 (by decide) fl_RX8_182 rfl (tyX8_ok 10 (by decide)) (Nat.le_of_ble_eq_true rfl) rfl dX8_readsSigned_57 (fun h_26 eh_26 H locs hP hD hS => ?_)
        have he := he h_26 eh_26
        refine lv_iload_n hx hb0 dX8_readsSigned_60 rfl (lv_at hl 0 rfl) ?_
        obtain ⟨z_27, he⟩ := he
        exact gx_zret hx hb0 hr z_27 hlocks hK hP hD hS he dX8_readsSigned_61
    · have he := he.1 c_22
      refine lv_aload_n hx hb0 dX8_readsSigned_24 rfl (lv_at hl 1 rfl) ?_
      refine lv_bipush (v := (45 : Int32)) hx hb0 dX8_readsSigned_25 (by decide) ?_
      refine gx_vi ⟨hx, hb0, hml, hown, hts⟩ (gKM_keep _) hk hK hP hD hS 0 [.int (45 : Int32)] [] (c_X8_takes l dC dI P ad (45 : Int32) h_21 _ he) gm_X8_takes im_yX8_takes se_yX8_takes ml_RX8_185 (by decide) (mE_0 _) rfl rfl rfl ⟨Nat.le_of_ble_eq_true rfl, Nat.le_of_ble_eq_true rfl⟩ rfl hl.1 rfl (Nat.le_of_ble_eq_true rfl) dX8_readsSigned_27 ⟨Nat.zero_le _, Nat.zero_le _⟩ (fun r_28 h_29 he H locs hP hD hS => ?_)
      refine lv_if_ne (tgt := 35) hx hb0 dX8_readsSigned_30 (by decide) (fun c_30 => ?_) (fun c_30 => ?_)
      · have he := he.2 c_30
        refine lv_aload_n hx hb0 dX8_readsSigned_35 rfl (lv_at hl 1 rfl) ?_
        refine gx_vi ⟨hx, hb0, hml, hown, hts⟩ (gKM_keep _) hk hK hP hD hS 0 [] [] (c_X8_readsNumber l dC dI P ad  h_29 _ he) gm_X8_readsNumber im_yX8_readsNumber se_yX8_readsNumber ml_RX8_188 (by decide) (mE_0 _) rfl rfl rfl ⟨Nat.le_of_ble_eq_true rfl, Nat.le_of_ble_eq_true rfl⟩ rfl hl.1 rfl (Nat.le_of_ble_eq_true rfl) dX8_readsSigned_36 ⟨Nat.zero_le _, Nat.zero_le _⟩ (fun r_31 h_32 he H locs hP hD hS => ?_)
        refine lv_istore_n (lv' := [(2, .int r_31), (1, .int (1 : Int32)), (0, .ref (ad 0))]) hx hb0 dX8_readsSigned_39 rfl hl (by decide) rfl (fun ls hl => ?_)
        refine lv_aload_n hx hb0 dX8_readsSigned_40 rfl (lv_at hl 2 rfl) ?_
        refine lv_iload_n hx hb0 dX8_readsSigned_41 rfl (lv_at hl 1 rfl) ?_
        refine lv_if_eq (tgt := 53) hx hb0 dX8_readsSigned_42 (by decide) (fun c_33 => ?_) (fun c_33 => ?_)
        · exact absurd c_33 (by decide)
        · refine lv_aload_n hx hb0 dX8_readsSigned_45 rfl (lv_at hl 2 rfl) ?_
          refine gx_get hx hb0 hts in_RX8 hown hK hP 0 (by decide) (mE_0 _) rfl 10 (by decide) fl_RX8_182 rfl dX8_readsSigned_46 ?_
          refine lv_ineg hx hb0 dX8_readsSigned_49 ?_
          refine lv_goto (tgt := 57) hx hb0 dX8_readsSigned_50 (by decide) ?_
          refine gx_put hx hb0 hts in_RX8 tyX8 tyX8_ok nmX8 hown hK hP hD hS 0 (by decide) mE_0 rfl 10 (by decide) fl_RX8_182 rfl (tyX8_ok 10 (by decide)) (Nat.le_of_ble_eq_true rfl) rfl dX8_readsSigned_57 (fun h_34 eh_34 H locs hP hD hS => ?_)
          have he := he h_34 eh_34
          refine lv_iload_n hx hb0 dX8_readsSigned_60 rfl (lv_at hl 0 rfl) ?_
          obtain ⟨z_35, he⟩ := he
          exact gx_zret hx hb0 hr z_35 hlocks hK hP hD hS he dX8_readsSigned_61
      · have he := he.1 c_30
        refine lv_iconst (v := (0 : Int32)) hx hb0 dX8_readsSigned_33 (by decide) ?_
        exact gx_zret hx hb0 hr (by decide) hlocks hK hP hD hS he dX8_readsSigned_34
theorem gm_X8_readsSigned : gMeth yX8_readsSigned cX8_readsSigned 3 (some .boolean) 0 := ⟨⟨by decide, by decide, by decide +kernel⟩, ini_RX8, co_yX8_readsSigned⟩
abbrev rm_X8_readsDigits : Room := { frames := 2, cells := 0, slots := 0, locals := 44 }
set_option maxHeartbeats 4000000 in
set_option maxRecDepth 100000 in
theorem c_X8_readsDigits (l : Launch) (dC : Nat → ClassId) (dI : Nat → Nat → Nat) (P : gP) (ad : Nat → Nat) (x1 : Int32) (h0 : Hp) (Q : Int32 → Hp → Prop) (he : F_X8_readsDigits x1 h0 Q) : Met l yX8_readsDigits (Cond.code yX8_readsDigits cX8_readsDigits 2 (some .boolean) :: TB) rm_X8_readsDigits (gPc (dC, dI) vwCl (tyC P) 7 (mE P ad) ad gKM h0 [.ref (ad 0), .int x1]) (gQi (dC, dI) vwCl (tyC P) 7 (mE P ad) ad Q) 0 0 (gA 7 ad) := by
  refine gx_start (by decide) (Nat.le_of_ble_eq_true rfl) (fun p e s m below meth c ls hx hb0 hr hlocks hml hown hts hK hk hP hD hS hl => ?_)
  have hl : lv_has ls 2 [(0, .ref (ad 0)), (1, .int x1)] := hl
  have hown : s.vm.findClass RX8 = some m.cls := hown
  unfold F_X8_readsDigits at he
  refine lv_aload_n hx hb0 dX8_readsDigits_0 rfl (lv_at hl 0 rfl) ?_
  refine lv_aload_n hx hb0 dX8_readsDigits_1 rfl (lv_at hl 0 rfl) ?_
  refine gx_vi ⟨hx, hb0, hml, hown, hts⟩ (gKM_keep _) hk hK hP hD hS 0 [] [.ref (ad 0)] (c_X8_takeDigit l dC dI P ad  h0 _ he) gm_X8_takeDigit im_yX8_takeDigit se_yX8_takeDigit ml_RX8_179 (by decide) (mE_0 _) rfl rfl rfl ⟨Nat.le_of_ble_eq_true rfl, Nat.le_of_ble_eq_true rfl⟩ rfl hl.1 rfl (Nat.le_of_ble_eq_true rfl) dX8_readsDigits_2 ⟨Nat.zero_le _, Nat.zero_le _⟩ (fun r_1 h_2 he H locs hP hD hS => ?_)
  refine gx_put hx hb0 hts in_RX8 tyX8 tyX8_ok nmX8 hown hK hP hD hS 0 (by decide) mE_0 rfl 10 (by decide) fl_RX8_182 rfl (tyX8_ok 10 (by decide)) (Nat.le_of_ble_eq_true rfl) rfl dX8_readsDigits_5 (fun h_3 eh_3 H locs hP hD hS => ?_)
  have he := he h_3 eh_3
  refine lv_aload_n hx hb0 dX8_readsDigits_8 rfl (lv_at hl 0 rfl) ?_
  refine lv_aload_n hx hb0 dX8_readsDigits_9 rfl (lv_at hl 0 rfl) ?_
  refine gx_get hx hb0 hts in_RX8 hown hK hP 0 (by decide) (mE_0 _) rfl 10 (by decide) fl_RX8_182 rfl dX8_readsDigits_10 ?_
  refine lv_bipush (v := (-6 : Int32)) hx hb0 dX8_readsDigits_13 (by decide) ?_
  refine lv_icmp_eq (tgt := 29) hx hb0 dX8_readsDigits_15 (by decide) (fun c_4 => ?_) (fun c_4 => ?_)
  · have he := he.1 c_4
    refine lv_aload_n hx hb0 dX8_readsDigits_29 rfl (lv_at hl 0 rfl) ?_
    refine gx_get hx hb0 hts in_RX8 hown hK hP 0 (by decide) (mE_0 _) rfl 10 (by decide) fl_RX8_182 rfl dX8_readsDigits_30 ?_
    refine gx_put hx hb0 hts in_RX8 tyX8 tyX8_ok nmX8 hown hK hP hD hS 0 (by decide) mE_0 rfl 11 (by decide) fl_RX8_192 rfl (tyX8_ok 11 (by decide)) (Nat.le_of_ble_eq_true rfl) rfl dX8_readsDigits_33 (fun h_5 eh_5 H locs hP hD hS => ?_)
    have he := he h_5 eh_5
    refine lv_aload_n hx hb0 dX8_readsDigits_36 rfl (lv_at hl 0 rfl) ?_
    refine gx_get hx hb0 hts in_RX8 hown hK hP 0 (by decide) (mE_0 _) rfl 11 (by decide) fl_RX8_192 rfl dX8_readsDigits_37 ?_
    refine lv_bipush (v := (-6 : Int32)) hx hb0 dX8_readsDigits_40 (by decide) ?_
    refine lv_icmp_eq (tgt := 49) hx hb0 dX8_readsDigits_42 (by decide) (fun c_6 => ?_) (fun c_6 => ?_)
    · have he := he.1 c_6
      refine lv_iconst (v := (0 : Int32)) hx hb0 dX8_readsDigits_49 (by decide) ?_
      exact gx_zret hx hb0 hr (by decide) hlocks hK hP hD hS he dX8_readsDigits_50
    · have he := he.2 c_6
      refine lv_iconst (v := (1 : Int32)) hx hb0 dX8_readsDigits_45 (by decide) ?_
      refine lv_goto (tgt := 50) hx hb0 dX8_readsDigits_46 (by decide) ?_
      exact gx_zret hx hb0 hr (by decide) hlocks hK hP hD hS he dX8_readsDigits_50
  · have he := he.2 c_4
    refine lv_iload_n hx hb0 dX8_readsDigits_18 rfl (lv_at hl 1 rfl) ?_
    refine lv_if_eq (tgt := 29) hx hb0 dX8_readsDigits_19 (by decide) (fun c_7 => ?_) (fun c_7 => ?_)
    · have he := he.1 c_7
      refine lv_aload_n hx hb0 dX8_readsDigits_29 rfl (lv_at hl 0 rfl) ?_
      refine gx_get hx hb0 hts in_RX8 hown hK hP 0 (by decide) (mE_0 _) rfl 10 (by decide) fl_RX8_182 rfl dX8_readsDigits_30 ?_
      refine gx_put hx hb0 hts in_RX8 tyX8 tyX8_ok nmX8 hown hK hP hD hS 0 (by decide) mE_0 rfl 11 (by decide) fl_RX8_192 rfl (tyX8_ok 11 (by decide)) (Nat.le_of_ble_eq_true rfl) rfl dX8_readsDigits_33 (fun h_8 eh_8 H locs hP hD hS => ?_)
      have he := he h_8 eh_8
      refine lv_aload_n hx hb0 dX8_readsDigits_36 rfl (lv_at hl 0 rfl) ?_
      refine gx_get hx hb0 hts in_RX8 hown hK hP 0 (by decide) (mE_0 _) rfl 11 (by decide) fl_RX8_192 rfl dX8_readsDigits_37 ?_
      refine lv_bipush (v := (-6 : Int32)) hx hb0 dX8_readsDigits_40 (by decide) ?_
      refine lv_icmp_eq (tgt := 49) hx hb0 dX8_readsDigits_42 (by decide) (fun c_9 => ?_) (fun c_9 => ?_)
      · have he := he.1 c_9
        refine lv_iconst (v := (0 : Int32)) hx hb0 dX8_readsDigits_49 (by decide) ?_
        exact gx_zret hx hb0 hr (by decide) hlocks hK hP hD hS he dX8_readsDigits_50
      · have he := he.2 c_9
        refine lv_iconst (v := (1 : Int32)) hx hb0 dX8_readsDigits_45 (by decide) ?_
        refine lv_goto (tgt := 50) hx hb0 dX8_readsDigits_46 (by decide) ?_
        exact gx_zret hx hb0 hr (by decide) hlocks hK hP hD hS he dX8_readsDigits_50
    · have he := he.2 c_7
      refine lv_aload_n hx hb0 dX8_readsDigits_22 rfl (lv_at hl 0 rfl) ?_
      refine gx_vi ⟨hx, hb0, hml, hown, hts⟩ (gKM_keep _) hk hK hP hD hS 0 [] [.ref (ad 0)] (c_X8_takeDigit l dC dI P ad  h_3 _ he) gm_X8_takeDigit im_yX8_takeDigit se_yX8_takeDigit ml_RX8_179 (by decide) (mE_0 _) rfl rfl rfl ⟨Nat.le_of_ble_eq_true rfl, Nat.le_of_ble_eq_true rfl⟩ rfl hl.1 rfl (Nat.le_of_ble_eq_true rfl) dX8_readsDigits_23 ⟨Nat.zero_le _, Nat.zero_le _⟩ (fun r_10 h_11 he H locs hP hD hS => ?_)
      refine lv_goto (tgt := 33) hx hb0 dX8_readsDigits_26 (by decide) ?_
      refine gx_put hx hb0 hts in_RX8 tyX8 tyX8_ok nmX8 hown hK hP hD hS 0 (by decide) mE_0 rfl 11 (by decide) fl_RX8_192 rfl (tyX8_ok 11 (by decide)) (Nat.le_of_ble_eq_true rfl) rfl dX8_readsDigits_33 (fun h_12 eh_12 H locs hP hD hS => ?_)
      have he := he h_12 eh_12
      refine lv_aload_n hx hb0 dX8_readsDigits_36 rfl (lv_at hl 0 rfl) ?_
      refine gx_get hx hb0 hts in_RX8 hown hK hP 0 (by decide) (mE_0 _) rfl 11 (by decide) fl_RX8_192 rfl dX8_readsDigits_37 ?_
      refine lv_bipush (v := (-6 : Int32)) hx hb0 dX8_readsDigits_40 (by decide) ?_
      refine lv_icmp_eq (tgt := 49) hx hb0 dX8_readsDigits_42 (by decide) (fun c_13 => ?_) (fun c_13 => ?_)
      · have he := he.1 c_13
        refine lv_iconst (v := (0 : Int32)) hx hb0 dX8_readsDigits_49 (by decide) ?_
        exact gx_zret hx hb0 hr (by decide) hlocks hK hP hD hS he dX8_readsDigits_50
      · have he := he.2 c_13
        refine lv_iconst (v := (1 : Int32)) hx hb0 dX8_readsDigits_45 (by decide) ?_
        refine lv_goto (tgt := 50) hx hb0 dX8_readsDigits_46 (by decide) ?_
        exact gx_zret hx hb0 hr (by decide) hlocks hK hP hD hS he dX8_readsDigits_50
theorem gm_X8_readsDigits : gMeth yX8_readsDigits cX8_readsDigits 2 (some .boolean) 1 := ⟨⟨by decide, by decide, by decide +kernel⟩, ini_RX8, co_yX8_readsDigits⟩
abbrev rm_X8_readsOrder : Room := { frames := 4, cells := 0, slots := 0, locals := 86 }
set_option maxHeartbeats 4000000 in
set_option maxRecDepth 100000 in
theorem c_X8_readsOrder (l : Launch) (dC : Nat → ClassId) (dI : Nat → Nat → Nat) (P : gP) (ad : Nat → Nat) (h0 : Hp) (Q : Int32 → Hp → Prop) (he : F_X8_readsOrder  h0 Q) : Met l yX8_readsOrder (Cond.code yX8_readsOrder cX8_readsOrder 1 (some .boolean) :: TB) rm_X8_readsOrder (gPc (dC, dI) vwCl (tyC P) 7 (mE P ad) ad gKM h0 [.ref (ad 0)]) (gQi (dC, dI) vwCl (tyC P) 7 (mE P ad) ad Q) 0 0 (gA 7 ad) := by
  refine gx_start (by decide) (Nat.le_of_ble_eq_true rfl) (fun p e s m below meth c ls hx hb0 hr hlocks hml hown hts hK hk hP hD hS hl => ?_)
  have hl : lv_has ls 1 [(0, .ref (ad 0))] := hl
  have hown : s.vm.findClass RX8 = some m.cls := hown
  unfold F_X8_readsOrder at he
  refine lv_aload_n hx hb0 dX8_readsOrder_0 rfl (lv_at hl 0 rfl) ?_
  refine lv_aload_n hx hb0 dX8_readsOrder_1 rfl (lv_at hl 0 rfl) ?_
  refine gx_vi ⟨hx, hb0, hml, hown, hts⟩ (gKM_keep _) hk hK hP hD hS 0 [] [.ref (ad 0)] (c_X8_code l dC dI P ad  h0 _ he) gm_X8_code im_yX8_code se_yX8_code ml_RX8_176 (by decide) (mE_0 _) rfl rfl rfl ⟨Nat.le_of_ble_eq_true rfl, Nat.le_of_ble_eq_true rfl⟩ rfl hl.1 rfl (Nat.le_of_ble_eq_true rfl) dX8_readsOrder_2 ⟨Nat.zero_le _, Nat.zero_le _⟩ (fun r_1 h_2 he H locs hP hD hS => ?_)
  refine gx_put hx hb0 hts in_RX8 tyX8 tyX8_ok nmX8 hown hK hP hD hS 0 (by decide) mE_0 rfl 9 (by decide) fl_RX8_195 rfl (tyX8_ok 9 (by decide)) (Nat.le_of_ble_eq_true rfl) rfl dX8_readsOrder_5 (fun h_3 eh_3 H locs hP hD hS => ?_)
  have he := he h_3 eh_3
  refine lv_aload_n hx hb0 dX8_readsOrder_8 rfl (lv_at hl 0 rfl) ?_
  refine gx_get hx hb0 hts in_RX8 hown hK hP 0 (by decide) (mE_0 _) rfl 9 (by decide) fl_RX8_195 rfl dX8_readsOrder_9 ?_
  refine lv_topi (fun x_4 ex_4 => ?_)
  have he := he x_4 ex_4
  by_cases c_5 : x_4 = 42
  · have he := he.1 c_5
    refine lv_lookup (off := 76) (tgt := 88) hx hb0 dX8_readsOrder_12 (by decide) (by rw [c_5]; rfl) (by decide) ?_
    refine lv_aload_n hx hb0 dX8_readsOrder_88 rfl (lv_at hl 0 rfl) ?_
    refine lv_dup hx hb0 dX8_readsOrder_89 rfl ?_
    refine gx_get hx hb0 hts in_RX8 hown hK hP 0 (by decide) (mE_0 _) rfl 8 (by decide) fl_RX8_173 rfl dX8_readsOrder_90 ?_
    refine lv_iconst (v := (1 : Int32)) hx hb0 dX8_readsOrder_93 (by decide) ?_
    refine lv_iadd hx hb0 dX8_readsOrder_94 ?_
    refine gx_put hx hb0 hts in_RX8 tyX8 tyX8_ok nmX8 hown hK hP hD hS 0 (by decide) mE_0 rfl 8 (by decide) fl_RX8_173 rfl (tyX8_ok 8 (by decide)) (Nat.le_of_ble_eq_true rfl) rfl dX8_readsOrder_95 (fun h_6 eh_6 H locs hP hD hS => ?_)
    have he := he h_6 eh_6
    refine lv_aload_n hx hb0 dX8_readsOrder_98 rfl (lv_at hl 0 rfl) ?_
    refine gx_vi ⟨hx, hb0, hml, hown, hts⟩ (gKM_keep _) hk hK hP hD hS 0 [] [] (c_X8_readsSigned l dC dI P ad  h_6 _ he) gm_X8_readsSigned im_yX8_readsSigned se_yX8_readsSigned ml_RX8_198 (by decide) (mE_0 _) rfl rfl rfl ⟨Nat.le_of_ble_eq_true rfl, Nat.le_of_ble_eq_true rfl⟩ rfl hl.1 rfl (Nat.le_of_ble_eq_true rfl) dX8_readsOrder_99 ⟨Nat.zero_le _, Nat.zero_le _⟩ (fun r_7 h_8 he H locs hP hD hS => ?_)
    obtain ⟨z_9, he⟩ := he
    exact gx_zret hx hb0 hr z_9 hlocks hK hP hD hS he dX8_readsOrder_102
  have he := he.2 c_5
  by_cases c_10 : x_4 = 99
  · have he := he.1 c_10
    refine lv_lookup (off := 91) (tgt := 103) hx hb0 dX8_readsOrder_12 (by decide) (by rw [c_10]; rfl) (by decide) ?_
    refine lv_aload_n hx hb0 dX8_readsOrder_103 rfl (lv_at hl 0 rfl) ?_
    refine lv_dup hx hb0 dX8_readsOrder_104 rfl ?_
    refine gx_get hx hb0 hts in_RX8 hown hK hP 0 (by decide) (mE_0 _) rfl 8 (by decide) fl_RX8_173 rfl dX8_readsOrder_105 ?_
    refine lv_iconst (v := (1 : Int32)) hx hb0 dX8_readsOrder_108 (by decide) ?_
    refine lv_iadd hx hb0 dX8_readsOrder_109 ?_
    refine gx_put hx hb0 hts in_RX8 tyX8 tyX8_ok nmX8 hown hK hP hD hS 0 (by decide) mE_0 rfl 8 (by decide) fl_RX8_173 rfl (tyX8_ok 8 (by decide)) (Nat.le_of_ble_eq_true rfl) rfl dX8_readsOrder_110 (fun h_11 eh_11 H locs hP hD hS => ?_)
    have he := he h_11 eh_11
    refine lv_aload_n hx hb0 dX8_readsOrder_113 rfl (lv_at hl 0 rfl) ?_
    refine lv_aload_n hx hb0 dX8_readsOrder_114 rfl (lv_at hl 0 rfl) ?_
    refine gx_get hx hb0 hts in_RX8 hown hK hP 0 (by decide) (mE_0 _) rfl 9 (by decide) fl_RX8_195 rfl dX8_readsOrder_115 ?_
    refine lv_bipush (v := (111 : Int32)) hx hb0 dX8_readsOrder_118 (by decide) ?_
    refine lv_icmp_ne (tgt := 127) hx hb0 dX8_readsOrder_120 (by decide) (fun c_12 => ?_) (fun c_12 => ?_)
    · have he := he.2 c_12
      refine lv_iconst (v := (0 : Int32)) hx hb0 dX8_readsOrder_127 (by decide) ?_
      refine gx_vi ⟨hx, hb0, hml, hown, hts⟩ (gKM_keep _) hk hK hP hD hS 0 [.int (0 : Int32)] [] (c_X8_readsDigits l dC dI P ad (0 : Int32) h_11 _ he) gm_X8_readsDigits im_yX8_readsDigits se_yX8_readsDigits ml_RX8_201 (by decide) (mE_0 _) rfl rfl rfl ⟨Nat.le_of_ble_eq_true rfl, Nat.le_of_ble_eq_true rfl⟩ rfl hl.1 rfl (Nat.le_of_ble_eq_true rfl) dX8_readsOrder_128 ⟨Nat.zero_le _, Nat.zero_le _⟩ (fun r_13 h_14 he H locs hP hD hS => ?_)
      obtain ⟨z_15, he⟩ := he
      exact gx_zret hx hb0 hr z_15 hlocks hK hP hD hS he dX8_readsOrder_131
    · have he := he.1 c_12
      refine lv_iconst (v := (1 : Int32)) hx hb0 dX8_readsOrder_123 (by decide) ?_
      refine lv_goto (tgt := 128) hx hb0 dX8_readsOrder_124 (by decide) ?_
      refine gx_vi ⟨hx, hb0, hml, hown, hts⟩ (gKM_keep _) hk hK hP hD hS 0 [.int (1 : Int32)] [] (c_X8_readsDigits l dC dI P ad (1 : Int32) h_11 _ he) gm_X8_readsDigits im_yX8_readsDigits se_yX8_readsDigits ml_RX8_201 (by decide) (mE_0 _) rfl rfl rfl ⟨Nat.le_of_ble_eq_true rfl, Nat.le_of_ble_eq_true rfl⟩ rfl hl.1 rfl (Nat.le_of_ble_eq_true rfl) dX8_readsOrder_128 ⟨Nat.zero_le _, Nat.zero_le _⟩ (fun r_16 h_17 he H locs hP hD hS => ?_)
      obtain ⟨z_18, he⟩ := he
      exact gx_zret hx hb0 hr z_18 hlocks hK hP hD hS he dX8_readsOrder_131
  have he := he.2 c_10
  by_cases c_19 : x_4 = 103
  · have he := he.1 c_19
    refine lv_lookup (off := 76) (tgt := 88) hx hb0 dX8_readsOrder_12 (by decide) (by rw [c_19]; rfl) (by decide) ?_
    refine lv_aload_n hx hb0 dX8_readsOrder_88 rfl (lv_at hl 0 rfl) ?_
    refine lv_dup hx hb0 dX8_readsOrder_89 rfl ?_
    refine gx_get hx hb0 hts in_RX8 hown hK hP 0 (by decide) (mE_0 _) rfl 8 (by decide) fl_RX8_173 rfl dX8_readsOrder_90 ?_
    refine lv_iconst (v := (1 : Int32)) hx hb0 dX8_readsOrder_93 (by decide) ?_
    refine lv_iadd hx hb0 dX8_readsOrder_94 ?_
    refine gx_put hx hb0 hts in_RX8 tyX8 tyX8_ok nmX8 hown hK hP hD hS 0 (by decide) mE_0 rfl 8 (by decide) fl_RX8_173 rfl (tyX8_ok 8 (by decide)) (Nat.le_of_ble_eq_true rfl) rfl dX8_readsOrder_95 (fun h_20 eh_20 H locs hP hD hS => ?_)
    have he := he h_20 eh_20
    refine lv_aload_n hx hb0 dX8_readsOrder_98 rfl (lv_at hl 0 rfl) ?_
    refine gx_vi ⟨hx, hb0, hml, hown, hts⟩ (gKM_keep _) hk hK hP hD hS 0 [] [] (c_X8_readsSigned l dC dI P ad  h_20 _ he) gm_X8_readsSigned im_yX8_readsSigned se_yX8_readsSigned ml_RX8_198 (by decide) (mE_0 _) rfl rfl rfl ⟨Nat.le_of_ble_eq_true rfl, Nat.le_of_ble_eq_true rfl⟩ rfl hl.1 rfl (Nat.le_of_ble_eq_true rfl) dX8_readsOrder_99 ⟨Nat.zero_le _, Nat.zero_le _⟩ (fun r_21 h_22 he H locs hP hD hS => ?_)
    obtain ⟨z_23, he⟩ := he
    exact gx_zret hx hb0 hr z_23 hlocks hK hP hD hS he dX8_readsOrder_102
  have he := he.2 c_19
  by_cases c_24 : x_4 = 109
  · have he := he.1 c_24
    refine lv_lookup (off := 135) (tgt := 147) hx hb0 dX8_readsOrder_12 (by decide) (by rw [c_24]; rfl) (by decide) ?_
    refine lv_aload_n hx hb0 dX8_readsOrder_147 rfl (lv_at hl 0 rfl) ?_
    refine lv_dup hx hb0 dX8_readsOrder_148 rfl ?_
    refine gx_get hx hb0 hts in_RX8 hown hK hP 0 (by decide) (mE_0 _) rfl 8 (by decide) fl_RX8_173 rfl dX8_readsOrder_149 ?_
    refine lv_iconst (v := (1 : Int32)) hx hb0 dX8_readsOrder_152 (by decide) ?_
    refine lv_iadd hx hb0 dX8_readsOrder_153 ?_
    refine gx_put hx hb0 hts in_RX8 tyX8 tyX8_ok nmX8 hown hK hP hD hS 0 (by decide) mE_0 rfl 8 (by decide) fl_RX8_173 rfl (tyX8_ok 8 (by decide)) (Nat.le_of_ble_eq_true rfl) rfl dX8_readsOrder_154 (fun h_25 eh_25 H locs hP hD hS => ?_)
    have he := he h_25 eh_25
    refine lv_iconst (v := (1 : Int32)) hx hb0 dX8_readsOrder_157 (by decide) ?_
    exact gx_zret hx hb0 hr (by decide) hlocks hK hP hD hS he dX8_readsOrder_158
  have he := he.2 c_24
  by_cases c_26 : x_4 = 110
  · have he := he.1 c_26
    refine lv_lookup (off := 135) (tgt := 147) hx hb0 dX8_readsOrder_12 (by decide) (by rw [c_26]; rfl) (by decide) ?_
    refine lv_aload_n hx hb0 dX8_readsOrder_147 rfl (lv_at hl 0 rfl) ?_
    refine lv_dup hx hb0 dX8_readsOrder_148 rfl ?_
    refine gx_get hx hb0 hts in_RX8 hown hK hP 0 (by decide) (mE_0 _) rfl 8 (by decide) fl_RX8_173 rfl dX8_readsOrder_149 ?_
    refine lv_iconst (v := (1 : Int32)) hx hb0 dX8_readsOrder_152 (by decide) ?_
    refine lv_iadd hx hb0 dX8_readsOrder_153 ?_
    refine gx_put hx hb0 hts in_RX8 tyX8 tyX8_ok nmX8 hown hK hP hD hS 0 (by decide) mE_0 rfl 8 (by decide) fl_RX8_173 rfl (tyX8_ok 8 (by decide)) (Nat.le_of_ble_eq_true rfl) rfl dX8_readsOrder_154 (fun h_27 eh_27 H locs hP hD hS => ?_)
    have he := he h_27 eh_27
    refine lv_iconst (v := (1 : Int32)) hx hb0 dX8_readsOrder_157 (by decide) ?_
    exact gx_zret hx hb0 hr (by decide) hlocks hK hP hD hS he dX8_readsOrder_158
  have he := he.2 c_26
  by_cases c_28 : x_4 = 111
  · have he := he.1 c_28
    refine lv_lookup (off := 91) (tgt := 103) hx hb0 dX8_readsOrder_12 (by decide) (by rw [c_28]; rfl) (by decide) ?_
    refine lv_aload_n hx hb0 dX8_readsOrder_103 rfl (lv_at hl 0 rfl) ?_
    refine lv_dup hx hb0 dX8_readsOrder_104 rfl ?_
    refine gx_get hx hb0 hts in_RX8 hown hK hP 0 (by decide) (mE_0 _) rfl 8 (by decide) fl_RX8_173 rfl dX8_readsOrder_105 ?_
    refine lv_iconst (v := (1 : Int32)) hx hb0 dX8_readsOrder_108 (by decide) ?_
    refine lv_iadd hx hb0 dX8_readsOrder_109 ?_
    refine gx_put hx hb0 hts in_RX8 tyX8 tyX8_ok nmX8 hown hK hP hD hS 0 (by decide) mE_0 rfl 8 (by decide) fl_RX8_173 rfl (tyX8_ok 8 (by decide)) (Nat.le_of_ble_eq_true rfl) rfl dX8_readsOrder_110 (fun h_29 eh_29 H locs hP hD hS => ?_)
    have he := he h_29 eh_29
    refine lv_aload_n hx hb0 dX8_readsOrder_113 rfl (lv_at hl 0 rfl) ?_
    refine lv_aload_n hx hb0 dX8_readsOrder_114 rfl (lv_at hl 0 rfl) ?_
    refine gx_get hx hb0 hts in_RX8 hown hK hP 0 (by decide) (mE_0 _) rfl 9 (by decide) fl_RX8_195 rfl dX8_readsOrder_115 ?_
    refine lv_bipush (v := (111 : Int32)) hx hb0 dX8_readsOrder_118 (by decide) ?_
    refine lv_icmp_ne (tgt := 127) hx hb0 dX8_readsOrder_120 (by decide) (fun c_30 => ?_) (fun c_30 => ?_)
    · have he := he.2 c_30
      refine lv_iconst (v := (0 : Int32)) hx hb0 dX8_readsOrder_127 (by decide) ?_
      refine gx_vi ⟨hx, hb0, hml, hown, hts⟩ (gKM_keep _) hk hK hP hD hS 0 [.int (0 : Int32)] [] (c_X8_readsDigits l dC dI P ad (0 : Int32) h_29 _ he) gm_X8_readsDigits im_yX8_readsDigits se_yX8_readsDigits ml_RX8_201 (by decide) (mE_0 _) rfl rfl rfl ⟨Nat.le_of_ble_eq_true rfl, Nat.le_of_ble_eq_true rfl⟩ rfl hl.1 rfl (Nat.le_of_ble_eq_true rfl) dX8_readsOrder_128 ⟨Nat.zero_le _, Nat.zero_le _⟩ (fun r_31 h_32 he H locs hP hD hS => ?_)
      obtain ⟨z_33, he⟩ := he
      exact gx_zret hx hb0 hr z_33 hlocks hK hP hD hS he dX8_readsOrder_131
    · have he := he.1 c_30
      refine lv_iconst (v := (1 : Int32)) hx hb0 dX8_readsOrder_123 (by decide) ?_
      refine lv_goto (tgt := 128) hx hb0 dX8_readsOrder_124 (by decide) ?_
      refine gx_vi ⟨hx, hb0, hml, hown, hts⟩ (gKM_keep _) hk hK hP hD hS 0 [.int (1 : Int32)] [] (c_X8_readsDigits l dC dI P ad (1 : Int32) h_29 _ he) gm_X8_readsDigits im_yX8_readsDigits se_yX8_readsDigits ml_RX8_201 (by decide) (mE_0 _) rfl rfl rfl ⟨Nat.le_of_ble_eq_true rfl, Nat.le_of_ble_eq_true rfl⟩ rfl hl.1 rfl (Nat.le_of_ble_eq_true rfl) dX8_readsOrder_128 ⟨Nat.zero_le _, Nat.zero_le _⟩ (fun r_34 h_35 he H locs hP hD hS => ?_)
      obtain ⟨z_36, he⟩ := he
      exact gx_zret hx hb0 hr z_36 hlocks hK hP hD hS he dX8_readsOrder_131
  have he := he.2 c_28
  by_cases c_37 : x_4 = 115
  · have he := he.1 c_37
    refine lv_lookup (off := 120) (tgt := 132) hx hb0 dX8_readsOrder_12 (by decide) (by rw [c_37]; rfl) (by decide) ?_
    refine lv_aload_n hx hb0 dX8_readsOrder_132 rfl (lv_at hl 0 rfl) ?_
    refine lv_dup hx hb0 dX8_readsOrder_133 rfl ?_
    refine gx_get hx hb0 hts in_RX8 hown hK hP 0 (by decide) (mE_0 _) rfl 8 (by decide) fl_RX8_173 rfl dX8_readsOrder_134 ?_
    refine lv_iconst (v := (1 : Int32)) hx hb0 dX8_readsOrder_137 (by decide) ?_
    refine lv_iadd hx hb0 dX8_readsOrder_138 ?_
    refine gx_put hx hb0 hts in_RX8 tyX8 tyX8_ok nmX8 hown hK hP hD hS 0 (by decide) mE_0 rfl 8 (by decide) fl_RX8_173 rfl (tyX8_ok 8 (by decide)) (Nat.le_of_ble_eq_true rfl) rfl dX8_readsOrder_139 (fun h_38 eh_38 H locs hP hD hS => ?_)
    have he := he h_38 eh_38
    refine lv_aload_n hx hb0 dX8_readsOrder_142 rfl (lv_at hl 0 rfl) ?_
    refine gx_vi ⟨hx, hb0, hml, hown, hts⟩ (gKM_keep _) hk hK hP hD hS 0 [] [] (c_X8_readsNumber l dC dI P ad  h_38 _ he) gm_X8_readsNumber im_yX8_readsNumber se_yX8_readsNumber ml_RX8_188 (by decide) (mE_0 _) rfl rfl rfl ⟨Nat.le_of_ble_eq_true rfl, Nat.le_of_ble_eq_true rfl⟩ rfl hl.1 rfl (Nat.le_of_ble_eq_true rfl) dX8_readsOrder_143 ⟨Nat.zero_le _, Nat.zero_le _⟩ (fun r_39 h_40 he H locs hP hD hS => ?_)
    obtain ⟨z_41, he⟩ := he
    exact gx_zret hx hb0 hr z_41 hlocks hK hP hD hS he dX8_readsOrder_146
  have he := he.2 c_37
  by_cases c_42 : x_4 = 122
  · have he := he.1 c_42
    refine lv_lookup (off := 91) (tgt := 103) hx hb0 dX8_readsOrder_12 (by decide) (by rw [c_42]; rfl) (by decide) ?_
    refine lv_aload_n hx hb0 dX8_readsOrder_103 rfl (lv_at hl 0 rfl) ?_
    refine lv_dup hx hb0 dX8_readsOrder_104 rfl ?_
    refine gx_get hx hb0 hts in_RX8 hown hK hP 0 (by decide) (mE_0 _) rfl 8 (by decide) fl_RX8_173 rfl dX8_readsOrder_105 ?_
    refine lv_iconst (v := (1 : Int32)) hx hb0 dX8_readsOrder_108 (by decide) ?_
    refine lv_iadd hx hb0 dX8_readsOrder_109 ?_
    refine gx_put hx hb0 hts in_RX8 tyX8 tyX8_ok nmX8 hown hK hP hD hS 0 (by decide) mE_0 rfl 8 (by decide) fl_RX8_173 rfl (tyX8_ok 8 (by decide)) (Nat.le_of_ble_eq_true rfl) rfl dX8_readsOrder_110 (fun h_43 eh_43 H locs hP hD hS => ?_)
    have he := he h_43 eh_43
    refine lv_aload_n hx hb0 dX8_readsOrder_113 rfl (lv_at hl 0 rfl) ?_
    refine lv_aload_n hx hb0 dX8_readsOrder_114 rfl (lv_at hl 0 rfl) ?_
    refine gx_get hx hb0 hts in_RX8 hown hK hP 0 (by decide) (mE_0 _) rfl 9 (by decide) fl_RX8_195 rfl dX8_readsOrder_115 ?_
    refine lv_bipush (v := (111 : Int32)) hx hb0 dX8_readsOrder_118 (by decide) ?_
    refine lv_icmp_ne (tgt := 127) hx hb0 dX8_readsOrder_120 (by decide) (fun c_44 => ?_) (fun c_44 => ?_)
    · have he := he.2 c_44
      refine lv_iconst (v := (0 : Int32)) hx hb0 dX8_readsOrder_127 (by decide) ?_
      refine gx_vi ⟨hx, hb0, hml, hown, hts⟩ (gKM_keep _) hk hK hP hD hS 0 [.int (0 : Int32)] [] (c_X8_readsDigits l dC dI P ad (0 : Int32) h_43 _ he) gm_X8_readsDigits im_yX8_readsDigits se_yX8_readsDigits ml_RX8_201 (by decide) (mE_0 _) rfl rfl rfl ⟨Nat.le_of_ble_eq_true rfl, Nat.le_of_ble_eq_true rfl⟩ rfl hl.1 rfl (Nat.le_of_ble_eq_true rfl) dX8_readsOrder_128 ⟨Nat.zero_le _, Nat.zero_le _⟩ (fun r_45 h_46 he H locs hP hD hS => ?_)
      obtain ⟨z_47, he⟩ := he
      exact gx_zret hx hb0 hr z_47 hlocks hK hP hD hS he dX8_readsOrder_131
    · have he := he.1 c_44
      refine lv_iconst (v := (1 : Int32)) hx hb0 dX8_readsOrder_123 (by decide) ?_
      refine lv_goto (tgt := 128) hx hb0 dX8_readsOrder_124 (by decide) ?_
      refine gx_vi ⟨hx, hb0, hml, hown, hts⟩ (gKM_keep _) hk hK hP hD hS 0 [.int (1 : Int32)] [] (c_X8_readsDigits l dC dI P ad (1 : Int32) h_43 _ he) gm_X8_readsDigits im_yX8_readsDigits se_yX8_readsDigits ml_RX8_201 (by decide) (mE_0 _) rfl rfl rfl ⟨Nat.le_of_ble_eq_true rfl, Nat.le_of_ble_eq_true rfl⟩ rfl hl.1 rfl (Nat.le_of_ble_eq_true rfl) dX8_readsOrder_128 ⟨Nat.zero_le _, Nat.zero_le _⟩ (fun r_48 h_49 he H locs hP hD hS => ?_)
      obtain ⟨z_50, he⟩ := he
      exact gx_zret hx hb0 hr z_50 hlocks hK hP hD hS he dX8_readsOrder_131
  have he := he.2 c_42
  refine lv_lookup (off := 147) (tgt := 159) hx hb0 dX8_readsOrder_12 (by decide) ((lv_osw c_5 rfl).trans ((lv_osw c_10 rfl).trans ((lv_osw c_19 rfl).trans ((lv_osw c_24 rfl).trans ((lv_osw c_26 rfl).trans ((lv_osw c_28 rfl).trans ((lv_osw c_37 rfl).trans ((lv_osw c_42 rfl).trans rfl)))))))) (by decide) ?_
  refine lv_iconst (v := (0 : Int32)) hx hb0 dX8_readsOrder_159 (by decide) ?_
  exact gx_zret hx hb0 hr (by decide) hlocks hK hP hD hS he dX8_readsOrder_160
theorem gm_X8_readsOrder : gMeth yX8_readsOrder cX8_readsOrder 1 (some .boolean) 0 := ⟨⟨by decide, by decide, by decide +kernel⟩, ini_RX8, co_yX8_readsOrder⟩
abbrev rm_X8_findFault : Room := { frames := 5, cells := 0, slots := 0, locals := 106 }
set_option maxHeartbeats 4000000 in
set_option maxRecDepth 100000 in
theorem l_X8_findFault_5 (l : Launch) (dC : Nat → ClassId) (dI : Nat → Nat → Nat) (P : gP) (ad : Nat → Nat) {p : Program} {e : Env} {s : State} {m : MethodId} {args : Array Value} {below : List Frame} {meth : Method} {c : Code} (hx : p.tables.exec = Jvm.exec) (hb0 : c.code = cX8_findFault) (hr : meth.sig.returnType = (some .int)) (hlocks : meth.locks = false) (hml : c.maxLocals = 1) (hown : s.vm.findClass RX8 = some m.cls) (hts : ∀ w ∈ TB, w.before args s = true) (hK : va_K (dC, dI) vwCl (tyC P) s) (hk : gKM s) (Q : Int32 → Hp → Prop) : ∀ (n : Nat) (h0 : Hp), F_X8_findFault_L5  n h0 Q → ∀ (H : Heap) (locs : List Loc) (ls : Array Slot), va_P (dC, dI) vwCl (gW 7 (mE P ad) ad h0) H → va_D (gA 7 ad) (gW 7 (mE P ad) ad h0) → va_S (gA 7 ad) s.heap H locs → lv_has ls 1 [(0, .ref (ad 0))] → W p l e rm_X8_findFault s m args below meth c H locs 0 0 (MQ below (gQi (dC, dI) vwCl (tyC P) 7 (mE P ad) ad Q) args s 0 0 (gA 7 ad)) (F0 m 5 ls []) := by
  intro n
  induction n with
  | zero =>
    intro  h0 he
    exact he.elim
  | succ n ih =>
    intro  h0 he H locs ls hP hD hS hl
    rw [F_X8_findFault_L5] at he
    refine lv_aload_n hx hb0 dX8_findFault_5 rfl (lv_at hl 0 rfl) ?_
    refine gx_vi ⟨hx, hb0, hml, hown, hts⟩ (gKM_keep _) hk hK hP hD hS 0 [] [] (c_X8_readsOrder l dC dI P ad  h0 _ he) gm_X8_readsOrder im_yX8_readsOrder se_yX8_readsOrder ml_RX8_205 (by decide) (mE_0 _) rfl rfl rfl ⟨Nat.le_of_ble_eq_true rfl, Nat.le_of_ble_eq_true rfl⟩ rfl hl.1 rfl (Nat.le_of_ble_eq_true rfl) dX8_findFault_6 ⟨Nat.zero_le _, Nat.zero_le _⟩ (fun r_2 h_3 he H locs hP hD hS => ?_)
    refine lv_if_eq (tgt := 40) hx hb0 dX8_findFault_9 (by decide) (fun c_4 => ?_) (fun c_4 => ?_)
    · have he := he.1 c_4
      refine lv_aload_n hx hb0 dX8_findFault_40 rfl (lv_at hl 0 rfl) ?_
      refine gx_get hx hb0 hts in_RX8 hown hK hP 0 (by decide) (mE_0 _) rfl 8 (by decide) fl_RX8_173 rfl dX8_findFault_41 ?_
      exact gx_iret hx hb0 hr hlocks hK hP hD hS he dX8_findFault_44
    · have he := he.2 c_4
      refine lv_aload_n hx hb0 dX8_findFault_12 rfl (lv_at hl 0 rfl) ?_
      refine gx_get hx hb0 hts in_RX8 hown hK hP 0 (by decide) (mE_0 _) rfl 8 (by decide) fl_RX8_173 rfl dX8_findFault_13 ?_
      refine lv_aload_n hx hb0 dX8_findFault_16 rfl (lv_at hl 0 rfl) ?_
      refine gx_get hx hb0 hts in_RX8 hown hK hP 0 (by decide) (mE_0 _) rfl 7 (by decide) fl_RX8_158 rfl dX8_findFault_17 ?_
      refine lv_icmp_ne (tgt := 26) hx hb0 dX8_findFault_20 (by decide) (fun c_5 => ?_) (fun c_5 => ?_)
      · have he := he.2 c_5
        refine lv_aload_n hx hb0 dX8_findFault_26 rfl (lv_at hl 0 rfl) ?_
        refine lv_bipush (v := (59 : Int32)) hx hb0 dX8_findFault_27 (by decide) ?_
        refine gx_vi ⟨hx, hb0, hml, hown, hts⟩ (gKM_keep _) hk hK hP hD hS 0 [.int (59 : Int32)] [] (c_X8_takes l dC dI P ad (59 : Int32) h_3 _ he) gm_X8_takes im_yX8_takes se_yX8_takes ml_RX8_185 (by decide) (mE_0 _) rfl rfl rfl ⟨Nat.le_of_ble_eq_true rfl, Nat.le_of_ble_eq_true rfl⟩ rfl hl.1 rfl (Nat.le_of_ble_eq_true rfl) dX8_findFault_29 ⟨Nat.zero_le _, Nat.zero_le _⟩ (fun r_6 h_7 he H locs hP hD hS => ?_)
        refine lv_if_ne (tgt := 5) hx hb0 dX8_findFault_32 (by decide) (fun c_8 => ?_) (fun c_8 => ?_)
        · have he := he.2 c_8
          exact ih  h_7 he _ _ ls hP hD hS (lv_sub hl [0] rfl)
        · have he := he.1 c_8
          refine lv_aload_n hx hb0 dX8_findFault_35 rfl (lv_at hl 0 rfl) ?_
          refine gx_get hx hb0 hts in_RX8 hown hK hP 0 (by decide) (mE_0 _) rfl 8 (by decide) fl_RX8_173 rfl dX8_findFault_36 ?_
          exact gx_iret hx hb0 hr hlocks hK hP hD hS he dX8_findFault_39
      · have he := he.1 c_5
        refine lv_bipush (v := (-6 : Int32)) hx hb0 dX8_findFault_23 (by decide) ?_
        exact gx_iret hx hb0 hr hlocks hK hP hD hS he dX8_findFault_25
set_option maxHeartbeats 4000000 in
set_option maxRecDepth 100000 in
theorem c_X8_findFault (l : Launch) (dC : Nat → ClassId) (dI : Nat → Nat → Nat) (P : gP) (ad : Nat → Nat) (h0 : Hp) (Q : Int32 → Hp → Prop) (he : F_X8_findFault  h0 Q) : Met l yX8_findFault (Cond.code yX8_findFault cX8_findFault 1 (some .int) :: TB) rm_X8_findFault (gPc (dC, dI) vwCl (tyC P) 7 (mE P ad) ad gKM h0 [.ref (ad 0)]) (gQi (dC, dI) vwCl (tyC P) 7 (mE P ad) ad Q) 0 0 (gA 7 ad) := by
  refine gx_start (by decide) (Nat.le_of_ble_eq_true rfl) (fun p e s m below meth c ls hx hb0 hr hlocks hml hown hts hK hk hP hD hS hl => ?_)
  have hl : lv_has ls 1 [(0, .ref (ad 0))] := hl
  have hown : s.vm.findClass RX8 = some m.cls := hown
  unfold F_X8_findFault at he
  refine lv_aload_n hx hb0 dX8_findFault_0 rfl (lv_at hl 0 rfl) ?_
  refine lv_iconst (v := (0 : Int32)) hx hb0 dX8_findFault_1 (by decide) ?_
  refine gx_put hx hb0 hts in_RX8 tyX8 tyX8_ok nmX8 hown hK hP hD hS 0 (by decide) mE_0 rfl 8 (by decide) fl_RX8_173 rfl (tyX8_ok 8 (by decide)) (Nat.le_of_ble_eq_true rfl) rfl dX8_findFault_2 (fun h_1 eh_1 H locs hP hD hS => ?_)
  have he := he h_1 eh_1
  obtain ⟨n_9, he⟩ := he
  exact l_X8_findFault_5 l dC dI P ad  hx hb0 hr hlocks hml hown hts hK hk Q n_9  h_1 he _ _ ls hP hD hS (lv_sub hl [0] rfl)
theorem gm_X8_findFault : gMeth yX8_findFault cX8_findFault 1 (some .int) 0 := ⟨⟨by decide, by decide, by decide +kernel⟩, ini_RX8, co_yX8_findFault⟩
abbrev rm_X8_fault : Room := { frames := 6, cells := 0, slots := 0, locals := 126 }
set_option maxHeartbeats 4000000 in
set_option maxRecDepth 100000 in
theorem c_X8_fault (l : Launch) (dC : Nat → ClassId) (dI : Nat → Nat → Nat) (P : gP) (ad : Nat → Nat) (h0 : Hp) (Q : Int32 → Hp → Prop) (he : F_X8_fault  h0 Q) : Met l yX8_fault (Cond.code yX8_fault cX8_fault 1 (some .int) :: TB) rm_X8_fault (gPc (dC, dI) vwCl (tyC P) 7 (mE P ad) ad gKM h0 [.ref (ad 0)]) (gQi (dC, dI) vwCl (tyC P) 7 (mE P ad) ad Q) 0 0 (gA 7 ad) := by
  refine gx_start (by decide) (Nat.le_of_ble_eq_true rfl) (fun p e s m below meth c ls hx hb0 hr hlocks hml hown hts hK hk hP hD hS hl => ?_)
  have hl : lv_has ls 1 [(0, .ref (ad 0))] := hl
  have hown : s.vm.findClass RX8 = some m.cls := hown
  unfold F_X8_fault at he
  refine lv_aload_n hx hb0 dX8_fault_0 rfl (lv_at hl 0 rfl) ?_
  refine gx_vi ⟨hx, hb0, hml, hown, hts⟩ (gKM_keep _) hk hK hP hD hS 0 [] [] (c_X8_findFault l dC dI P ad  h0 _ he) gm_X8_findFault im_yX8_findFault se_yX8_findFault ml_RX8_208 (by decide) (mE_0 _) rfl rfl rfl ⟨Nat.le_of_ble_eq_true rfl, Nat.le_of_ble_eq_true rfl⟩ rfl hl.1 rfl (Nat.le_of_ble_eq_true rfl) dX8_fault_1 ⟨Nat.zero_le _, Nat.zero_le _⟩ (fun r_1 h_2 he H locs hP hD hS => ?_)
  exact gx_iret hx hb0 hr hlocks hK hP hD hS he dX8_fault_4
theorem gm_X8_fault : gMeth yX8_fault cX8_fault 1 (some .int) 0 := ⟨⟨by decide, by decide, by decide +kernel⟩, ini_RX8, co_yX8_fault⟩
abbrev rm_X8_doesOrder : Room := { frames := 5, cells := 0, slots := 0, locals := 116 }
set_option maxHeartbeats 4000000 in
set_option maxRecDepth 100000 in
theorem c_X8_doesOrder (l : Launch) (dC : Nat → ClassId) (dI : Nat → Nat → Nat) (P : gP) (ad : Nat → Nat) (h0 : Hp) (Q : Int32 → Hp → Prop) (he : F_X8_doesOrder  h0 Q) : Met l yX8_doesOrder (Cond.code yX8_doesOrder cX8_doesOrder 1 (some .int) :: TB) rm_X8_doesOrder (gPc (dC, dI) vwCl (tyC P) 7 (mE P ad) ad gKM h0 [.ref (ad 0)]) (gQi (dC, dI) vwCl (tyC P) 7 (mE P ad) ad Q) 0 0 (gA 7 ad) := by
  refine gx_start (by decide) (Nat.le_of_ble_eq_true rfl) (fun p e s m below meth c ls hx hb0 hr hlocks hml hown hts hK hk hP hD hS hl => ?_)
  have hl : lv_has ls 1 [(0, .ref (ad 0))] := hl
  have hown : s.vm.findClass RX8 = some m.cls := hown
  unfold F_X8_doesOrder at he
  refine lv_aload_n hx hb0 dX8_doesOrder_0 rfl (lv_at hl 0 rfl) ?_
  refine gx_get hx hb0 hts in_RX8 hown hK hP 0 (by decide) (mE_0 _) rfl 9 (by decide) fl_RX8_195 rfl dX8_doesOrder_1 ?_
  refine lv_topi (fun x_1 ex_1 => ?_)
  have he := he x_1 ex_1
  by_cases c_2 : x_1 = 42
  · have he := he.1 c_2
    refine lv_lookup (off := 68) (tgt := 72) hx hb0 dX8_doesOrder_4 (by decide) (by rw [c_2]; rfl) (by decide) ?_
    refine lv_aload_n hx hb0 dX8_doesOrder_72 rfl (lv_at hl 0 rfl) ?_
    refine lv_aload_n hx hb0 dX8_doesOrder_73 rfl (lv_at hl 0 rfl) ?_
    refine gx_get hx hb0 hts in_RX8 hown hK hP 0 (by decide) (mE_0 _) rfl 10 (by decide) fl_RX8_182 rfl dX8_doesOrder_74 ?_
    refine gx_vi ⟨hx, hb0, hml, hown, hts⟩ (gKM_keep _) hk hK hP hD hS 0 [.int (h0 0 10)] [] (c_X8_comes l dC dI P ad (h0 0 10) h0 _ he) gm_X8_comes im_yX8_comes se_yX8_comes ml_RX8_118 (by decide) (mE_0 _) rfl rfl rfl ⟨Nat.le_of_ble_eq_true rfl, Nat.le_of_ble_eq_true rfl⟩ rfl hl.1 rfl (Nat.le_of_ble_eq_true rfl) dX8_doesOrder_77 ⟨Nat.zero_le _, Nat.zero_le _⟩ (fun r_3 h_4 he H locs hP hD hS => ?_)
    exact gx_iret hx hb0 hr hlocks hK hP hD hS he dX8_doesOrder_80
  have he := he.2 c_2
  by_cases c_5 : x_1 = 99
  · have he := he.1 c_5
    refine lv_lookup (off := 86) (tgt := 90) hx hb0 dX8_doesOrder_4 (by decide) (by rw [c_5]; rfl) (by decide) ?_
    refine lv_aload_n hx hb0 dX8_doesOrder_90 rfl (lv_at hl 0 rfl) ?_
    refine lv_aload_n hx hb0 dX8_doesOrder_91 rfl (lv_at hl 0 rfl) ?_
    refine gx_get hx hb0 hts in_RX8 hown hK hP 0 (by decide) (mE_0 _) rfl 10 (by decide) fl_RX8_182 rfl dX8_doesOrder_92 ?_
    refine gx_vi ⟨hx, hb0, hml, hown, hts⟩ (gKM_keep _) hk hK hP hD hS 0 [.int (h0 0 10)] [] (c_X8_clouds l dC dI P ad (h0 0 10) h0 _ he) gm_X8_clouds im_yX8_clouds se_yX8_clouds ml_RX8_121 (by decide) (mE_0 _) rfl rfl rfl ⟨Nat.le_of_ble_eq_true rfl, Nat.le_of_ble_eq_true rfl⟩ rfl hl.1 rfl (Nat.le_of_ble_eq_true rfl) dX8_doesOrder_95 ⟨Nat.zero_le _, Nat.zero_le _⟩ (fun r_6 h_7 he H locs hP hD hS => ?_)
    exact gx_iret hx hb0 hr hlocks hK hP hD hS he dX8_doesOrder_98
  have he := he.2 c_5
  by_cases c_8 : x_1 = 103
  · have he := he.1 c_8
    refine lv_lookup (off := 77) (tgt := 81) hx hb0 dX8_doesOrder_4 (by decide) (by rw [c_8]; rfl) (by decide) ?_
    refine lv_aload_n hx hb0 dX8_doesOrder_81 rfl (lv_at hl 0 rfl) ?_
    refine lv_aload_n hx hb0 dX8_doesOrder_82 rfl (lv_at hl 0 rfl) ?_
    refine gx_get hx hb0 hts in_RX8 hown hK hP 0 (by decide) (mE_0 _) rfl 10 (by decide) fl_RX8_182 rfl dX8_doesOrder_83 ?_
    refine gx_vi ⟨hx, hb0, hml, hown, hts⟩ (gKM_keep _) hk hK hP hD hS 0 [.int (h0 0 10)] [] (c_X8_aims l dC dI P ad (h0 0 10) h0 _ he) gm_X8_aims im_yX8_aims se_yX8_aims ml_RX8_130 (by decide) (mE_0 _) rfl rfl rfl ⟨Nat.le_of_ble_eq_true rfl, Nat.le_of_ble_eq_true rfl⟩ rfl hl.1 rfl (Nat.le_of_ble_eq_true rfl) dX8_doesOrder_86 ⟨Nat.zero_le _, Nat.zero_le _⟩ (fun r_9 h_10 he H locs hP hD hS => ?_)
    exact gx_iret hx hb0 hr hlocks hK hP hD hS he dX8_doesOrder_89
  have he := he.2 c_8
  by_cases c_11 : x_1 = 109
  · have he := he.1 c_11
    refine lv_lookup (off := 126) (tgt := 130) hx hb0 dX8_doesOrder_4 (by decide) (by rw [c_11]; rfl) (by decide) ?_
    refine lv_aload_n hx hb0 dX8_doesOrder_130 rfl (lv_at hl 0 rfl) ?_
    refine gx_vi ⟨hx, hb0, hml, hown, hts⟩ (gKM_keep _) hk hK hP hD hS 0 [] [] (c_X8_agrees l dC dI P ad  h0 _ he) gm_X8_agrees im_yX8_agrees se_yX8_agrees ml_RX8_136 (by decide) (mE_0 _) rfl rfl rfl ⟨Nat.le_of_ble_eq_true rfl, Nat.le_of_ble_eq_true rfl⟩ rfl hl.1 rfl (Nat.le_of_ble_eq_true rfl) dX8_doesOrder_131 ⟨Nat.zero_le _, Nat.zero_le _⟩ (fun r_12 h_13 he H locs hP hD hS => ?_)
    exact gx_iret hx hb0 hr hlocks hK hP hD hS he dX8_doesOrder_134
  have he := he.2 c_11
  by_cases c_14 : x_1 = 111
  · have he := he.1 c_14
    refine lv_lookup (off := 104) (tgt := 108) hx hb0 dX8_doesOrder_4 (by decide) (by rw [c_14]; rfl) (by decide) ?_
    refine lv_aload_n hx hb0 dX8_doesOrder_108 rfl (lv_at hl 0 rfl) ?_
    refine lv_aload_n hx hb0 dX8_doesOrder_109 rfl (lv_at hl 0 rfl) ?_
    refine gx_get hx hb0 hts in_RX8 hown hK hP 0 (by decide) (mE_0 _) rfl 10 (by decide) fl_RX8_182 rfl dX8_doesOrder_110 ?_
    refine lv_aload_n hx hb0 dX8_doesOrder_113 rfl (lv_at hl 0 rfl) ?_
    refine gx_get hx hb0 hts in_RX8 hown hK hP 0 (by decide) (mE_0 _) rfl 11 (by decide) fl_RX8_192 rfl dX8_doesOrder_114 ?_
    refine gx_vi ⟨hx, hb0, hml, hown, hts⟩ (gKM_keep _) hk hK hP hD hS 0 [.int (h0 0 10), .int (h0 0 11)] [] (c_X8_sights l dC dI P ad (h0 0 10) (h0 0 11) h0 _ he) gm_X8_sights im_yX8_sights se_yX8_sights ml_RX8_133 (by decide) (mE_0 _) rfl rfl rfl ⟨Nat.le_of_ble_eq_true rfl, Nat.le_of_ble_eq_true rfl⟩ rfl hl.1 rfl (Nat.le_of_ble_eq_true rfl) dX8_doesOrder_117 ⟨Nat.zero_le _, Nat.zero_le _⟩ (fun r_15 h_16 he H locs hP hD hS => ?_)
    exact gx_iret hx hb0 hr hlocks hK hP hD hS he dX8_doesOrder_120
  have he := he.2 c_14
  by_cases c_17 : x_1 = 115
  · have he := he.1 c_17
    refine lv_lookup (off := 117) (tgt := 121) hx hb0 dX8_doesOrder_4 (by decide) (by rw [c_17]; rfl) (by decide) ?_
    refine lv_aload_n hx hb0 dX8_doesOrder_121 rfl (lv_at hl 0 rfl) ?_
    refine lv_aload_n hx hb0 dX8_doesOrder_122 rfl (lv_at hl 0 rfl) ?_
    refine gx_get hx hb0 hts in_RX8 hown hK hP 0 (by decide) (mE_0 _) rfl 10 (by decide) fl_RX8_182 rfl dX8_doesOrder_123 ?_
    refine gx_vi ⟨hx, hb0, hml, hown, hts⟩ (gKM_keep _) hk hK hP hD hS 0 [.int (h0 0 10)] [] (c_X8_sails l dC dI P ad (h0 0 10) h0 _ he) gm_X8_sails im_yX8_sails se_yX8_sails ml_RX8_139 (by decide) (mE_0 _) rfl rfl rfl ⟨Nat.le_of_ble_eq_true rfl, Nat.le_of_ble_eq_true rfl⟩ rfl hl.1 rfl (Nat.le_of_ble_eq_true rfl) dX8_doesOrder_126 ⟨Nat.zero_le _, Nat.zero_le _⟩ (fun r_18 h_19 he H locs hP hD hS => ?_)
    exact gx_iret hx hb0 hr hlocks hK hP hD hS he dX8_doesOrder_129
  have he := he.2 c_17
  by_cases c_20 : x_1 = 122
  · have he := he.1 c_20
    refine lv_lookup (off := 95) (tgt := 99) hx hb0 dX8_doesOrder_4 (by decide) (by rw [c_20]; rfl) (by decide) ?_
    refine lv_aload_n hx hb0 dX8_doesOrder_99 rfl (lv_at hl 0 rfl) ?_
    refine lv_aload_n hx hb0 dX8_doesOrder_100 rfl (lv_at hl 0 rfl) ?_
    refine gx_get hx hb0 hts in_RX8 hown hK hP 0 (by decide) (mE_0 _) rfl 10 (by decide) fl_RX8_182 rfl dX8_doesOrder_101 ?_
    refine gx_vi ⟨hx, hb0, hml, hown, hts⟩ (gKM_keep _) hk hK hP hD hS 0 [.int (h0 0 10)] [] (c_X8_sleeps l dC dI P ad (h0 0 10) h0 _ he) gm_X8_sleeps im_yX8_sleeps se_yX8_sleeps ml_RX8_127 (by decide) (mE_0 _) rfl rfl rfl ⟨Nat.le_of_ble_eq_true rfl, Nat.le_of_ble_eq_true rfl⟩ rfl hl.1 rfl (Nat.le_of_ble_eq_true rfl) dX8_doesOrder_104 ⟨Nat.zero_le _, Nat.zero_le _⟩ (fun r_21 h_22 he H locs hP hD hS => ?_)
    exact gx_iret hx hb0 hr hlocks hK hP hD hS he dX8_doesOrder_107
  have he := he.2 c_20
  refine lv_lookup (off := 131) (tgt := 135) hx hb0 dX8_doesOrder_4 (by decide) ((lv_osw c_2 rfl).trans ((lv_osw c_5 rfl).trans ((lv_osw c_8 rfl).trans ((lv_osw c_11 rfl).trans ((lv_osw c_14 rfl).trans ((lv_osw c_17 rfl).trans ((lv_osw c_20 rfl).trans rfl))))))) (by decide) ?_
  refine lv_aload_n hx hb0 dX8_doesOrder_135 rfl (lv_at hl 0 rfl) ?_
  refine gx_vi ⟨hx, hb0, hml, hown, hts⟩ (gKM_keep _) hk hK hP hD hS 0 [] [] (c_X8_ends l dC dI P ad  h0 _ he) gm_X8_ends im_yX8_ends se_yX8_ends ml_RX8_142 (by decide) (mE_0 _) rfl rfl rfl ⟨Nat.le_of_ble_eq_true rfl, Nat.le_of_ble_eq_true rfl⟩ rfl hl.1 rfl (Nat.le_of_ble_eq_true rfl) dX8_doesOrder_136 ⟨Nat.zero_le _, Nat.zero_le _⟩ (fun r_23 h_24 he H locs hP hD hS => ?_)
  exact gx_iret hx hb0 hr hlocks hK hP hD hS he dX8_doesOrder_139
theorem gm_X8_doesOrder : gMeth yX8_doesOrder cX8_doesOrder 1 (some .int) 0 := ⟨⟨by decide, by decide, by decide +kernel⟩, ini_RX8, co_yX8_doesOrder⟩
abbrev rm_X8_carryOut : Room := { frames := 6, cells := 0, slots := 0, locals := 136 }
set_option maxHeartbeats 4000000 in
set_option maxRecDepth 100000 in
theorem l_X8_carryOut_29 (l : Launch) (dC : Nat → ClassId) (dI : Nat → Nat → Nat) (P : gP) (ad : Nat → Nat) {p : Program} {e : Env} {s : State} {m : MethodId} {args : Array Value} {below : List Frame} {meth : Method} {c : Code} (hx : p.tables.exec = Jvm.exec) (hb0 : c.code = cX8_carryOut) (hr : meth.sig.returnType = (some .int)) (hlocks : meth.locks = false) (hml : c.maxLocals = 3) (hown : s.vm.findClass RX8 = some m.cls) (hts : ∀ w ∈ TB, w.before args s = true) (hK : va_K (dC, dI) vwCl (tyC P) s) (hk : gKM s) (Q : Int32 → Hp → Prop) : ∀ (n : Nat) (y1 : Int32) (y2 : Int32) (h0 : Hp), F_X8_carryOut_L29  n y1 y2 h0 Q → ∀ (H : Heap) (locs : List Loc) (ls : Array Slot), va_P (dC, dI) vwCl (gW 7 (mE P ad) ad h0) H → va_D (gA 7 ad) (gW 7 (mE P ad) ad h0) → va_S (gA 7 ad) s.heap H locs → lv_has ls 3 [(0, .ref (ad 0)), (1, .int y1), (2, .int y2)] → W p l e rm_X8_carryOut s m args below meth c H locs 0 0 (MQ below (gQi (dC, dI) vwCl (tyC P) 7 (mE P ad) ad Q) args s 0 0 (gA 7 ad)) (F0 m 29 ls []) := by
  intro n
  induction n with
  | zero =>
    intro y1 y2 h0 he
    exact he.elim
  | succ n ih =>
    intro y1 y2 h0 he H locs ls hP hD hS hl
    rw [F_X8_carryOut_L29] at he
    refine lv_iload_n hx hb0 dX8_carryOut_29 rfl (lv_at hl 2 rfl) ?_
    refine lv_if_eq (tgt := 89) hx hb0 dX8_carryOut_30 (by decide) (fun c_9 => ?_) (fun c_9 => ?_)
    · have he := he.1 c_9
      refine lv_aload_n hx hb0 dX8_carryOut_89 rfl (lv_at hl 0 rfl) ?_
      refine lv_iconst (v := (0 : Int32)) hx hb0 dX8_carryOut_90 (by decide) ?_
      refine gx_put hx hb0 hts in_RX8 tyX8 tyX8_ok nmX8 hown hK hP hD hS 0 (by decide) mE_0 rfl 7 (by decide) fl_RX8_158 rfl (tyX8_ok 7 (by decide)) (Nat.le_of_ble_eq_true rfl) rfl dX8_carryOut_91 (fun h_10 eh_10 H locs hP hD hS => ?_)
      have he := he h_10 eh_10
      refine lv_iload_n hx hb0 dX8_carryOut_94 rfl (lv_at hl 1 rfl) ?_
      exact gx_iret hx hb0 hr hlocks hK hP hD hS he dX8_carryOut_95
    · have he := he.2 c_9
      refine lv_aload_n hx hb0 dX8_carryOut_33 rfl (lv_at hl 0 rfl) ?_
      refine gx_get hx hb0 hts in_RX8 hown hK hP 0 (by decide) (mE_0 _) rfl 8 (by decide) fl_RX8_173 rfl dX8_carryOut_34 ?_
      refine lv_aload_n hx hb0 dX8_carryOut_37 rfl (lv_at hl 0 rfl) ?_
      refine gx_get hx hb0 hts in_RX8 hown hK hP 0 (by decide) (mE_0 _) rfl 7 (by decide) fl_RX8_158 rfl dX8_carryOut_38 ?_
      refine lv_icmp_ge (tgt := 89) hx hb0 dX8_carryOut_41 (by decide) (fun c_11 => ?_) (fun c_11 => ?_)
      · have he := he.1 c_11
        refine lv_aload_n hx hb0 dX8_carryOut_89 rfl (lv_at hl 0 rfl) ?_
        refine lv_iconst (v := (0 : Int32)) hx hb0 dX8_carryOut_90 (by decide) ?_
        refine gx_put hx hb0 hts in_RX8 tyX8 tyX8_ok nmX8 hown hK hP hD hS 0 (by decide) mE_0 rfl 7 (by decide) fl_RX8_158 rfl (tyX8_ok 7 (by decide)) (Nat.le_of_ble_eq_true rfl) rfl dX8_carryOut_91 (fun h_12 eh_12 H locs hP hD hS => ?_)
        have he := he h_12 eh_12
        refine lv_iload_n hx hb0 dX8_carryOut_94 rfl (lv_at hl 1 rfl) ?_
        exact gx_iret hx hb0 hr hlocks hK hP hD hS he dX8_carryOut_95
      · have he := he.2 c_11
        refine lv_aload_n hx hb0 dX8_carryOut_44 rfl (lv_at hl 0 rfl) ?_
        refine gx_vi ⟨hx, hb0, hml, hown, hts⟩ (gKM_keep _) hk hK hP hD hS 0 [] [] (c_X8_readsOrder l dC dI P ad  h0 _ he) gm_X8_readsOrder im_yX8_readsOrder se_yX8_readsOrder ml_RX8_205 (by decide) (mE_0 _) rfl rfl rfl ⟨Nat.le_of_ble_eq_true rfl, Nat.le_of_ble_eq_true rfl⟩ rfl hl.1 rfl (Nat.le_of_ble_eq_true rfl) dX8_carryOut_45 ⟨Nat.zero_le _, Nat.zero_le _⟩ (fun r_13 h_14 he H locs hP hD hS => ?_)
        refine lv_if_eq (tgt := 62) hx hb0 dX8_carryOut_48 (by decide) (fun c_15 => ?_) (fun c_15 => ?_)
        · have he := he.1 c_15
          refine lv_iconst (v := (0 : Int32)) hx hb0 dX8_carryOut_62 (by decide) ?_
          refine lv_istore_n (lv' := [(2, .int (0 : Int32)), (0, .ref (ad 0)), (1, .int y1)]) hx hb0 dX8_carryOut_63 rfl hl (by decide) rfl (fun ls hl => ?_)
          refine lv_iload_n hx hb0 dX8_carryOut_64 rfl (lv_at hl 2 rfl) ?_
          refine lv_iload_n hx hb0 dX8_carryOut_65 rfl (lv_at hl 0 rfl) ?_
          refine lv_if_eq (tgt := 73) hx hb0 dX8_carryOut_66 (by decide) (fun c_16 => ?_) (fun c_16 => ?_)
          · refine lv_iconst (v := (0 : Int32)) hx hb0 dX8_carryOut_73 (by decide) ?_
            refine lv_iadd hx hb0 dX8_carryOut_74 ?_
            refine lv_topi (fun x_17 ex_17 => ?_)
            have he := he x_17 ex_17
            refine lv_istore_n (lv' := [(1, .int x_17), (2, .int (0 : Int32)), (0, .ref (ad 0))]) hx hb0 dX8_carryOut_75 rfl hl (by decide) rfl (fun ls hl => ?_)
            refine lv_aload_n hx hb0 dX8_carryOut_76 rfl (lv_at hl 2 rfl) ?_
            refine lv_dup hx hb0 dX8_carryOut_77 rfl ?_
            refine gx_get hx hb0 hts in_RX8 hown hK hP 0 (by decide) (mE_0 _) rfl 8 (by decide) fl_RX8_173 rfl dX8_carryOut_78 ?_
            refine lv_iconst (v := (1 : Int32)) hx hb0 dX8_carryOut_81 (by decide) ?_
            refine lv_iadd hx hb0 dX8_carryOut_82 ?_
            refine gx_put hx hb0 hts in_RX8 tyX8 tyX8_ok nmX8 hown hK hP hD hS 0 (by decide) mE_0 rfl 8 (by decide) fl_RX8_173 rfl (tyX8_ok 8 (by decide)) (Nat.le_of_ble_eq_true rfl) rfl dX8_carryOut_83 (fun h_18 eh_18 H locs hP hD hS => ?_)
            have he := he h_18 eh_18
            refine lv_goto (tgt := 29) hx hb0 dX8_carryOut_86 (by decide) ?_
            exact ih x_17 (0 : Int32) h_18 he _ _ ls hP hD hS (lv_sub hl [2, 0, 1] rfl)
          · exact absurd c_16 (by decide)
        · have he := he.2 c_15
          refine lv_aload_n hx hb0 dX8_carryOut_51 rfl (lv_at hl 0 rfl) ?_
          refine gx_vi ⟨hx, hb0, hml, hown, hts⟩ (gKM_keep _) hk hK hP hD hS 0 [] [] (c_X8_doesOrder l dC dI P ad  h_14 _ he) gm_X8_doesOrder im_yX8_doesOrder se_yX8_doesOrder ml_RX8_211 (by decide) (mE_0 _) rfl rfl rfl ⟨Nat.le_of_ble_eq_true rfl, Nat.le_of_ble_eq_true rfl⟩ rfl hl.1 rfl (Nat.le_of_ble_eq_true rfl) dX8_carryOut_52 ⟨Nat.zero_le _, Nat.zero_le _⟩ (fun r_19 h_20 he H locs hP hD hS => ?_)
          refine lv_if_lt (tgt := 62) hx hb0 dX8_carryOut_55 (by decide) (fun c_21 => ?_) (fun c_21 => ?_)
          · have he := he.1 c_21
            refine lv_iconst (v := (0 : Int32)) hx hb0 dX8_carryOut_62 (by decide) ?_
            refine lv_istore_n (lv' := [(2, .int (0 : Int32)), (0, .ref (ad 0)), (1, .int y1)]) hx hb0 dX8_carryOut_63 rfl hl (by decide) rfl (fun ls hl => ?_)
            refine lv_iload_n hx hb0 dX8_carryOut_64 rfl (lv_at hl 2 rfl) ?_
            refine lv_iload_n hx hb0 dX8_carryOut_65 rfl (lv_at hl 0 rfl) ?_
            refine lv_if_eq (tgt := 73) hx hb0 dX8_carryOut_66 (by decide) (fun c_22 => ?_) (fun c_22 => ?_)
            · refine lv_iconst (v := (0 : Int32)) hx hb0 dX8_carryOut_73 (by decide) ?_
              refine lv_iadd hx hb0 dX8_carryOut_74 ?_
              refine lv_topi (fun x_23 ex_23 => ?_)
              have he := he x_23 ex_23
              refine lv_istore_n (lv' := [(1, .int x_23), (2, .int (0 : Int32)), (0, .ref (ad 0))]) hx hb0 dX8_carryOut_75 rfl hl (by decide) rfl (fun ls hl => ?_)
              refine lv_aload_n hx hb0 dX8_carryOut_76 rfl (lv_at hl 2 rfl) ?_
              refine lv_dup hx hb0 dX8_carryOut_77 rfl ?_
              refine gx_get hx hb0 hts in_RX8 hown hK hP 0 (by decide) (mE_0 _) rfl 8 (by decide) fl_RX8_173 rfl dX8_carryOut_78 ?_
              refine lv_iconst (v := (1 : Int32)) hx hb0 dX8_carryOut_81 (by decide) ?_
              refine lv_iadd hx hb0 dX8_carryOut_82 ?_
              refine gx_put hx hb0 hts in_RX8 tyX8 tyX8_ok nmX8 hown hK hP hD hS 0 (by decide) mE_0 rfl 8 (by decide) fl_RX8_173 rfl (tyX8_ok 8 (by decide)) (Nat.le_of_ble_eq_true rfl) rfl dX8_carryOut_83 (fun h_24 eh_24 H locs hP hD hS => ?_)
              have he := he h_24 eh_24
              refine lv_goto (tgt := 29) hx hb0 dX8_carryOut_86 (by decide) ?_
              exact ih x_23 (0 : Int32) h_24 he _ _ ls hP hD hS (lv_sub hl [2, 0, 1] rfl)
            · exact absurd c_22 (by decide)
          · have he := he.2 c_21
            refine lv_iconst (v := (1 : Int32)) hx hb0 dX8_carryOut_58 (by decide) ?_
            refine lv_goto (tgt := 63) hx hb0 dX8_carryOut_59 (by decide) ?_
            refine lv_istore_n (lv' := [(2, .int (1 : Int32)), (0, .ref (ad 0)), (1, .int y1)]) hx hb0 dX8_carryOut_63 rfl hl (by decide) rfl (fun ls hl => ?_)
            refine lv_iload_n hx hb0 dX8_carryOut_64 rfl (lv_at hl 2 rfl) ?_
            refine lv_iload_n hx hb0 dX8_carryOut_65 rfl (lv_at hl 0 rfl) ?_
            refine lv_if_eq (tgt := 73) hx hb0 dX8_carryOut_66 (by decide) (fun c_25 => ?_) (fun c_25 => ?_)
            · exact absurd c_25 (by decide)
            · refine lv_iconst (v := (1 : Int32)) hx hb0 dX8_carryOut_69 (by decide) ?_
              refine lv_goto (tgt := 74) hx hb0 dX8_carryOut_70 (by decide) ?_
              refine lv_iadd hx hb0 dX8_carryOut_74 ?_
              refine lv_topi (fun x_26 ex_26 => ?_)
              have he := he x_26 ex_26
              refine lv_istore_n (lv' := [(1, .int x_26), (2, .int (1 : Int32)), (0, .ref (ad 0))]) hx hb0 dX8_carryOut_75 rfl hl (by decide) rfl (fun ls hl => ?_)
              refine lv_aload_n hx hb0 dX8_carryOut_76 rfl (lv_at hl 2 rfl) ?_
              refine lv_dup hx hb0 dX8_carryOut_77 rfl ?_
              refine gx_get hx hb0 hts in_RX8 hown hK hP 0 (by decide) (mE_0 _) rfl 8 (by decide) fl_RX8_173 rfl dX8_carryOut_78 ?_
              refine lv_iconst (v := (1 : Int32)) hx hb0 dX8_carryOut_81 (by decide) ?_
              refine lv_iadd hx hb0 dX8_carryOut_82 ?_
              refine gx_put hx hb0 hts in_RX8 tyX8 tyX8_ok nmX8 hown hK hP hD hS 0 (by decide) mE_0 rfl 8 (by decide) fl_RX8_173 rfl (tyX8_ok 8 (by decide)) (Nat.le_of_ble_eq_true rfl) rfl dX8_carryOut_83 (fun h_27 eh_27 H locs hP hD hS => ?_)
              have he := he h_27 eh_27
              refine lv_goto (tgt := 29) hx hb0 dX8_carryOut_86 (by decide) ?_
              exact ih x_26 (1 : Int32) h_27 he _ _ ls hP hD hS (lv_sub hl [2, 0, 1] rfl)
set_option maxHeartbeats 4000000 in
set_option maxRecDepth 100000 in
theorem c_X8_carryOut (l : Launch) (dC : Nat → ClassId) (dI : Nat → Nat → Nat) (P : gP) (ad : Nat → Nat) (h0 : Hp) (Q : Int32 → Hp → Prop) (he : F_X8_carryOut  h0 Q) : Met l yX8_carryOut (Cond.code yX8_carryOut cX8_carryOut 3 (some .int) :: TB) rm_X8_carryOut (gPc (dC, dI) vwCl (tyC P) 7 (mE P ad) ad gKM h0 [.ref (ad 0)]) (gQi (dC, dI) vwCl (tyC P) 7 (mE P ad) ad Q) 0 0 (gA 7 ad) := by
  refine gx_start (by decide) (Nat.le_of_ble_eq_true rfl) (fun p e s m below meth c ls hx hb0 hr hlocks hml hown hts hK hk hP hD hS hl => ?_)
  have hl : lv_has ls 3 [(0, .ref (ad 0))] := hl
  have hown : s.vm.findClass RX8 = some m.cls := hown
  unfold F_X8_carryOut at he
  refine lv_aload_n hx hb0 dX8_carryOut_0 rfl (lv_at hl 0 rfl) ?_
  refine gx_vi ⟨hx, hb0, hml, hown, hts⟩ (gKM_keep _) hk hK hP hD hS 0 [] [] (c_X8_findFault l dC dI P ad  h0 _ he) gm_X8_findFault im_yX8_findFault se_yX8_findFault ml_RX8_208 (by decide) (mE_0 _) rfl rfl rfl ⟨Nat.le_of_ble_eq_true rfl, Nat.le_of_ble_eq_true rfl⟩ rfl hl.1 rfl (Nat.le_of_ble_eq_true rfl) dX8_carryOut_1 ⟨Nat.zero_le _, Nat.zero_le _⟩ (fun r_1 h_2 he H locs hP hD hS => ?_)
  refine lv_bipush (v := (-6 : Int32)) hx hb0 dX8_carryOut_4 (by decide) ?_
  refine lv_icmp_eq (tgt := 12) hx hb0 dX8_carryOut_6 (by decide) (fun c_3 => ?_) (fun c_3 => ?_)
  · have he := he.1 c_3
    refine lv_aload_n hx hb0 dX8_carryOut_12 rfl (lv_at hl 0 rfl) ?_
    refine gx_vv ⟨hx, hb0, hml, hown, hts⟩ (gKM_keep _) hk hK hP hD hS 0 [] [] (c_X8_putAside l dC dI P ad  h_2 _ he) gm_X8_putAside im_yX8_putAside se_yX8_putAside ml_RX8_47 (by decide) (mE_0 _) rfl rfl rfl ⟨Nat.le_of_ble_eq_true rfl, Nat.le_of_ble_eq_true rfl⟩ rfl hl.1 rfl (Nat.le_of_ble_eq_true rfl) dX8_carryOut_13 ⟨Nat.zero_le _, Nat.zero_le _⟩ (fun h_5 he H locs hP hD hS => ?_)
    refine lv_aload_n hx hb0 dX8_carryOut_16 rfl (lv_at hl 0 rfl) ?_
    refine gx_vv ⟨hx, hb0, hml, hown, hts⟩ (gKM_keep _) hk hK hP hD hS 0 [] [] (c_X8_push l dC dI P ad  h_5 _ he) gm_X8_push im_yX8_push se_yX8_push ml_RX8_40 (by decide) (mE_0 _) rfl rfl rfl ⟨Nat.le_of_ble_eq_true rfl, Nat.le_of_ble_eq_true rfl⟩ rfl hl.1 rfl (Nat.le_of_ble_eq_true rfl) dX8_carryOut_17 ⟨Nat.zero_le _, Nat.zero_le _⟩ (fun h_7 he H locs hP hD hS => ?_)
    refine lv_aload_n hx hb0 dX8_carryOut_20 rfl (lv_at hl 0 rfl) ?_
    refine lv_iconst (v := (0 : Int32)) hx hb0 dX8_carryOut_21 (by decide) ?_
    refine gx_put hx hb0 hts in_RX8 tyX8 tyX8_ok nmX8 hown hK hP hD hS 0 (by decide) mE_0 rfl 8 (by decide) fl_RX8_173 rfl (tyX8_ok 8 (by decide)) (Nat.le_of_ble_eq_true rfl) rfl dX8_carryOut_22 (fun h_8 eh_8 H locs hP hD hS => ?_)
    have he := he h_8 eh_8
    refine lv_iconst (v := (0 : Int32)) hx hb0 dX8_carryOut_25 (by decide) ?_
    refine lv_istore_n (lv' := [(1, .int (0 : Int32)), (0, .ref (ad 0))]) hx hb0 dX8_carryOut_26 rfl hl (by decide) rfl (fun ls hl => ?_)
    refine lv_iconst (v := (1 : Int32)) hx hb0 dX8_carryOut_27 (by decide) ?_
    refine lv_istore_n (lv' := [(2, .int (1 : Int32)), (1, .int (0 : Int32)), (0, .ref (ad 0))]) hx hb0 dX8_carryOut_28 rfl hl (by decide) rfl (fun ls hl => ?_)
    obtain ⟨n_28, he⟩ := he
    exact l_X8_carryOut_29 l dC dI P ad  hx hb0 hr hlocks hml hown hts hK hk Q n_28 (0 : Int32) (1 : Int32) h_8 he _ _ ls hP hD hS (lv_sub hl [2, 1, 0] rfl)
  · have he := he.2 c_3
    refine lv_bipush (v := (-3 : Int32)) hx hb0 dX8_carryOut_9 (by decide) ?_
    exact gx_iret hx hb0 hr hlocks hK hP hD hS he dX8_carryOut_11
theorem gm_X8_carryOut : gMeth yX8_carryOut cX8_carryOut 3 (some .int) 0 := ⟨⟨by decide, by decide, by decide +kernel⟩, ini_RX8, co_yX8_carryOut⟩
