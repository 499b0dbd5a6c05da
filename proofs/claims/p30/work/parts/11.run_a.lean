abbrev rm_X7_keptOnEarth : Room := { frames := 1, cells := 0, slots := 0, locals := 14 }
set_option maxHeartbeats 4000000 in
set_option maxRecDepth 100000 in
theorem c_X7_keptOnEarth (l : Launch) (dC : Nat → ClassId) (dI : Nat → Nat → Nat) (P : gP) (ad : Nat → Nat) (tb : Nat → Nat) (x0 : Int32) (h0 : Hp) (Q : Int32 → Hp → Prop) (he : F_X7_keptOnEarth x0 h0 Q) : Met l yX7_keptOnEarth (Cond.code yX7_keptOnEarth cX7_keptOnEarth 1 (some .int) :: TB) rm_X7_keptOnEarth (gPc (dC, dI) vwCl (tyC P) 162 (cE P ad) ad (gKC tb (gA 162 ad)) h0 [.int x0]) (gQi (dC, dI) vwCl (tyC P) 162 (cE P ad) ad Q) 0 0 (gA 162 ad) := by
  refine gx_start (by decide) (Nat.le_of_ble_eq_true rfl) (fun p e s m below meth c ls hx hb0 hr hlocks hml hown hts hK hk hP hD hS hl => ?_)
  have hl : lv_has ls 1 [(0, .int x0)] := hl
  have hown : s.vm.findClass RX7 = some m.cls := hown
  unfold F_X7_keptOnEarth at he
  refine lv_sipush (v := (-5400 : Int32)) hx hb0 dX7_keptOnEarth_0 (by decide) ?_
  refine lv_sipush (v := (5400 : Int32)) hx hb0 dX7_keptOnEarth_3 (by decide) ?_
  refine lv_iload_n hx hb0 dX7_keptOnEarth_6 rfl (lv_at hl 0 rfl) ?_
  refine va_mmin hx hb0 (hml.trans hl.1.symm) hown (hts _ ml_RX7_188) (hts _ st_Lib_Math_min_name) (hts _ ini_RJ9) (hts _ co_Lib_Math_min_name) (Nat.le_of_ble_eq_true rfl) (Nat.le_of_ble_eq_true rfl) (Nat.zero_le _) (Nat.zero_le _) dX7_keptOnEarth_7 ?_
  refine lv_topi (fun x_1 ex_1 => ?_)
  have he := he x_1 ex_1
  refine va_mmax hx hb0 (hml.trans hl.1.symm) hown (hts _ ml_RX7_193) (hts _ st_Lib_Math_max_name) (hts _ ini_RJ9) (hts _ co_Lib_Math_max_name) (Nat.le_of_ble_eq_true rfl) (Nat.le_of_ble_eq_true rfl) (Nat.zero_le _) (Nat.zero_le _) dX7_keptOnEarth_10 ?_
  refine lv_topi (fun x_2 ex_2 => ?_)
  have he := he x_2 ex_2
  exact gx_iret hx hb0 hr hlocks hK hP hD hS he dX7_keptOnEarth_13
theorem gm_X7_keptOnEarth : gMeth yX7_keptOnEarth cX7_keptOnEarth 1 (some .int) 1 := ⟨⟨by decide, by decide, by decide +kernel⟩, ini_RX7, co_yX7_keptOnEarth⟩
abbrev rm_X7_toldLatitude : Room := { frames := 0, cells := 0, slots := 0, locals := 0 }
set_option maxHeartbeats 4000000 in
set_option maxRecDepth 100000 in
theorem c_X7_toldLatitude (l : Launch) (dC : Nat → ClassId) (dI : Nat → Nat → Nat) (P : gP) (ad : Nat → Nat) (tb : Nat → Nat) (x0 : Int32) (h0 : Hp) (Q : Int32 → Hp → Prop) (he : F_X7_toldLatitude x0 h0 Q) : Met l yX7_toldLatitude (Cond.code yX7_toldLatitude cX7_toldLatitude 1 (some .int) :: TB) rm_X7_toldLatitude (gPc (dC, dI) vwCl (tyC P) 162 (cE P ad) ad (gKC tb (gA 162 ad)) h0 [.int x0]) (gQi (dC, dI) vwCl (tyC P) 162 (cE P ad) ad Q) 0 0 (gA 162 ad) := by
  refine gx_start (by decide) (Nat.le_of_ble_eq_true rfl) (fun p e s m below meth c ls hx hb0 hr hlocks hml hown hts hK hk hP hD hS hl => ?_)
  have hl : lv_has ls 1 [(0, .int x0)] := hl
  have hown : s.vm.findClass RX7 = some m.cls := hown
  unfold F_X7_toldLatitude at he
  refine lv_iload_n hx hb0 dX7_toldLatitude_0 rfl (lv_at hl 0 rfl) ?_
  refine lv_sipush (v := (9999 : Int32)) hx hb0 dX7_toldLatitude_1 (by decide) ?_
  refine lv_icmp_ne (tgt := 12) hx hb0 dX7_toldLatitude_4 (by decide) (fun c_1 => ?_) (fun c_1 => ?_)
  · have he := he.2 c_1
    refine lv_iload_n hx hb0 dX7_toldLatitude_12 rfl (lv_at hl 0 rfl) ?_
    refine lv_sipush (v := (5400 : Int32)) hx hb0 dX7_toldLatitude_13 (by decide) ?_
    refine lv_iadd hx hb0 dX7_toldLatitude_16 ?_
    exact gx_iret hx hb0 hr hlocks hK hP hD hS he dX7_toldLatitude_17
  · have he := he.1 c_1
    refine lv_bipush (v := (-6 : Int32)) hx hb0 dX7_toldLatitude_7 (by decide) ?_
    refine lv_goto (tgt := 17) hx hb0 dX7_toldLatitude_9 (by decide) ?_
    exact gx_iret hx hb0 hr hlocks hK hP hD hS he dX7_toldLatitude_17
theorem gm_X7_toldLatitude : gMeth yX7_toldLatitude cX7_toldLatitude 1 (some .int) 1 := ⟨⟨by decide, by decide, by decide +kernel⟩, ini_RX7, co_yX7_toldLatitude⟩
abbrev rm_X7_isOnEarth : Room := { frames := 0, cells := 0, slots := 0, locals := 0 }
set_option maxHeartbeats 4000000 in
set_option maxRecDepth 100000 in
theorem c_X7_isOnEarth (l : Launch) (dC : Nat → ClassId) (dI : Nat → Nat → Nat) (P : gP) (ad : Nat → Nat) (tb : Nat → Nat) (x0 : Int32) (h0 : Hp) (Q : Int32 → Hp → Prop) (he : F_X7_isOnEarth x0 h0 Q) : Met l yX7_isOnEarth (Cond.code yX7_isOnEarth cX7_isOnEarth 1 (some .boolean) :: TB) rm_X7_isOnEarth (gPc (dC, dI) vwCl (tyC P) 162 (cE P ad) ad (gKC tb (gA 162 ad)) h0 [.int x0]) (gQi (dC, dI) vwCl (tyC P) 162 (cE P ad) ad Q) 0 0 (gA 162 ad) := by
  refine gx_start (by decide) (Nat.le_of_ble_eq_true rfl) (fun p e s m below meth c ls hx hb0 hr hlocks hml hown hts hK hk hP hD hS hl => ?_)
  have hl : lv_has ls 1 [(0, .int x0)] := hl
  have hown : s.vm.findClass RX7 = some m.cls := hown
  unfold F_X7_isOnEarth at he
  refine lv_iload_n hx hb0 dX7_isOnEarth_0 rfl (lv_at hl 0 rfl) ?_
  refine lv_sipush (v := (-5400 : Int32)) hx hb0 dX7_isOnEarth_1 (by decide) ?_
  refine lv_icmp_lt (tgt := 18) hx hb0 dX7_isOnEarth_4 (by decide) (fun c_1 => ?_) (fun c_1 => ?_)
  · have he := he.1 c_1
    refine lv_iconst (v := (0 : Int32)) hx hb0 dX7_isOnEarth_18 (by decide) ?_
    exact gx_zret hx hb0 hr (by decide) hlocks hK hP hD hS he dX7_isOnEarth_19
  · have he := he.2 c_1
    refine lv_iload_n hx hb0 dX7_isOnEarth_7 rfl (lv_at hl 0 rfl) ?_
    refine lv_sipush (v := (5400 : Int32)) hx hb0 dX7_isOnEarth_8 (by decide) ?_
    refine lv_icmp_gt (tgt := 18) hx hb0 dX7_isOnEarth_11 (by decide) (fun c_2 => ?_) (fun c_2 => ?_)
    · have he := he.1 c_2
      refine lv_iconst (v := (0 : Int32)) hx hb0 dX7_isOnEarth_18 (by decide) ?_
      exact gx_zret hx hb0 hr (by decide) hlocks hK hP hD hS he dX7_isOnEarth_19
    · have he := he.2 c_2
      refine lv_iconst (v := (1 : Int32)) hx hb0 dX7_isOnEarth_14 (by decide) ?_
      refine lv_goto (tgt := 19) hx hb0 dX7_isOnEarth_15 (by decide) ?_
      exact gx_zret hx hb0 hr (by decide) hlocks hK hP hD hS he dX7_isOnEarth_19
theorem gm_X7_isOnEarth : gMeth yX7_isOnEarth cX7_isOnEarth 1 (some .boolean) 1 := ⟨⟨by decide, by decide, by decide +kernel⟩, ini_RX7, co_yX7_isOnEarth⟩
abbrev rm_X7_isNavigator : Room := { frames := 0, cells := 0, slots := 0, locals := 0 }
set_option maxHeartbeats 4000000 in
set_option maxRecDepth 100000 in
theorem c_X7_isNavigator (l : Launch) (dC : Nat → ClassId) (dI : Nat → Nat → Nat) (P : gP) (ad : Nat → Nat) (tb : Nat → Nat) (x0 : Int32) (h0 : Hp) (Q : Int32 → Hp → Prop) (he : F_X7_isNavigator x0 h0 Q) : Met l yX7_isNavigator (Cond.code yX7_isNavigator cX7_isNavigator 1 (some .boolean) :: TB) rm_X7_isNavigator (gPc (dC, dI) vwCl (tyC P) 162 (cE P ad) ad (gKC tb (gA 162 ad)) h0 [.int x0]) (gQi (dC, dI) vwCl (tyC P) 162 (cE P ad) ad Q) 0 0 (gA 162 ad) := by
  refine gx_start (by decide) (Nat.le_of_ble_eq_true rfl) (fun p e s m below meth c ls hx hb0 hr hlocks hml hown hts hK hk hP hD hS hl => ?_)
  have hl : lv_has ls 1 [(0, .int x0)] := hl
  have hown : s.vm.findClass RX7 = some m.cls := hown
  unfold F_X7_isNavigator at he
  refine lv_iload_n hx hb0 dX7_isNavigator_0 rfl (lv_at hl 0 rfl) ?_
  refine lv_if_lt (tgt := 14) hx hb0 dX7_isNavigator_1 (by decide) (fun c_1 => ?_) (fun c_1 => ?_)
  · have he := he.1 c_1
    refine lv_iconst (v := (0 : Int32)) hx hb0 dX7_isNavigator_14 (by decide) ?_
    exact gx_zret hx hb0 hr (by decide) hlocks hK hP hD hS he dX7_isNavigator_15
  · have he := he.2 c_1
    refine lv_iload_n hx hb0 dX7_isNavigator_4 rfl (lv_at hl 0 rfl) ?_
    refine lv_bipush (v := (7 : Int32)) hx hb0 dX7_isNavigator_5 (by decide) ?_
    refine lv_icmp_ge (tgt := 14) hx hb0 dX7_isNavigator_7 (by decide) (fun c_2 => ?_) (fun c_2 => ?_)
    · have he := he.1 c_2
      refine lv_iconst (v := (0 : Int32)) hx hb0 dX7_isNavigator_14 (by decide) ?_
      exact gx_zret hx hb0 hr (by decide) hlocks hK hP hD hS he dX7_isNavigator_15
    · have he := he.2 c_2
      refine lv_iconst (v := (1 : Int32)) hx hb0 dX7_isNavigator_10 (by decide) ?_
      refine lv_goto (tgt := 15) hx hb0 dX7_isNavigator_11 (by decide) ?_
      exact gx_zret hx hb0 hr (by decide) hlocks hK hP hD hS he dX7_isNavigator_15
theorem gm_X7_isNavigator : gMeth yX7_isNavigator cX7_isNavigator 1 (some .boolean) 1 := ⟨⟨by decide, by decide, by decide +kernel⟩, ini_RX7, co_yX7_isNavigator⟩
