abbrev rm_X5_copyFrom : Room := { frames := 1, cells := 0, slots := 0, locals := 18 }
set_option maxHeartbeats 4000000 in
set_option maxRecDepth 100000 in
theorem c_X5_copyFrom (l : Launch) (dC : Nat → ClassId) (dI : Nat → Nat → Nat) (P : gP) (ad : Nat → Nat) (tb : Nat → Nat) (b1 : Nat) (hb1 : vb b1) (b2 : Nat) (hb2 : vb b2) (h0 : Hp) (Q : Hp → Prop) (he : F_X5_copyFrom b1 b2 h0 Q) : Met l yX5_copyFrom (Cond.code yX5_copyFrom cX5_copyFrom 2 none :: TB) rm_X5_copyFrom (gPc (dC, dI) vwCl (tyC P) 162 (cE P ad) ad (gKC tb (gA 162 ad)) h0 [.ref (ad (b1 + 2)), .ref (ad (b2 + 2))]) (gQv (dC, dI) vwCl (tyC P) 162 (cE P ad) ad Q) 0 0 (gA 162 ad) := by
  refine gx_start (by decide) (Nat.le_of_ble_eq_true rfl) (fun p e s m below meth c ls hx hb0 hr hlocks hml hown hts hK hk hP hD hS hl => ?_)
  have hl : lv_has ls 2 [(0, .ref (ad (b1 + 2))), (1, .ref (ad (b2 + 2)))] := hl
  have hown : s.vm.findClass RX5 = some m.cls := hown
  unfold F_X5_copyFrom at he
  refine lv_aload_n hx hb0 dX5_copyFrom_0 rfl (lv_at hl 0 rfl) ?_
  refine lv_aload_n hx hb0 dX5_copyFrom_1 rfl (lv_at hl 1 rfl) ?_
  refine gx_get hx hb0 hts in_RX5 hown hK hP (b2 + 2) (vb_lt hb2 (by decide)) ((cE_2 hb2) _) rfl 0 (by decide) fl_RX5_9 rfl dX5_copyFrom_2 ?_
  refine gx_put hx hb0 hts in_RX5 tyX5 tyX5_ok nmX5 hown hK hP hD hS (b1 + 2) (vb_lt hb1 (by decide)) (cE_2 hb1) rfl 0 (by decide) fl_RX5_9 rfl (tyX5_ok 0 (by decide)) (Nat.le_of_ble_eq_true rfl) rfl dX5_copyFrom_5 (fun h_1 eh_1 H locs hP hD hS => ?_)
  have he := he h_1 eh_1
  refine lv_aload_n hx hb0 dX5_copyFrom_8 rfl (lv_at hl 0 rfl) ?_
  refine lv_aload_n hx hb0 dX5_copyFrom_9 rfl (lv_at hl 1 rfl) ?_
  refine gx_get hx hb0 hts in_RX5 hown hK hP (b2 + 2) (vb_lt hb2 (by decide)) ((cE_2 hb2) _) rfl 1 (by decide) fl_RX5_15 rfl dX5_copyFrom_10 ?_
  refine gx_put hx hb0 hts in_RX5 tyX5 tyX5_ok nmX5 hown hK hP hD hS (b1 + 2) (vb_lt hb1 (by decide)) (cE_2 hb1) rfl 1 (by decide) fl_RX5_15 rfl (tyX5_ok 1 (by decide)) (Nat.le_of_ble_eq_true rfl) rfl dX5_copyFrom_13 (fun h_2 eh_2 H locs hP hD hS => ?_)
  have he := he h_2 eh_2
  refine lv_aload_n hx hb0 dX5_copyFrom_16 rfl (lv_at hl 1 rfl) ?_
  refine gx_get hx hb0 hts in_RX5 hown hK hP (b2 + 2) (vb_lt hb2 (by decide)) ((cE_2 hb2) _) rfl 2 (by decide) fl_RX5_18 rfl dX5_copyFrom_17 ?_
  refine lv_iconst (v := (0 : Int32)) hx hb0 dX5_copyFrom_20 (by decide) ?_
  refine lv_aload_n hx hb0 dX5_copyFrom_21 rfl (lv_at hl 0 rfl) ?_
  refine gx_get hx hb0 hts in_RX5 hown hK hP (b1 + 2) (vb_lt hb1 (by decide)) ((cE_2 hb1) _) rfl 2 (by decide) fl_RX5_18 rfl dX5_copyFrom_22 ?_
  refine lv_iconst (v := (0 : Int32)) hx hb0 dX5_copyFrom_25 (by decide) ?_
  refine lv_bipush (v := (8 : Int32)) hx hb0 dX5_copyFrom_26 (by decide) ?_
  refine gx_copy hx hb0 (hml.trans hl.1.symm) hts hown ml_RX5_22 nat_arraycopy st_arraycopyName ini_RJ10 hK hP hD hS (b2 + 3) (b1 + 3) 0 8 (vb_lt hb2 (by decide)) (vb_lt hb1 (by decide)) (cE_3 hb2) (cE_3 hb1) rfl (by decide) (by decide) (Nat.le_of_ble_eq_true rfl) (Nat.le_of_ble_eq_true rfl) dX5_copyFrom_28 (fun h_3 eh_3 H locs hP hD hS => ?_)
  have he := he h_3 eh_3
  exact gx_vret hx hb0 hr hlocks hK hP hD hS he dX5_copyFrom_31
theorem gm_X5_copyFrom : gMeth yX5_copyFrom cX5_copyFrom 2 none 1 := ⟨⟨by decide, by decide, by decide +kernel⟩, ini_RX5, co_yX5_copyFrom⟩
abbrev rm_X5_hasStar : Room := { frames := 0, cells := 0, slots := 0, locals := 0 }
set_option maxHeartbeats 4000000 in
set_option maxRecDepth 100000 in
theorem c_X5_hasStar (l : Launch) (dC : Nat → ClassId) (dI : Nat → Nat → Nat) (P : gP) (ad : Nat → Nat) (tb : Nat → Nat) (b1 : Nat) (hb1 : vb b1) (x1 : Int32) (h0 : Hp) (Q : Int32 → Hp → Prop) (he : F_X5_hasStar b1 x1 h0 Q) : Met l yX5_hasStar (Cond.code yX5_hasStar cX5_hasStar 2 (some .boolean) :: TB) rm_X5_hasStar (gPc (dC, dI) vwCl (tyC P) 162 (cE P ad) ad (gKC tb (gA 162 ad)) h0 [.ref (ad (b1 + 2)), .int x1]) (gQi (dC, dI) vwCl (tyC P) 162 (cE P ad) ad Q) 0 0 (gA 162 ad) := by
  refine gx_start (by decide) (Nat.le_of_ble_eq_true rfl) (fun p e s m below meth c ls hx hb0 hr hlocks hml hown hts hK hk hP hD hS hl => ?_)
  have hl : lv_has ls 2 [(0, .ref (ad (b1 + 2))), (1, .int x1)] := hl
  have hown : s.vm.findClass RX5 = some m.cls := hown
  unfold F_X5_hasStar at he
  refine lv_iload_n hx hb0 dX5_hasStar_0 rfl (lv_at hl 1 rfl) ?_
  refine lv_if_lt (tgt := 16) hx hb0 dX5_hasStar_1 (by decide) (fun c_1 => ?_) (fun c_1 => ?_)
  · have he := he.1 c_1
    refine lv_iconst (v := (0 : Int32)) hx hb0 dX5_hasStar_16 (by decide) ?_
    exact gx_zret hx hb0 hr (by decide) hlocks hK hP hD hS he dX5_hasStar_17
  · have he := he.2 c_1
    refine lv_iload_n hx hb0 dX5_hasStar_4 rfl (lv_at hl 1 rfl) ?_
    refine lv_aload_n hx hb0 dX5_hasStar_5 rfl (lv_at hl 0 rfl) ?_
    refine gx_get hx hb0 hts in_RX5 hown hK hP (b1 + 2) (vb_lt hb1 (by decide)) ((cE_2 hb1) _) rfl 0 (by decide) fl_RX5_9 rfl dX5_hasStar_6 ?_
    refine lv_icmp_ge (tgt := 16) hx hb0 dX5_hasStar_9 (by decide) (fun c_2 => ?_) (fun c_2 => ?_)
    · have he := he.1 c_2
      refine lv_iconst (v := (0 : Int32)) hx hb0 dX5_hasStar_16 (by decide) ?_
      exact gx_zret hx hb0 hr (by decide) hlocks hK hP hD hS he dX5_hasStar_17
    · have he := he.2 c_2
      refine lv_iconst (v := (1 : Int32)) hx hb0 dX5_hasStar_12 (by decide) ?_
      refine lv_goto (tgt := 17) hx hb0 dX5_hasStar_13 (by decide) ?_
      exact gx_zret hx hb0 hr (by decide) hlocks hK hP hD hS he dX5_hasStar_17
theorem gm_X5_hasStar : gMeth yX5_hasStar cX5_hasStar 2 (some .boolean) 1 := ⟨⟨by decide, by decide, by decide +kernel⟩, ini_RX5, co_yX5_hasStar⟩
abbrev rm_X5_cloudBefore : Room := { frames := 0, cells := 0, slots := 0, locals := 0 }
set_option maxHeartbeats 4000000 in
set_option maxRecDepth 100000 in
theorem c_X5_cloudBefore (l : Launch) (dC : Nat → ClassId) (dI : Nat → Nat → Nat) (P : gP) (ad : Nat → Nat) (tb : Nat → Nat) (b1 : Nat) (hb1 : vb b1) (x1 : Int32) (h0 : Hp) (Q : Int32 → Hp → Prop) (he : F_X5_cloudBefore b1 x1 h0 Q) : Met l yX5_cloudBefore (Cond.code yX5_cloudBefore cX5_cloudBefore 2 (some .int) :: TB) rm_X5_cloudBefore (gPc (dC, dI) vwCl (tyC P) 162 (cE P ad) ad (gKC tb (gA 162 ad)) h0 [.ref (ad (b1 + 2)), .int x1]) (gQi (dC, dI) vwCl (tyC P) 162 (cE P ad) ad Q) 0 0 (gA 162 ad) := by
  refine gx_start (by decide) (Nat.le_of_ble_eq_true rfl) (fun p e s m below meth c ls hx hb0 hr hlocks hml hown hts hK hk hP hD hS hl => ?_)
  have hl : lv_has ls 2 [(0, .ref (ad (b1 + 2))), (1, .int x1)] := hl
  have hown : s.vm.findClass RX5 = some m.cls := hown
  unfold F_X5_cloudBefore at he
  refine lv_aload_n hx hb0 dX5_cloudBefore_0 rfl (lv_at hl 0 rfl) ?_
  refine gx_get hx hb0 hts in_RX5 hown hK hP (b1 + 2) (vb_lt hb1 (by decide)) ((cE_2 hb1) _) rfl 1 (by decide) fl_RX5_15 rfl dX5_cloudBefore_1 ?_
  refine lv_iload_n hx hb0 dX5_cloudBefore_4 rfl (lv_at hl 1 rfl) ?_
  refine lv_ishr hx hb0 dX5_cloudBefore_5 ?_
  refine lv_iconst (v := (1 : Int32)) hx hb0 dX5_cloudBefore_6 (by decide) ?_
  refine lv_iand hx hb0 dX5_cloudBefore_7 ?_
  exact gx_iret hx hb0 hr hlocks hK hP hD hS he dX5_cloudBefore_8
theorem gm_X5_cloudBefore : gMeth yX5_cloudBefore cX5_cloudBefore 2 (some .int) 1 := ⟨⟨by decide, by decide, by decide +kernel⟩, ini_RX5, co_yX5_cloudBefore⟩
