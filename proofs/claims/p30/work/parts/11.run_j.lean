abbrev rm_L_low : Room := { frames := 0, cells := 0, slots := 0, locals := 0 }
set_option maxHeartbeats 4000000 in
set_option maxRecDepth 100000 in
theorem c_L_low (l : Launch) (dC : Nat → ClassId) (dI : Nat → Nat → Nat) (P : gP) (ad : Nat → Nat) (tb : Nat → Nat) (x0 : Int32) (x1 : Int32) (h0 : Hp) (Q : Int32 → Hp → Prop) (he : F_L_low x0 x1 h0 Q) : Met l yL_low (Cond.code yL_low cL_low 2 (some .int) :: TB) rm_L_low (gPc (dC, dI) vwCl (tyC P) 162 (cE P ad) ad (gKC tb (gA 162 ad)) h0 [.int x0, .int x1]) (gQi (dC, dI) vwCl (tyC P) 162 (cE P ad) ad Q) 0 0 (gA 162 ad) := by
  refine gx_start (by decide) (Nat.le_of_ble_eq_true rfl) (fun p e s m below meth c ls hx hb0 hr hlocks hml hown hts hK hk hP hD hS hl => ?_)
  have hl : lv_has ls 2 [(0, .int x0), (1, .int x1)] := hl
  have hown : s.vm.findClass RL = some m.cls := hown
  unfold F_L_low at he
  refine lv_iload_n hx hb0 dL_low_0 rfl (lv_at hl 0 rfl) ?_
  refine lv_ldc (v := (2147483647 : Int32)) hx hb0 hown (hts _ kc_RL_9) dL_low_1 ?_
  refine lv_iand hx hb0 dL_low_3 ?_
  refine lv_iload_n hx hb0 dL_low_4 rfl (lv_at hl 1 rfl) ?_
  obtain ⟨v_1, he⟩ := he
  refine lv_irem hx hb0 dL_low_5 v_1 ?_
  exact gx_iret hx hb0 hr hlocks hK hP hD hS he dL_low_6
theorem gm_L_low : gMeth yL_low cL_low 2 (some .int) 2 := ⟨⟨by decide, by decide, by decide +kernel⟩, ini_RL, co_yL_low⟩
abbrev rm_L_size : Room := { frames := 0, cells := 0, slots := 0, locals := 0 }
set_option maxHeartbeats 4000000 in
set_option maxRecDepth 100000 in
theorem c_L_size (l : Launch) (dC : Nat → ClassId) (dI : Nat → Nat → Nat) (P : gP) (ad : Nat → Nat) (tb : Nat → Nat) (x0 : Int32) (h0 : Hp) (Q : Int32 → Hp → Prop) (he : F_L_size x0 h0 Q) : Met l yL_size (Cond.code yL_size cL_size 1 (some .int) :: TB) rm_L_size (gPc (dC, dI) vwCl (tyC P) 162 (cE P ad) ad (gKC tb (gA 162 ad)) h0 [.int x0]) (gQi (dC, dI) vwCl (tyC P) 162 (cE P ad) ad Q) 0 0 (gA 162 ad) := by
  refine gx_start (by decide) (Nat.le_of_ble_eq_true rfl) (fun p e s m below meth c ls hx hb0 hr hlocks hml hown hts hK hk hP hD hS hl => ?_)
  have hl : lv_has ls 1 [(0, .int x0)] := hl
  have hown : s.vm.findClass RL = some m.cls := hown
  unfold F_L_size at he
  refine lv_iload_n hx hb0 dL_size_0 rfl (lv_at hl 0 rfl) ?_
  refine lv_if_ge (tgt := 9) hx hb0 dL_size_1 (by decide) (fun c_1 => ?_) (fun c_1 => ?_)
  · have he := he.1 c_1
    refine lv_iload_n hx hb0 dL_size_9 rfl (lv_at hl 0 rfl) ?_
    exact gx_iret hx hb0 hr hlocks hK hP hD hS he dL_size_10
  · have he := he.2 c_1
    refine lv_iload_n hx hb0 dL_size_4 rfl (lv_at hl 0 rfl) ?_
    refine lv_ineg hx hb0 dL_size_5 ?_
    refine lv_goto (tgt := 10) hx hb0 dL_size_6 (by decide) ?_
    exact gx_iret hx hb0 hr hlocks hK hP hD hS he dL_size_10
theorem gm_L_size : gMeth yL_size cL_size 1 (some .int) 1 := ⟨⟨by decide, by decide, by decide +kernel⟩, ini_RL, co_yL_size⟩
abbrev rm_L_bound : Room := { frames := 0, cells := 0, slots := 0, locals := 0 }
set_option maxHeartbeats 4000000 in
set_option maxRecDepth 100000 in
theorem c_L_bound (l : Launch) (dC : Nat → ClassId) (dI : Nat → Nat → Nat) (P : gP) (ad : Nat → Nat) (tb : Nat → Nat) (x0 : Int32) (h0 : Hp) (Q : Int32 → Hp → Prop) (he : F_L_bound x0 h0 Q) : Met l yL_bound (Cond.code yL_bound cL_bound 1 (some .int) :: TB) rm_L_bound (gPc (dC, dI) vwCl (tyC P) 162 (cE P ad) ad (gKC tb (gA 162 ad)) h0 [.int x0]) (gQi (dC, dI) vwCl (tyC P) 162 (cE P ad) ad Q) 0 0 (gA 162 ad) := by
  refine gx_start (by decide) (Nat.le_of_ble_eq_true rfl) (fun p e s m below meth c ls hx hb0 hr hlocks hml hown hts hK hk hP hD hS hl => ?_)
  have hl : lv_has ls 1 [(0, .int x0)] := hl
  have hown : s.vm.findClass RL = some m.cls := hown
  unfold F_L_bound at he
  refine lv_iload_n hx hb0 dL_bound_0 rfl (lv_at hl 0 rfl) ?_
  refine lv_sipush (v := (5400 : Int32)) hx hb0 dL_bound_1 (by decide) ?_
  refine lv_icmp_le (tgt := 13) hx hb0 dL_bound_4 (by decide) (fun c_1 => ?_) (fun c_1 => ?_)
  · have he := he.1 c_1
    refine lv_iload_n hx hb0 dL_bound_13 rfl (lv_at hl 0 rfl) ?_
    refine lv_sipush (v := (-5400 : Int32)) hx hb0 dL_bound_14 (by decide) ?_
    refine lv_icmp_ge (tgt := 26) hx hb0 dL_bound_17 (by decide) (fun c_2 => ?_) (fun c_2 => ?_)
    · have he := he.1 c_2
      refine lv_iload_n hx hb0 dL_bound_26 rfl (lv_at hl 0 rfl) ?_
      exact gx_iret hx hb0 hr hlocks hK hP hD hS he dL_bound_27
    · have he := he.2 c_2
      refine lv_sipush (v := (-5400 : Int32)) hx hb0 dL_bound_20 (by decide) ?_
      refine lv_goto (tgt := 27) hx hb0 dL_bound_23 (by decide) ?_
      exact gx_iret hx hb0 hr hlocks hK hP hD hS he dL_bound_27
  · have he := he.2 c_1
    refine lv_sipush (v := (5400 : Int32)) hx hb0 dL_bound_7 (by decide) ?_
    refine lv_goto (tgt := 27) hx hb0 dL_bound_10 (by decide) ?_
    exact gx_iret hx hb0 hr hlocks hK hP hD hS he dL_bound_27
theorem gm_L_bound : gMeth yL_bound cL_bound 1 (some .int) 1 := ⟨⟨by decide, by decide, by decide +kernel⟩, ini_RL, co_yL_bound⟩
abbrev rm_L_declination : Room := { frames := 0, cells := 0, slots := 0, locals := 0 }
set_option maxHeartbeats 4000000 in
set_option maxRecDepth 100000 in
theorem c_L_declination (l : Launch) (dC : Nat → ClassId) (dI : Nat → Nat → Nat) (P : gP) (ad : Nat → Nat) (tb : Nat → Nat) (x0 : Int32) (h0 : Hp) (Q : Int32 → Hp → Prop) (he : F_L_declination x0 h0 Q) : Met l yL_declination (Cond.code yL_declination cL_declination 2 (some .int) :: TB) rm_L_declination (gPc (dC, dI) vwCl (tyC P) 162 (cE P ad) ad (gKC tb (gA 162 ad)) h0 [.int x0, .ref (ad 159)]) (gQi (dC, dI) vwCl (tyC P) 162 (cE P ad) ad Q) 0 0 (gA 162 ad) := by
  refine gx_start (by decide) (Nat.le_of_ble_eq_true rfl) (fun p e s m below meth c ls hx hb0 hr hlocks hml hown hts hK hk hP hD hS hl => ?_)
  have hl : lv_has ls 2 [(0, .int x0), (1, .ref (ad 159))] := hl
  have hown : s.vm.findClass RL = some m.cls := hown
  unfold F_L_declination at he
  refine lv_aload_n hx hb0 dL_declination_0 rfl (lv_at hl 1 rfl) ?_
  refine lv_iload_n hx hb0 dL_declination_1 rfl (lv_at hl 0 rfl) ?_
  obtain ⟨v_1, he⟩ := he
  refine gx_iald hx hb0 hK hP 159 0 (by decide) cE_t159 rfl v_1 dL_declination_2 ?_
  refine lv_sipush (v := (9000 : Int32)) hx hb0 dL_declination_3 (by decide) ?_
  refine lv_icmp_le (tgt := 19) hx hb0 dL_declination_6 (by decide) (fun c_2 => ?_) (fun c_2 => ?_)
  · have he := he.1 c_2
    refine lv_aload_n hx hb0 dL_declination_19 rfl (lv_at hl 1 rfl) ?_
    refine lv_iload_n hx hb0 dL_declination_20 rfl (lv_at hl 0 rfl) ?_
    obtain ⟨v_3, he⟩ := he
    refine gx_iald hx hb0 hK hP 159 0 (by decide) cE_t159 rfl v_3 dL_declination_21 ?_
    exact gx_iret hx hb0 hr hlocks hK hP hD hS he dL_declination_22
  · have he := he.2 c_2
    refine lv_aload_n hx hb0 dL_declination_9 rfl (lv_at hl 1 rfl) ?_
    refine lv_iload_n hx hb0 dL_declination_10 rfl (lv_at hl 0 rfl) ?_
    obtain ⟨v_4, he⟩ := he
    refine gx_iald hx hb0 hK hP 159 0 (by decide) cE_t159 rfl v_4 dL_declination_11 ?_
    refine lv_sipush (v := (20000 : Int32)) hx hb0 dL_declination_12 (by decide) ?_
    refine lv_isub hx hb0 dL_declination_15 ?_
    refine lv_goto (tgt := 22) hx hb0 dL_declination_16 (by decide) ?_
    exact gx_iret hx hb0 hr hlocks hK hP hD hS he dL_declination_22
theorem gm_L_declination : gMeth yL_declination cL_declination 2 (some .int) 2 := ⟨⟨by decide, by decide, by decide +kernel⟩, ini_RL, co_yL_declination⟩
abbrev rm_L_height : Room := { frames := 1, cells := 0, slots := 0, locals := 21 }
set_option maxHeartbeats 4000000 in
set_option maxRecDepth 100000 in
theorem c_L_height (l : Launch) (dC : Nat → ClassId) (dI : Nat → Nat → Nat) (P : gP) (ad : Nat → Nat) (tb : Nat → Nat) (x0 : Int32) (h0 : Hp) (Q : Int32 → Hp → Prop) (he : F_L_height x0 h0 Q) : Met l yL_height (Cond.code yL_height cL_height 3 (some .int) :: TB) rm_L_height (gPc (dC, dI) vwCl (tyC P) 162 (cE P ad) ad (gKC tb (gA 162 ad)) h0 [.int x0, .ref (ad 158), .ref (ad 159)]) (gQi (dC, dI) vwCl (tyC P) 162 (cE P ad) ad Q) 0 0 (gA 162 ad) := by
  refine gx_start (by decide) (Nat.le_of_ble_eq_true rfl) (fun p e s m below meth c ls hx hb0 hr hlocks hml hown hts hK hk hP hD hS hl => ?_)
  have hl : lv_has ls 3 [(0, .int x0), (1, .ref (ad 158)), (2, .ref (ad 159))] := hl
  have hown : s.vm.findClass RL = some m.cls := hown
  unfold F_L_height at he
  refine lv_sipush (v := (5400 : Int32)) hx hb0 dL_height_0 (by decide) ?_
  refine lv_iload_n hx hb0 dL_height_3 rfl (lv_at hl 0 rfl) ?_
  refine lv_aload_n hx hb0 dL_height_4 rfl (lv_at hl 2 rfl) ?_
  refine gx_si ⟨hx, hb0, hml, hown, hts⟩ (gKC_keep _ _) hk hK hP hD hS [.int x0, .ref (ad 159)] [.int (5400 : Int32)] (c_L_declination l dC dI P ad tb x0 h0 _ he) gm_L_declination st_yL_declination ml_RL_10 rfl rfl ⟨Nat.le_of_ble_eq_true rfl, Nat.le_of_ble_eq_true rfl⟩ rfl hl.1 rfl (Nat.le_of_ble_eq_true rfl) dL_height_5 ⟨Nat.zero_le _, Nat.zero_le _⟩ (fun r_1 h_2 he H locs hP hD hS => ?_)
  refine lv_aload_n hx hb0 dL_height_8 rfl (lv_at hl 1 rfl) ?_
  refine lv_iconst (v := (4 : Int32)) hx hb0 dL_height_9 (by decide) ?_
  refine gx_ialdK hx hb0 hK hP 158 0 (by decide) cE_t158 rfl (vp_lit (4 : Int32) (by decide) (by decide)) 4 rfl dL_height_10 ?_
  refine lv_isub hx hb0 dL_height_11 ?_
  refine gx_si ⟨hx, hb0, hml, hown, hts⟩ (gKC_keep _ _) hk hK hP hD hS [.int (r_1 - (h_2 158 4))] [.int (5400 : Int32)] (c_L_size l dC dI P ad tb (r_1 - (h_2 158 4)) h_2 _ he) gm_L_size st_yL_size ml_RL_16 rfl rfl ⟨Nat.le_of_ble_eq_true rfl, Nat.le_of_ble_eq_true rfl⟩ rfl hl.1 rfl (Nat.le_of_ble_eq_true rfl) dL_height_12 ⟨Nat.zero_le _, Nat.zero_le _⟩ (fun r_3 h_4 he H locs hP hD hS => ?_)
  refine lv_isub hx hb0 dL_height_15 ?_
  exact gx_iret hx hb0 hr hlocks hK hP hD hS he dL_height_16
theorem gm_L_height : gMeth yL_height cL_height 3 (some .int) 3 := ⟨⟨by decide, by decide, by decide +kernel⟩, ini_RL, co_yL_height⟩
abbrev rm_L_error : Room := { frames := 0, cells := 0, slots := 0, locals := 0 }
set_option maxHeartbeats 4000000 in
set_option maxRecDepth 100000 in
theorem c_L_error (l : Launch) (dC : Nat → ClassId) (dI : Nat → Nat → Nat) (P : gP) (ad : Nat → Nat) (tb : Nat → Nat) (x0 : Int32) (h0 : Hp) (Q : Int32 → Hp → Prop) (he : F_L_error x0 h0 Q) : Met l yL_error (Cond.code yL_error cL_error 3 (some .int) :: TB) rm_L_error (gPc (dC, dI) vwCl (tyC P) 162 (cE P ad) ad (gKC tb (gA 162 ad)) h0 [.int x0, .ref (ad 160)]) (gQi (dC, dI) vwCl (tyC P) 162 (cE P ad) ad Q) 0 0 (gA 162 ad) := by
  refine gx_start (by decide) (Nat.le_of_ble_eq_true rfl) (fun p e s m below meth c ls hx hb0 hr hlocks hml hown hts hK hk hP hD hS hl => ?_)
  have hl : lv_has ls 3 [(0, .int x0), (1, .ref (ad 160))] := hl
  have hown : s.vm.findClass RL = some m.cls := hown
  unfold F_L_error at he
  refine lv_iconst (v := (3 : Int32)) hx hb0 dL_error_0 (by decide) ?_
  refine lv_iload_n hx hb0 dL_error_1 rfl (lv_at hl 0 rfl) ?_
  refine lv_imul hx hb0 dL_error_2 ?_
  refine lv_bipush (v := (7 : Int32)) hx hb0 dL_error_3 (by decide) ?_
  refine lv_aload_n hx hb0 dL_error_5 rfl (lv_at hl 1 rfl) ?_
  refine lv_bipush (v := (7 : Int32)) hx hb0 dL_error_6 (by decide) ?_
  refine lv_iload_n hx hb0 dL_error_8 rfl (lv_at hl 0 rfl) ?_
  refine lv_imul hx hb0 dL_error_9 ?_
  refine lv_iconst (v := (4 : Int32)) hx hb0 dL_error_10 (by decide) ?_
  refine lv_iadd hx hb0 dL_error_11 ?_
  obtain ⟨v_1, he⟩ := he
  refine gx_iald hx hb0 hK hP 160 0 (by decide) cE_t160 rfl v_1 dL_error_12 ?_
  refine lv_imul hx hb0 dL_error_13 ?_
  refine lv_iadd hx hb0 dL_error_14 ?_
  refine lv_bipush (v := (11 : Int32)) hx hb0 dL_error_15 (by decide) ?_
  refine lv_irem hx hb0 dL_error_17 (by decide) ?_
  refine lv_topi (fun x_2 ex_2 => ?_)
  have he := he x_2 ex_2
  refine lv_istore_n (lv' := [(2, .int x_2), (0, .int x0), (1, .ref (ad 160))]) hx hb0 dL_error_18 rfl hl (by decide) rfl (fun ls hl => ?_)
  refine lv_aload_n hx hb0 dL_error_19 rfl (lv_at hl 2 rfl) ?_
  refine lv_bipush (v := (7 : Int32)) hx hb0 dL_error_20 (by decide) ?_
  refine lv_iload_n hx hb0 dL_error_22 rfl (lv_at hl 1 rfl) ?_
  refine lv_imul hx hb0 dL_error_23 ?_
  refine lv_iconst (v := (1 : Int32)) hx hb0 dL_error_24 (by decide) ?_
  refine lv_iadd hx hb0 dL_error_25 ?_
  obtain ⟨v_3, he⟩ := he
  refine gx_iald hx hb0 hK hP 160 0 (by decide) cE_t160 rfl v_3 dL_error_26 ?_
  refine lv_bipush (v := (9 : Int32)) hx hb0 dL_error_27 (by decide) ?_
  refine lv_aload_n hx hb0 dL_error_29 rfl (lv_at hl 2 rfl) ?_
  refine lv_bipush (v := (7 : Int32)) hx hb0 dL_error_30 (by decide) ?_
  refine lv_iload_n hx hb0 dL_error_32 rfl (lv_at hl 1 rfl) ?_
  refine lv_imul hx hb0 dL_error_33 ?_
  obtain ⟨v_4, he⟩ := he
  refine gx_iald hx hb0 hK hP 160 0 (by decide) cE_t160 rfl v_4 dL_error_34 ?_
  refine lv_isub hx hb0 dL_error_35 ?_
  refine lv_iload_n hx hb0 dL_error_36 rfl (lv_at hl 0 rfl) ?_
  refine lv_iconst (v := (5 : Int32)) hx hb0 dL_error_37 (by decide) ?_
  refine lv_isub hx hb0 dL_error_38 ?_
  refine lv_imul hx hb0 dL_error_39 ?_
  refine lv_iadd hx hb0 dL_error_40 ?_
  exact gx_iret hx hb0 hr hlocks hK hP hD hS he dL_error_41
theorem gm_L_error : gMeth yL_error cL_error 3 (some .int) 2 := ⟨⟨by decide, by decide, by decide +kernel⟩, ini_RL, co_yL_error⟩
abbrev rm_L_why : Room := { frames := 2, cells := 0, slots := 0, locals := 43 }
set_option maxHeartbeats 4000000 in
set_option maxRecDepth 100000 in
theorem c_L_why (l : Launch) (dC : Nat → ClassId) (dI : Nat → Nat → Nat) (P : gP) (ad : Nat → Nat) (tb : Nat → Nat) (x0 : Int32) (x1 : Int32) (h0 : Hp) (Q : Int32 → Hp → Prop) (he : F_L_why x0 x1 h0 Q) : Met l yL_why (Cond.code yL_why cL_why 5 (some .int) :: TB) rm_L_why (gPc (dC, dI) vwCl (tyC P) 162 (cE P ad) ad (gKC tb (gA 162 ad)) h0 [.int x0, .int x1, .ref (ad 158), .ref (ad 159), .ref (ad 160)]) (gQi (dC, dI) vwCl (tyC P) 162 (cE P ad) ad Q) 0 0 (gA 162 ad) := by
  refine gx_start (by decide) (Nat.le_of_ble_eq_true rfl) (fun p e s m below meth c ls hx hb0 hr hlocks hml hown hts hK hk hP hD hS hl => ?_)
  have hl : lv_has ls 5 [(0, .int x0), (1, .int x1), (2, .ref (ad 158)), (3, .ref (ad 159)), (4, .ref (ad 160))] := hl
  have hown : s.vm.findClass RL = some m.cls := hown
  unfold F_L_why at he
  refine lv_aload hx hb0 dL_why_0 (lv_at hl 4 rfl) ?_
  refine lv_bipush (v := (7 : Int32)) hx hb0 dL_why_2 (by decide) ?_
  refine lv_iload_n hx hb0 dL_why_4 rfl (lv_at hl 0 rfl) ?_
  refine lv_imul hx hb0 dL_why_5 ?_
  refine lv_bipush (v := (6 : Int32)) hx hb0 dL_why_6 (by decide) ?_
  refine lv_iadd hx hb0 dL_why_8 ?_
  obtain ⟨v_1, he⟩ := he
  refine gx_iald hx hb0 hK hP 160 0 (by decide) cE_t160 rfl v_1 dL_why_9 ?_
  refine lv_if_le (tgt := 26) hx hb0 dL_why_10 (by decide) (fun c_2 => ?_) (fun c_2 => ?_)
  · have he := he.1 c_2
    refine lv_aload_n hx hb0 dL_why_26 rfl (lv_at hl 3 rfl) ?_
    refine lv_iload_n hx hb0 dL_why_27 rfl (lv_at hl 1 rfl) ?_
    obtain ⟨v_3, he⟩ := he
    refine gx_iald hx hb0 hK hP 159 0 (by decide) cE_t159 rfl v_3 dL_why_28 ?_
    refine lv_sipush (v := (9000 : Int32)) hx hb0 dL_why_29 (by decide) ?_
    refine lv_icmp_le (tgt := 39) hx hb0 dL_why_32 (by decide) (fun c_4 => ?_) (fun c_4 => ?_)
    · have he := he.1 c_4
      refine lv_iload_n hx hb0 dL_why_39 rfl (lv_at hl 1 rfl) ?_
      refine lv_aload_n hx hb0 dL_why_40 rfl (lv_at hl 2 rfl) ?_
      refine lv_aload_n hx hb0 dL_why_41 rfl (lv_at hl 3 rfl) ?_
      refine gx_si ⟨hx, hb0, hml, hown, hts⟩ (gKC_keep _ _) hk hK hP hD hS [.int x1, .ref (ad 158), .ref (ad 159)] [] (c_L_height l dC dI P ad tb x1 h0 _ he) gm_L_height st_yL_height ml_RL_20 rfl rfl ⟨Nat.le_of_ble_eq_true rfl, Nat.le_of_ble_eq_true rfl⟩ rfl hl.1 rfl (Nat.le_of_ble_eq_true rfl) dL_why_42 ⟨Nat.zero_le _, Nat.zero_le _⟩ (fun r_5 h_6 he H locs hP hD hS => ?_)
      refine lv_aload_n hx hb0 dL_why_45 rfl (lv_at hl 2 rfl) ?_
      refine lv_iconst (v := (3 : Int32)) hx hb0 dL_why_46 (by decide) ?_
      refine gx_ialdK hx hb0 hK hP 158 0 (by decide) cE_t158 rfl (vp_lit (3 : Int32) (by decide) (by decide)) 3 rfl dL_why_47 ?_
      refine lv_icmp_ge (tgt := 55) hx hb0 dL_why_48 (by decide) (fun c_7 => ?_) (fun c_7 => ?_)
      · have he := he.1 c_7
        refine lv_iconst (v := (0 : Int32)) hx hb0 dL_why_55 (by decide) ?_
        exact gx_iret hx hb0 hr hlocks hK hP hD hS he dL_why_56
      · have he := he.2 c_7
        refine lv_iconst (v := (4 : Int32)) hx hb0 dL_why_51 (by decide) ?_
        refine lv_goto (tgt := 56) hx hb0 dL_why_52 (by decide) ?_
        exact gx_iret hx hb0 hr hlocks hK hP hD hS he dL_why_56
    · have he := he.2 c_4
      refine lv_iconst (v := (3 : Int32)) hx hb0 dL_why_35 (by decide) ?_
      refine lv_goto (tgt := 56) hx hb0 dL_why_36 (by decide) ?_
      exact gx_iret hx hb0 hr hlocks hK hP hD hS he dL_why_56
  · have he := he.2 c_2
    refine lv_aload hx hb0 dL_why_13 (lv_at hl 4 rfl) ?_
    refine lv_bipush (v := (7 : Int32)) hx hb0 dL_why_15 (by decide) ?_
    refine lv_iload_n hx hb0 dL_why_17 rfl (lv_at hl 0 rfl) ?_
    refine lv_imul hx hb0 dL_why_18 ?_
    refine lv_bipush (v := (6 : Int32)) hx hb0 dL_why_19 (by decide) ?_
    refine lv_iadd hx hb0 dL_why_21 ?_
    obtain ⟨v_8, he⟩ := he
    refine gx_iald hx hb0 hK hP 160 0 (by decide) cE_t160 rfl v_8 dL_why_22 ?_
    refine lv_goto (tgt := 56) hx hb0 dL_why_23 (by decide) ?_
    exact gx_iret hx hb0 hr hlocks hK hP hD hS he dL_why_56
theorem gm_L_why : gMeth yL_why cL_why 5 (some .int) 5 := ⟨⟨by decide, by decide, by decide +kernel⟩, ini_RL, co_yL_why⟩
abbrev rm_L_would : Room := { frames := 2, cells := 0, slots := 0, locals := 43 }
set_option maxHeartbeats 4000000 in
set_option maxRecDepth 100000 in
theorem c_L_would (l : Launch) (dC : Nat → ClassId) (dI : Nat → Nat → Nat) (P : gP) (ad : Nat → Nat) (tb : Nat → Nat) (x0 : Int32) (x1 : Int32) (h0 : Hp) (Q : Int32 → Hp → Prop) (he : F_L_would x0 x1 h0 Q) : Met l yL_would (Cond.code yL_would cL_would 6 (some .int) :: TB) rm_L_would (gPc (dC, dI) vwCl (tyC P) 162 (cE P ad) ad (gKC tb (gA 162 ad)) h0 [.int x0, .int x1, .ref (ad 158), .ref (ad 159), .ref (ad 160)]) (gQi (dC, dI) vwCl (tyC P) 162 (cE P ad) ad Q) 0 0 (gA 162 ad) := by
  refine gx_start (by decide) (Nat.le_of_ble_eq_true rfl) (fun p e s m below meth c ls hx hb0 hr hlocks hml hown hts hK hk hP hD hS hl => ?_)
  have hl : lv_has ls 6 [(0, .int x0), (1, .int x1), (2, .ref (ad 158)), (3, .ref (ad 159)), (4, .ref (ad 160))] := hl
  have hown : s.vm.findClass RL = some m.cls := hown
  unfold F_L_would at he
  refine lv_sipush (v := (5400 : Int32)) hx hb0 dL_would_0 (by decide) ?_
  refine lv_iload_n hx hb0 dL_would_3 rfl (lv_at hl 1 rfl) ?_
  refine lv_aload_n hx hb0 dL_would_4 rfl (lv_at hl 2 rfl) ?_
  refine lv_aload_n hx hb0 dL_would_5 rfl (lv_at hl 3 rfl) ?_
  refine gx_si ⟨hx, hb0, hml, hown, hts⟩ (gKC_keep _ _) hk hK hP hD hS [.int x1, .ref (ad 158), .ref (ad 159)] [.int (5400 : Int32)] (c_L_height l dC dI P ad tb x1 h0 _ he) gm_L_height st_yL_height ml_RL_20 rfl rfl ⟨Nat.le_of_ble_eq_true rfl, Nat.le_of_ble_eq_true rfl⟩ rfl hl.1 rfl (Nat.le_of_ble_eq_true rfl) dL_would_6 ⟨Nat.zero_le _, Nat.zero_le _⟩ (fun r_1 h_2 he H locs hP hD hS => ?_)
  refine lv_isub hx hb0 dL_would_9 ?_
  refine lv_iload_n hx hb0 dL_would_10 rfl (lv_at hl 0 rfl) ?_
  refine lv_aload hx hb0 dL_would_11 (lv_at hl 4 rfl) ?_
  refine gx_si ⟨hx, hb0, hml, hown, hts⟩ (gKC_keep _ _) hk hK hP hD hS [.int x0, .ref (ad 160)] [.int ((5400 : Int32) - r_1)] (c_L_error l dC dI P ad tb x0 h_2 _ he) gm_L_error st_yL_error ml_RL_24 rfl rfl ⟨Nat.le_of_ble_eq_true rfl, Nat.le_of_ble_eq_true rfl⟩ rfl hl.1 rfl (Nat.le_of_ble_eq_true rfl) dL_would_13 ⟨Nat.zero_le _, Nat.zero_le _⟩ (fun r_3 h_4 he H locs hP hD hS => ?_)
  refine lv_isub hx hb0 dL_would_16 ?_
  refine gx_si ⟨hx, hb0, hml, hown, hts⟩ (gKC_keep _ _) hk hK hP hD hS [.int (((5400 : Int32) - r_1) - r_3)] [] (c_L_size l dC dI P ad tb (((5400 : Int32) - r_1) - r_3) h_4 _ he) gm_L_size st_yL_size ml_RL_16 rfl rfl ⟨Nat.le_of_ble_eq_true rfl, Nat.le_of_ble_eq_true rfl⟩ rfl hl.1 rfl (Nat.le_of_ble_eq_true rfl) dL_would_17 ⟨Nat.zero_le _, Nat.zero_le _⟩ (fun r_5 h_6 he H locs hP hD hS => ?_)
  refine lv_istore (lv' := [(5, .int r_5), (0, .int x0), (1, .int x1), (2, .ref (ad 158)), (3, .ref (ad 159)), (4, .ref (ad 160))]) hx hb0 dL_would_20 hl (by decide) rfl (fun ls hl => ?_)
  refine lv_iload_n hx hb0 dL_would_22 rfl (lv_at hl 2 rfl) ?_
  refine lv_aload_n hx hb0 dL_would_23 rfl (lv_at hl 4 rfl) ?_
  refine gx_si ⟨hx, hb0, hml, hown, hts⟩ (gKC_keep _ _) hk hK hP hD hS [.int x1, .ref (ad 159)] [] (c_L_declination l dC dI P ad tb x1 h_6 _ he) gm_L_declination st_yL_declination ml_RL_10 rfl rfl ⟨Nat.le_of_ble_eq_true rfl, Nat.le_of_ble_eq_true rfl⟩ rfl hl.1 rfl (Nat.le_of_ble_eq_true rfl) dL_would_24 ⟨Nat.zero_le _, Nat.zero_le _⟩ (fun r_7 h_8 he H locs hP hD hS => ?_)
  refine lv_aload hx hb0 dL_would_27 (lv_at hl 5 rfl) ?_
  refine lv_bipush (v := (7 : Int32)) hx hb0 dL_would_29 (by decide) ?_
  refine lv_iload_n hx hb0 dL_would_31 rfl (lv_at hl 1 rfl) ?_
  refine lv_imul hx hb0 dL_would_32 ?_
  refine lv_iconst (v := (2 : Int32)) hx hb0 dL_would_33 (by decide) ?_
  refine lv_iadd hx hb0 dL_would_34 ?_
  obtain ⟨v_9, he⟩ := he
  refine gx_iald hx hb0 hK hP 160 0 (by decide) cE_t160 rfl v_9 dL_would_35 ?_
  refine lv_iconst (v := (1 : Int32)) hx hb0 dL_would_36 (by decide) ?_
  refine lv_icmp_ne (tgt := 45) hx hb0 dL_would_37 (by decide) (fun c_10 => ?_) (fun c_10 => ?_)
  · have he := he.2 c_10
    refine lv_iload hx hb0 dL_would_45 (lv_at hl 0 rfl) ?_
    refine lv_ineg hx hb0 dL_would_47 ?_
    refine lv_iadd hx hb0 dL_would_48 ?_
    refine gx_si ⟨hx, hb0, hml, hown, hts⟩ (gKC_keep _ _) hk hK hP hD hS [.int (r_7 + (-r_5))] [] (c_L_bound l dC dI P ad tb (r_7 + (-r_5)) h_8 _ he) gm_L_bound st_yL_bound ml_RL_27 rfl rfl ⟨Nat.le_of_ble_eq_true rfl, Nat.le_of_ble_eq_true rfl⟩ rfl hl.1 rfl (Nat.le_of_ble_eq_true rfl) dL_would_49 ⟨Nat.zero_le _, Nat.zero_le _⟩ (fun r_11 h_12 he H locs hP hD hS => ?_)
    exact gx_iret hx hb0 hr hlocks hK hP hD hS he dL_would_52
  · have he := he.1 c_10
    refine lv_iload hx hb0 dL_would_40 (lv_at hl 0 rfl) ?_
    refine lv_goto (tgt := 48) hx hb0 dL_would_42 (by decide) ?_
    refine lv_iadd hx hb0 dL_would_48 ?_
    refine gx_si ⟨hx, hb0, hml, hown, hts⟩ (gKC_keep _ _) hk hK hP hD hS [.int (r_7 + r_5)] [] (c_L_bound l dC dI P ad tb (r_7 + r_5) h_8 _ he) gm_L_bound st_yL_bound ml_RL_27 rfl rfl ⟨Nat.le_of_ble_eq_true rfl, Nat.le_of_ble_eq_true rfl⟩ rfl hl.1 rfl (Nat.le_of_ble_eq_true rfl) dL_would_49 ⟨Nat.zero_le _, Nat.zero_le _⟩ (fun r_13 h_14 he H locs hP hD hS => ?_)
    exact gx_iret hx hb0 hr hlocks hK hP hD hS he dL_would_52
theorem gm_L_would : gMeth yL_would cL_would 6 (some .int) 5 := ⟨⟨by decide, by decide, by decide +kernel⟩, ini_RL, co_yL_would⟩
abbrev rm_L_takes : Room := { frames := 0, cells := 0, slots := 0, locals := 0 }
set_option maxHeartbeats 4000000 in
set_option maxRecDepth 100000 in
theorem c_L_takes (l : Launch) (dC : Nat → ClassId) (dI : Nat → Nat → Nat) (P : gP) (ad : Nat → Nat) (tb : Nat → Nat) (x0 : Int32) (x1 : Int32) (h0 : Hp) (Q : Int32 → Hp → Prop) (he : F_L_takes x0 x1 h0 Q) : Met l yL_takes (Cond.code yL_takes cL_takes 3 (some .boolean) :: TB) rm_L_takes (gPc (dC, dI) vwCl (tyC P) 162 (cE P ad) ad (gKC tb (gA 162 ad)) h0 [.int x0, .int x1, .ref (ad 160)]) (gQi (dC, dI) vwCl (tyC P) 162 (cE P ad) ad Q) 0 0 (gA 162 ad) := by
  refine gx_start (by decide) (Nat.le_of_ble_eq_true rfl) (fun p e s m below meth c ls hx hb0 hr hlocks hml hown hts hK hk hP hD hS hl => ?_)
  have hl : lv_has ls 3 [(0, .int x0), (1, .int x1), (2, .ref (ad 160))] := hl
  have hown : s.vm.findClass RL = some m.cls := hown
  unfold F_L_takes at he
  refine lv_iload_n hx hb0 dL_takes_0 rfl (lv_at hl 0 rfl) ?_
  refine lv_iload_n hx hb0 dL_takes_1 rfl (lv_at hl 1 rfl) ?_
  refine lv_icmp_eq (tgt := 35) hx hb0 dL_takes_2 (by decide) (fun c_1 => ?_) (fun c_1 => ?_)
  · have he := he.1 c_1
    refine lv_iconst (v := (0 : Int32)) hx hb0 dL_takes_35 (by decide) ?_
    exact gx_zret hx hb0 hr (by decide) hlocks hK hP hD hS he dL_takes_36
  · have he := he.2 c_1
    refine lv_aload_n hx hb0 dL_takes_5 rfl (lv_at hl 2 rfl) ?_
    refine lv_bipush (v := (7 : Int32)) hx hb0 dL_takes_6 (by decide) ?_
    refine lv_iload_n hx hb0 dL_takes_8 rfl (lv_at hl 0 rfl) ?_
    refine lv_imul hx hb0 dL_takes_9 ?_
    refine lv_bipush (v := (6 : Int32)) hx hb0 dL_takes_10 (by decide) ?_
    refine lv_iadd hx hb0 dL_takes_12 ?_
    obtain ⟨v_2, he⟩ := he
    refine gx_iald hx hb0 hK hP 160 0 (by decide) cE_t160 rfl v_2 dL_takes_13 ?_
    refine lv_if_ne (tgt := 35) hx hb0 dL_takes_14 (by decide) (fun c_3 => ?_) (fun c_3 => ?_)
    · have he := he.2 c_3
      refine lv_iconst (v := (0 : Int32)) hx hb0 dL_takes_35 (by decide) ?_
      exact gx_zret hx hb0 hr (by decide) hlocks hK hP hD hS he dL_takes_36
    · have he := he.1 c_3
      refine lv_aload_n hx hb0 dL_takes_17 rfl (lv_at hl 2 rfl) ?_
      refine lv_bipush (v := (7 : Int32)) hx hb0 dL_takes_18 (by decide) ?_
      refine lv_iload_n hx hb0 dL_takes_20 rfl (lv_at hl 0 rfl) ?_
      refine lv_imul hx hb0 dL_takes_21 ?_
      refine lv_iconst (v := (5 : Int32)) hx hb0 dL_takes_22 (by decide) ?_
      refine lv_iadd hx hb0 dL_takes_23 ?_
      obtain ⟨v_4, he⟩ := he
      refine gx_iald hx hb0 hK hP 160 0 (by decide) cE_t160 rfl v_4 dL_takes_24 ?_
      refine lv_sipush (v := (9999 : Int32)) hx hb0 dL_takes_25 (by decide) ?_
      refine lv_icmp_eq (tgt := 35) hx hb0 dL_takes_28 (by decide) (fun c_5 => ?_) (fun c_5 => ?_)
      · have he := he.1 c_5
        refine lv_iconst (v := (0 : Int32)) hx hb0 dL_takes_35 (by decide) ?_
        exact gx_zret hx hb0 hr (by decide) hlocks hK hP hD hS he dL_takes_36
      · have he := he.2 c_5
        refine lv_iconst (v := (1 : Int32)) hx hb0 dL_takes_31 (by decide) ?_
        refine lv_goto (tgt := 36) hx hb0 dL_takes_32 (by decide) ?_
        exact gx_zret hx hb0 hr (by decide) hlocks hK hP hD hS he dL_takes_36
theorem gm_L_takes : gMeth yL_takes cL_takes 3 (some .boolean) 3 := ⟨⟨by decide, by decide, by decide +kernel⟩, ini_RL, co_yL_takes⟩
abbrev rm_L_median : Room := { frames := 1, cells := 0, slots := 0, locals := 22 }
set_option maxHeartbeats 4000000 in
set_option maxRecDepth 100000 in
theorem l_L_median_61 (l : Launch) (dC : Nat → ClassId) (dI : Nat → Nat → Nat) (P : gP) (ad : Nat → Nat) (tb : Nat → Nat) {p : Program} {e : Env} {s : State} {m : MethodId} {args : Array Value} {below : List Frame} {meth : Method} {c : Code} (hx : p.tables.exec = Jvm.exec) (hb0 : c.code = cL_median) (hr : meth.sig.returnType = (some .int)) (hlocks : meth.locks = false) (hml : c.maxLocals = 7) (hown : s.vm.findClass RL = some m.cls) (hts : ∀ w ∈ TB, w.before args s = true) (hK : va_K (dC, dI) vwCl (tyC P) s) (hk : (gKC tb (gA 162 ad)) s) (Q : Int32 → Hp → Prop) (K43 : Int32 → Int32 → Int32 → Int32 → Hp → Prop) (hK43 : ∀ (z0 : Int32) (z1 : Int32) (z2 : Int32) (z3 : Int32) (h0 : Hp), K43 z0 z1 z2 z3 h0 → ∀ (H : Heap) (locs : List Loc) (ls : Array Slot), va_P (dC, dI) vwCl (gW 162 (cE P ad) ad h0) H → va_D (gA 162 ad) (gW 162 (cE P ad) ad h0) → va_S (gA 162 ad) s.heap H locs → lv_has ls 7 [(0, .int z0), (1, .ref (ad 160)), (2, .int z1), (3, .int z2), (4, .int z3)] → W p l e rm_L_median s m args below meth c H locs 0 0 (MQ below (gQi (dC, dI) vwCl (tyC P) 162 (cE P ad) ad Q) args s 0 0 (gA 162 ad)) (F0 m 43 ls [])) : ∀ (n : Nat) (y0 : Int32) (y2 : Int32) (y3 : Int32) (y4 : Int32) (y5 : Int32) (y6 : Int32) (h0 : Hp), F_L_median_L61  K43 n y0 y2 y3 y4 y5 y6 h0 Q → ∀ (H : Heap) (locs : List Loc) (ls : Array Slot), va_P (dC, dI) vwCl (gW 162 (cE P ad) ad h0) H → va_D (gA 162 ad) (gW 162 (cE P ad) ad h0) → va_S (gA 162 ad) s.heap H locs → lv_has ls 7 [(0, .int y0), (1, .ref (ad 160)), (2, .int y2), (3, .int y3), (4, .int y4), (5, .int y5), (6, .int y6)] → W p l e rm_L_median s m args below meth c H locs 0 0 (MQ below (gQi (dC, dI) vwCl (tyC P) 162 (cE P ad) ad Q) args s 0 0 (gA 162 ad)) (F0 m 61 ls []) := by
  intro n
  induction n with
  | zero =>
    intro y0 y2 y3 y4 y5 y6 h0 he
    exact he.elim
  | succ n ih =>
    intro y0 y2 y3 y4 y5 y6 h0 he H locs ls hP hD hS hl
    rw [F_L_median_L61] at he
    refine lv_iload hx hb0 dL_median_61 (lv_at hl 6 rfl) ?_
    refine lv_bipush (v := (7 : Int32)) hx hb0 dL_median_63 (by decide) ?_
    refine lv_icmp_ge (tgt := 115) hx hb0 dL_median_65 (by decide) (fun c_4 => ?_) (fun c_4 => ?_)
    · have he := he.1 c_4
      refine lv_iload hx hb0 dL_median_115 (lv_at hl 4 rfl) ?_
      refine lv_iload_n hx hb0 dL_median_117 rfl (lv_at hl 0 rfl) ?_
      refine lv_aload_n hx hb0 dL_median_118 rfl (lv_at hl 1 rfl) ?_
      refine gx_si ⟨hx, hb0, hml, hown, hts⟩ (gKC_keep _ _) hk hK hP hD hS [.int y4, .int y0, .ref (ad 160)] [] (c_L_takes l dC dI P ad tb y4 y0 h0 _ he) gm_L_takes st_yL_takes ml_RL_30 rfl rfl ⟨Nat.le_of_ble_eq_true rfl, Nat.le_of_ble_eq_true rfl⟩ rfl hl.1 rfl (Nat.le_of_ble_eq_true rfl) dL_median_119 ⟨Nat.zero_le _, Nat.zero_le _⟩ (fun r_5 h_6 he H locs hP hD hS => ?_)
      refine lv_if_eq (tgt := 137) hx hb0 dL_median_122 (by decide) (fun c_7 => ?_) (fun c_7 => ?_)
      · have he := he.1 c_7
        refine lv_iconst (v := (0 : Int32)) hx hb0 dL_median_137 (by decide) ?_
        refine lv_istore (lv' := [(6, .int (0 : Int32)), (0, .int y0), (1, .ref (ad 160)), (2, .int y2), (3, .int y3), (4, .int y4), (5, .int y5)]) hx hb0 dL_median_138 hl (by decide) rfl (fun ls hl => ?_)
        refine lv_iload hx hb0 dL_median_140 (lv_at hl 0 rfl) ?_
        refine lv_if_eq (tgt := 170) hx hb0 dL_median_142 (by decide) (fun c_8 => ?_) (fun c_8 => ?_)
        · refine lv_iload_n hx hb0 dL_median_170 rfl (lv_at hl 4 rfl) ?_
          refine lv_istore_n (lv' := [(3, .int y3), (6, .int (0 : Int32)), (0, .int y0), (1, .ref (ad 160)), (2, .int y2), (4, .int y4), (5, .int y5)]) hx hb0 dL_median_171 rfl hl (by decide) rfl (fun ls hl => ?_)
          obtain ⟨x_9, ex_9⟩ : ∃ y : Int32, y = y4 + 1 := ⟨_, rfl⟩
          have he := he x_9 ex_9
          refine lv_iinc (v := x_9) (lv' := [(4, .int x_9), (3, .int y3), (6, .int (0 : Int32)), (0, .int y0), (1, .ref (ad 160)), (2, .int y2), (5, .int y5)]) hx hb0 dL_median_172 hl (k := 5) rfl (by rw [ex_9]; rfl) (by decide) rfl (fun ls hl => ?_)
          refine lv_goto (tgt := 43) hx hb0 dL_median_175 (by decide) ?_
          exact hK43 y0 y2 y3 x_9 h_6 he _ _ ls hP hD hS (lv_sub hl [3, 4, 5, 1, 0] rfl)
        · exact absurd c_8 (by decide)
      · have he := he.2 c_7
        refine lv_iconst (v := (2 : Int32)) hx hb0 dL_median_125 (by decide) ?_
        refine lv_iload hx hb0 dL_median_126 (lv_at hl 5 rfl) ?_
        refine lv_imul hx hb0 dL_median_128 ?_
        refine lv_iload_n hx hb0 dL_median_129 rfl (lv_at hl 2 rfl) ?_
        refine lv_icmp_lt (tgt := 137) hx hb0 dL_median_130 (by decide) (fun c_10 => ?_) (fun c_10 => ?_)
        · have he := he.1 c_10
          refine lv_iconst (v := (0 : Int32)) hx hb0 dL_median_137 (by decide) ?_
          refine lv_istore (lv' := [(6, .int (0 : Int32)), (0, .int y0), (1, .ref (ad 160)), (2, .int y2), (3, .int y3), (4, .int y4), (5, .int y5)]) hx hb0 dL_median_138 hl (by decide) rfl (fun ls hl => ?_)
          refine lv_iload hx hb0 dL_median_140 (lv_at hl 0 rfl) ?_
          refine lv_if_eq (tgt := 170) hx hb0 dL_median_142 (by decide) (fun c_11 => ?_) (fun c_11 => ?_)
          · refine lv_iload_n hx hb0 dL_median_170 rfl (lv_at hl 4 rfl) ?_
            refine lv_istore_n (lv' := [(3, .int y3), (6, .int (0 : Int32)), (0, .int y0), (1, .ref (ad 160)), (2, .int y2), (4, .int y4), (5, .int y5)]) hx hb0 dL_median_171 rfl hl (by decide) rfl (fun ls hl => ?_)
            obtain ⟨x_12, ex_12⟩ : ∃ y : Int32, y = y4 + 1 := ⟨_, rfl⟩
            have he := he x_12 ex_12
            refine lv_iinc (v := x_12) (lv' := [(4, .int x_12), (3, .int y3), (6, .int (0 : Int32)), (0, .int y0), (1, .ref (ad 160)), (2, .int y2), (5, .int y5)]) hx hb0 dL_median_172 hl (k := 5) rfl (by rw [ex_12]; rfl) (by decide) rfl (fun ls hl => ?_)
            refine lv_goto (tgt := 43) hx hb0 dL_median_175 (by decide) ?_
            exact hK43 y0 y2 y3 x_12 h_6 he _ _ ls hP hD hS (lv_sub hl [3, 4, 5, 1, 0] rfl)
          · exact absurd c_11 (by decide)
        · have he := he.2 c_10
          refine lv_iconst (v := (1 : Int32)) hx hb0 dL_median_133 (by decide) ?_
          refine lv_goto (tgt := 138) hx hb0 dL_median_134 (by decide) ?_
          refine lv_istore (lv' := [(6, .int (1 : Int32)), (0, .int y0), (1, .ref (ad 160)), (2, .int y2), (3, .int y3), (4, .int y4), (5, .int y5)]) hx hb0 dL_median_138 hl (by decide) rfl (fun ls hl => ?_)
          refine lv_iload hx hb0 dL_median_140 (lv_at hl 0 rfl) ?_
          refine lv_if_eq (tgt := 170) hx hb0 dL_median_142 (by decide) (fun c_13 => ?_) (fun c_13 => ?_)
          · exact absurd c_13 (by decide)
          · refine lv_aload_n hx hb0 dL_median_145 rfl (lv_at hl 2 rfl) ?_
            refine lv_bipush (v := (7 : Int32)) hx hb0 dL_median_146 (by decide) ?_
            refine lv_iload hx hb0 dL_median_148 (lv_at hl 5 rfl) ?_
            refine lv_imul hx hb0 dL_median_150 ?_
            refine lv_iconst (v := (5 : Int32)) hx hb0 dL_median_151 (by decide) ?_
            refine lv_iadd hx hb0 dL_median_152 ?_
            obtain ⟨v_14, he⟩ := he
            refine gx_iald hx hb0 hK hP 160 0 (by decide) cE_t160 rfl v_14 dL_median_153 ?_
            refine lv_iload_n hx hb0 dL_median_154 rfl (lv_at hl 4 rfl) ?_
            refine lv_icmp_ge (tgt := 170) hx hb0 dL_median_155 (by decide) (fun c_15 => ?_) (fun c_15 => ?_)
            · have he := he.1 c_15
              refine lv_iload_n hx hb0 dL_median_170 rfl (lv_at hl 4 rfl) ?_
              refine lv_istore_n (lv' := [(3, .int y3), (6, .int (1 : Int32)), (0, .int y0), (1, .ref (ad 160)), (2, .int y2), (4, .int y4), (5, .int y5)]) hx hb0 dL_median_171 rfl hl (by decide) rfl (fun ls hl => ?_)
              obtain ⟨x_16, ex_16⟩ : ∃ y : Int32, y = y4 + 1 := ⟨_, rfl⟩
              have he := he x_16 ex_16
              refine lv_iinc (v := x_16) (lv' := [(4, .int x_16), (3, .int y3), (6, .int (1 : Int32)), (0, .int y0), (1, .ref (ad 160)), (2, .int y2), (5, .int y5)]) hx hb0 dL_median_172 hl (k := 5) rfl (by rw [ex_16]; rfl) (by decide) rfl (fun ls hl => ?_)
              refine lv_goto (tgt := 43) hx hb0 dL_median_175 (by decide) ?_
              exact hK43 y0 y2 y3 x_16 h_6 he _ _ ls hP hD hS (lv_sub hl [3, 4, 5, 1, 0] rfl)
            · have he := he.2 c_15
              refine lv_aload_n hx hb0 dL_median_158 rfl (lv_at hl 2 rfl) ?_
              refine lv_bipush (v := (7 : Int32)) hx hb0 dL_median_159 (by decide) ?_
              refine lv_iload hx hb0 dL_median_161 (lv_at hl 5 rfl) ?_
              refine lv_imul hx hb0 dL_median_163 ?_
              refine lv_iconst (v := (5 : Int32)) hx hb0 dL_median_164 (by decide) ?_
              refine lv_iadd hx hb0 dL_median_165 ?_
              obtain ⟨v_17, he⟩ := he
              refine gx_iald hx hb0 hK hP 160 0 (by decide) cE_t160 rfl v_17 dL_median_166 ?_
              refine lv_goto (tgt := 171) hx hb0 dL_median_167 (by decide) ?_
              refine lv_topi (fun x_18 ex_18 => ?_)
              have he := he x_18 ex_18
              refine lv_istore_n (lv' := [(3, .int x_18), (6, .int (1 : Int32)), (0, .int y0), (1, .ref (ad 160)), (2, .int y2), (4, .int y4), (5, .int y5)]) hx hb0 dL_median_171 rfl hl (by decide) rfl (fun ls hl => ?_)
              obtain ⟨x_19, ex_19⟩ : ∃ y : Int32, y = y4 + 1 := ⟨_, rfl⟩
              have he := he x_19 ex_19
              refine lv_iinc (v := x_19) (lv' := [(4, .int x_19), (3, .int x_18), (6, .int (1 : Int32)), (0, .int y0), (1, .ref (ad 160)), (2, .int y2), (5, .int y5)]) hx hb0 dL_median_172 hl (k := 5) rfl (by rw [ex_19]; rfl) (by decide) rfl (fun ls hl => ?_)
              refine lv_goto (tgt := 43) hx hb0 dL_median_175 (by decide) ?_
              exact hK43 y0 y2 x_18 x_19 h_6 he _ _ ls hP hD hS (lv_sub hl [3, 4, 5, 1, 0] rfl)
    · have he := he.2 c_4
      refine lv_iload hx hb0 dL_median_68 (lv_at hl 5 rfl) ?_
      refine lv_iload hx hb0 dL_median_70 (lv_at hl 6 rfl) ?_
      refine lv_iload_n hx hb0 dL_median_72 rfl (lv_at hl 0 rfl) ?_
      refine lv_aload_n hx hb0 dL_median_73 rfl (lv_at hl 1 rfl) ?_
      refine gx_si ⟨hx, hb0, hml, hown, hts⟩ (gKC_keep _ _) hk hK hP hD hS [.int y6, .int y0, .ref (ad 160)] [.int y5] (c_L_takes l dC dI P ad tb y6 y0 h0 _ he) gm_L_takes st_yL_takes ml_RL_30 rfl rfl ⟨Nat.le_of_ble_eq_true rfl, Nat.le_of_ble_eq_true rfl⟩ rfl hl.1 rfl (Nat.le_of_ble_eq_true rfl) dL_median_74 ⟨Nat.zero_le _, Nat.zero_le _⟩ (fun r_20 h_21 he H locs hP hD hS => ?_)
      refine lv_if_eq (tgt := 105) hx hb0 dL_median_77 (by decide) (fun c_22 => ?_) (fun c_22 => ?_)
      · have he := he.1 c_22
        refine lv_iconst (v := (0 : Int32)) hx hb0 dL_median_105 (by decide) ?_
        refine lv_iadd hx hb0 dL_median_106 ?_
        refine lv_topi (fun x_23 ex_23 => ?_)
        have he := he x_23 ex_23
        refine lv_istore (lv' := [(5, .int x_23), (0, .int y0), (1, .ref (ad 160)), (2, .int y2), (3, .int y3), (4, .int y4), (6, .int y6)]) hx hb0 dL_median_107 hl (by decide) rfl (fun ls hl => ?_)
        obtain ⟨x_24, ex_24⟩ : ∃ y : Int32, y = y6 + 1 := ⟨_, rfl⟩
        have he := he x_24 ex_24
        refine lv_iinc (v := x_24) (lv' := [(6, .int x_24), (5, .int x_23), (0, .int y0), (1, .ref (ad 160)), (2, .int y2), (3, .int y3), (4, .int y4)]) hx hb0 dL_median_109 hl (k := 6) rfl (by rw [ex_24]; rfl) (by decide) rfl (fun ls hl => ?_)
        refine lv_goto (tgt := 61) hx hb0 dL_median_112 (by decide) ?_
        exact ih y0 y2 y3 y4 x_23 x_24 h_21 he _ _ ls hP hD hS (lv_sub hl [2, 3, 4, 5, 6, 1, 0] rfl)
      · have he := he.2 c_22
        refine lv_aload_n hx hb0 dL_median_80 rfl (lv_at hl 1 rfl) ?_
        refine lv_bipush (v := (7 : Int32)) hx hb0 dL_median_81 (by decide) ?_
        refine lv_iload hx hb0 dL_median_83 (lv_at hl 6 rfl) ?_
        refine lv_imul hx hb0 dL_median_85 ?_
        refine lv_iconst (v := (5 : Int32)) hx hb0 dL_median_86 (by decide) ?_
        refine lv_iadd hx hb0 dL_median_87 ?_
        obtain ⟨v_25, he⟩ := he
        refine gx_iald hx hb0 hK hP 160 0 (by decide) cE_t160 rfl v_25 dL_median_88 ?_
        refine lv_aload_n hx hb0 dL_median_89 rfl (lv_at hl 1 rfl) ?_
        refine lv_bipush (v := (7 : Int32)) hx hb0 dL_median_90 (by decide) ?_
        refine lv_iload hx hb0 dL_median_92 (lv_at hl 4 rfl) ?_
        refine lv_imul hx hb0 dL_median_94 ?_
        refine lv_iconst (v := (5 : Int32)) hx hb0 dL_median_95 (by decide) ?_
        refine lv_iadd hx hb0 dL_median_96 ?_
        obtain ⟨v_26, he⟩ := he
        refine gx_iald hx hb0 hK hP 160 0 (by decide) cE_t160 rfl v_26 dL_median_97 ?_
        refine lv_icmp_gt (tgt := 105) hx hb0 dL_median_98 (by decide) (fun c_27 => ?_) (fun c_27 => ?_)
        · have he := he.1 c_27
          refine lv_iconst (v := (0 : Int32)) hx hb0 dL_median_105 (by decide) ?_
          refine lv_iadd hx hb0 dL_median_106 ?_
          refine lv_topi (fun x_28 ex_28 => ?_)
          have he := he x_28 ex_28
          refine lv_istore (lv' := [(5, .int x_28), (0, .int y0), (1, .ref (ad 160)), (2, .int y2), (3, .int y3), (4, .int y4), (6, .int y6)]) hx hb0 dL_median_107 hl (by decide) rfl (fun ls hl => ?_)
          obtain ⟨x_29, ex_29⟩ : ∃ y : Int32, y = y6 + 1 := ⟨_, rfl⟩
          have he := he x_29 ex_29
          refine lv_iinc (v := x_29) (lv' := [(6, .int x_29), (5, .int x_28), (0, .int y0), (1, .ref (ad 160)), (2, .int y2), (3, .int y3), (4, .int y4)]) hx hb0 dL_median_109 hl (k := 6) rfl (by rw [ex_29]; rfl) (by decide) rfl (fun ls hl => ?_)
          refine lv_goto (tgt := 61) hx hb0 dL_median_112 (by decide) ?_
          exact ih y0 y2 y3 y4 x_28 x_29 h_21 he _ _ ls hP hD hS (lv_sub hl [2, 3, 4, 5, 6, 1, 0] rfl)
        · have he := he.2 c_27
          refine lv_iconst (v := (1 : Int32)) hx hb0 dL_median_101 (by decide) ?_
          refine lv_goto (tgt := 106) hx hb0 dL_median_102 (by decide) ?_
          refine lv_iadd hx hb0 dL_median_106 ?_
          refine lv_topi (fun x_30 ex_30 => ?_)
          have he := he x_30 ex_30
          refine lv_istore (lv' := [(5, .int x_30), (0, .int y0), (1, .ref (ad 160)), (2, .int y2), (3, .int y3), (4, .int y4), (6, .int y6)]) hx hb0 dL_median_107 hl (by decide) rfl (fun ls hl => ?_)
          obtain ⟨x_31, ex_31⟩ : ∃ y : Int32, y = y6 + 1 := ⟨_, rfl⟩
          have he := he x_31 ex_31
          refine lv_iinc (v := x_31) (lv' := [(6, .int x_31), (5, .int x_30), (0, .int y0), (1, .ref (ad 160)), (2, .int y2), (3, .int y3), (4, .int y4)]) hx hb0 dL_median_109 hl (k := 6) rfl (by rw [ex_31]; rfl) (by decide) rfl (fun ls hl => ?_)
          refine lv_goto (tgt := 61) hx hb0 dL_median_112 (by decide) ?_
          exact ih y0 y2 y3 y4 x_30 x_31 h_21 he _ _ ls hP hD hS (lv_sub hl [2, 3, 4, 5, 6, 1, 0] rfl)
set_option maxHeartbeats 4000000 in
set_option maxRecDepth 100000 in
theorem l_L_median_43 (l : Launch) (dC : Nat → ClassId) (dI : Nat → Nat → Nat) (P : gP) (ad : Nat → Nat) (tb : Nat → Nat) {p : Program} {e : Env} {s : State} {m : MethodId} {args : Array Value} {below : List Frame} {meth : Method} {c : Code} (hx : p.tables.exec = Jvm.exec) (hb0 : c.code = cL_median) (hr : meth.sig.returnType = (some .int)) (hlocks : meth.locks = false) (hml : c.maxLocals = 7) (hown : s.vm.findClass RL = some m.cls) (hts : ∀ w ∈ TB, w.before args s = true) (hK : va_K (dC, dI) vwCl (tyC P) s) (hk : (gKC tb (gA 162 ad)) s) (Q : Int32 → Hp → Prop) : ∀ (n : Nat) (y0 : Int32) (y2 : Int32) (y3 : Int32) (y4 : Int32) (h0 : Hp), F_L_median_L43  n y0 y2 y3 y4 h0 Q → ∀ (H : Heap) (locs : List Loc) (ls : Array Slot), va_P (dC, dI) vwCl (gW 162 (cE P ad) ad h0) H → va_D (gA 162 ad) (gW 162 (cE P ad) ad h0) → va_S (gA 162 ad) s.heap H locs → lv_has ls 7 [(0, .int y0), (1, .ref (ad 160)), (2, .int y2), (3, .int y3), (4, .int y4)] → W p l e rm_L_median s m args below meth c H locs 0 0 (MQ below (gQi (dC, dI) vwCl (tyC P) 162 (cE P ad) ad Q) args s 0 0 (gA 162 ad)) (F0 m 43 ls []) := by
  intro n
  induction n with
  | zero =>
    intro y0 y2 y3 y4 h0 he
    exact he.elim
  | succ n ih =>
    intro y0 y2 y3 y4 h0 he H locs ls hP hD hS hl
    rw [F_L_median_L43] at he
    refine lv_iload hx hb0 dL_median_43 (lv_at hl 4 rfl) ?_
    refine lv_bipush (v := (7 : Int32)) hx hb0 dL_median_45 (by decide) ?_
    refine lv_icmp_ge (tgt := 178) hx hb0 dL_median_47 (by decide) (fun c_2 => ?_) (fun c_2 => ?_)
    · have he := he.1 c_2
      refine lv_iload_n hx hb0 dL_median_178 rfl (lv_at hl 3 rfl) ?_
      exact gx_iret hx hb0 hr hlocks hK hP hD hS he dL_median_179
    · have he := he.2 c_2
      refine lv_iload_n hx hb0 dL_median_50 rfl (lv_at hl 2 rfl) ?_
      refine lv_iconst (v := (2 : Int32)) hx hb0 dL_median_51 (by decide) ?_
      refine lv_icmp_le (tgt := 178) hx hb0 dL_median_52 (by decide) (fun c_3 => ?_) (fun c_3 => ?_)
      · have he := he.1 c_3
        refine lv_iload_n hx hb0 dL_median_178 rfl (lv_at hl 3 rfl) ?_
        exact gx_iret hx hb0 hr hlocks hK hP hD hS he dL_median_179
      · have he := he.2 c_3
        refine lv_iconst (v := (0 : Int32)) hx hb0 dL_median_55 (by decide) ?_
        refine lv_istore (lv' := [(5, .int (0 : Int32)), (0, .int y0), (1, .ref (ad 160)), (2, .int y2), (3, .int y3), (4, .int y4)]) hx hb0 dL_median_56 hl (by decide) rfl (fun ls hl => ?_)
        refine lv_iconst (v := (0 : Int32)) hx hb0 dL_median_58 (by decide) ?_
        refine lv_istore (lv' := [(6, .int (0 : Int32)), (5, .int (0 : Int32)), (0, .int y0), (1, .ref (ad 160)), (2, .int y2), (3, .int y3), (4, .int y4)]) hx hb0 dL_median_59 hl (by decide) rfl (fun ls hl => ?_)
        obtain ⟨n_32, he⟩ := he
        exact l_L_median_61 l dC dI P ad tb  hx hb0 hr hlocks hml hown hts hK hk Q (fun z0 z1 z2 z3 g => F_L_median_L43  n z0 z1 z2 z3 g Q) ih n_32 y0 y2 y3 y4 (0 : Int32) (0 : Int32) h0 he _ _ ls hP hD hS (lv_sub hl [2, 3, 4, 5, 6, 1, 0] rfl)
set_option maxHeartbeats 4000000 in
set_option maxRecDepth 100000 in
theorem l_L_median_9 (l : Launch) (dC : Nat → ClassId) (dI : Nat → Nat → Nat) (P : gP) (ad : Nat → Nat) (tb : Nat → Nat) {p : Program} {e : Env} {s : State} {m : MethodId} {args : Array Value} {below : List Frame} {meth : Method} {c : Code} (hx : p.tables.exec = Jvm.exec) (hb0 : c.code = cL_median) (hr : meth.sig.returnType = (some .int)) (hlocks : meth.locks = false) (hml : c.maxLocals = 7) (hown : s.vm.findClass RL = some m.cls) (hts : ∀ w ∈ TB, w.before args s = true) (hK : va_K (dC, dI) vwCl (tyC P) s) (hk : (gKC tb (gA 162 ad)) s) (Q : Int32 → Hp → Prop) : ∀ (n : Nat) (y0 : Int32) (y2 : Int32) (y3 : Int32) (y4 : Int32) (h0 : Hp), F_L_median_L9  n y0 y2 y3 y4 h0 Q → ∀ (H : Heap) (locs : List Loc) (ls : Array Slot), va_P (dC, dI) vwCl (gW 162 (cE P ad) ad h0) H → va_D (gA 162 ad) (gW 162 (cE P ad) ad h0) → va_S (gA 162 ad) s.heap H locs → lv_has ls 7 [(0, .int y0), (1, .ref (ad 160)), (2, .int y2), (3, .int y3), (4, .int y4)] → W p l e rm_L_median s m args below meth c H locs 0 0 (MQ below (gQi (dC, dI) vwCl (tyC P) 162 (cE P ad) ad Q) args s 0 0 (gA 162 ad)) (F0 m 9 ls []) := by
  intro n
  induction n with
  | zero =>
    intro y0 y2 y3 y4 h0 he
    exact he.elim
  | succ n ih =>
    intro y0 y2 y3 y4 h0 he H locs ls hP hD hS hl
    rw [F_L_median_L9] at he
    refine lv_iload hx hb0 dL_median_9 (lv_at hl 4 rfl) ?_
    refine lv_bipush (v := (7 : Int32)) hx hb0 dL_median_11 (by decide) ?_
    refine lv_icmp_ge (tgt := 40) hx hb0 dL_median_13 (by decide) (fun c_1 => ?_) (fun c_1 => ?_)
    · have he := he.1 c_1
      refine lv_iconst (v := (0 : Int32)) hx hb0 dL_median_40 (by decide) ?_
      refine lv_istore (lv' := [(4, .int (0 : Int32)), (0, .int y0), (1, .ref (ad 160)), (2, .int y2), (3, .int y3)]) hx hb0 dL_median_41 hl (by decide) rfl (fun ls hl => ?_)
      obtain ⟨n_33, he⟩ := he
      exact l_L_median_43 l dC dI P ad tb  hx hb0 hr hlocks hml hown hts hK hk Q n_33 y0 y2 y3 (0 : Int32) h0 he _ _ ls hP hD hS (lv_sub hl [1, 2, 3, 4, 0] rfl)
    · have he := he.2 c_1
      refine lv_iload_n hx hb0 dL_median_16 rfl (lv_at hl 2 rfl) ?_
      refine lv_iload hx hb0 dL_median_17 (lv_at hl 4 rfl) ?_
      refine lv_iload_n hx hb0 dL_median_19 rfl (lv_at hl 0 rfl) ?_
      refine lv_aload_n hx hb0 dL_median_20 rfl (lv_at hl 1 rfl) ?_
      refine gx_si ⟨hx, hb0, hml, hown, hts⟩ (gKC_keep _ _) hk hK hP hD hS [.int y4, .int y0, .ref (ad 160)] [.int y2] (c_L_takes l dC dI P ad tb y4 y0 h0 _ he) gm_L_takes st_yL_takes ml_RL_30 rfl rfl ⟨Nat.le_of_ble_eq_true rfl, Nat.le_of_ble_eq_true rfl⟩ rfl hl.1 rfl (Nat.le_of_ble_eq_true rfl) dL_median_21 ⟨Nat.zero_le _, Nat.zero_le _⟩ (fun r_34 h_35 he H locs hP hD hS => ?_)
      refine lv_if_eq (tgt := 31) hx hb0 dL_median_24 (by decide) (fun c_36 => ?_) (fun c_36 => ?_)
      · have he := he.1 c_36
        refine lv_iconst (v := (0 : Int32)) hx hb0 dL_median_31 (by decide) ?_
        refine lv_iadd hx hb0 dL_median_32 ?_
        refine lv_topi (fun x_37 ex_37 => ?_)
        have he := he x_37 ex_37
        refine lv_istore_n (lv' := [(2, .int x_37), (0, .int y0), (1, .ref (ad 160)), (3, .int y3), (4, .int y4)]) hx hb0 dL_median_33 rfl hl (by decide) rfl (fun ls hl => ?_)
        obtain ⟨x_38, ex_38⟩ : ∃ y : Int32, y = y4 + 1 := ⟨_, rfl⟩
        have he := he x_38 ex_38
        refine lv_iinc (v := x_38) (lv' := [(4, .int x_38), (2, .int x_37), (0, .int y0), (1, .ref (ad 160)), (3, .int y3)]) hx hb0 dL_median_34 hl (k := 4) rfl (by rw [ex_38]; rfl) (by decide) rfl (fun ls hl => ?_)
        refine lv_goto (tgt := 9) hx hb0 dL_median_37 (by decide) ?_
        exact ih y0 x_37 y3 x_38 h_35 he _ _ ls hP hD hS (lv_sub hl [2, 3, 1, 4, 0] rfl)
      · have he := he.2 c_36
        refine lv_iconst (v := (1 : Int32)) hx hb0 dL_median_27 (by decide) ?_
        refine lv_goto (tgt := 32) hx hb0 dL_median_28 (by decide) ?_
        refine lv_iadd hx hb0 dL_median_32 ?_
        refine lv_topi (fun x_39 ex_39 => ?_)
        have he := he x_39 ex_39
        refine lv_istore_n (lv' := [(2, .int x_39), (0, .int y0), (1, .ref (ad 160)), (3, .int y3), (4, .int y4)]) hx hb0 dL_median_33 rfl hl (by decide) rfl (fun ls hl => ?_)
        obtain ⟨x_40, ex_40⟩ : ∃ y : Int32, y = y4 + 1 := ⟨_, rfl⟩
        have he := he x_40 ex_40
        refine lv_iinc (v := x_40) (lv' := [(4, .int x_40), (2, .int x_39), (0, .int y0), (1, .ref (ad 160)), (3, .int y3)]) hx hb0 dL_median_34 hl (k := 4) rfl (by rw [ex_40]; rfl) (by decide) rfl (fun ls hl => ?_)
        refine lv_goto (tgt := 9) hx hb0 dL_median_37 (by decide) ?_
        exact ih y0 x_39 y3 x_40 h_35 he _ _ ls hP hD hS (lv_sub hl [2, 3, 1, 4, 0] rfl)
set_option maxHeartbeats 4000000 in
set_option maxRecDepth 100000 in
theorem c_L_median (l : Launch) (dC : Nat → ClassId) (dI : Nat → Nat → Nat) (P : gP) (ad : Nat → Nat) (tb : Nat → Nat) (x0 : Int32) (h0 : Hp) (Q : Int32 → Hp → Prop) (he : F_L_median x0 h0 Q) : Met l yL_median (Cond.code yL_median cL_median 7 (some .int) :: TB) rm_L_median (gPc (dC, dI) vwCl (tyC P) 162 (cE P ad) ad (gKC tb (gA 162 ad)) h0 [.int x0, .ref (ad 160)]) (gQi (dC, dI) vwCl (tyC P) 162 (cE P ad) ad Q) 0 0 (gA 162 ad) := by
  refine gx_start (by decide) (Nat.le_of_ble_eq_true rfl) (fun p e s m below meth c ls hx hb0 hr hlocks hml hown hts hK hk hP hD hS hl => ?_)
  have hl : lv_has ls 7 [(0, .int x0), (1, .ref (ad 160))] := hl
  have hown : s.vm.findClass RL = some m.cls := hown
  unfold F_L_median at he
  refine lv_iconst (v := (0 : Int32)) hx hb0 dL_median_0 (by decide) ?_
  refine lv_istore_n (lv' := [(2, .int (0 : Int32)), (0, .int x0), (1, .ref (ad 160))]) hx hb0 dL_median_1 rfl hl (by decide) rfl (fun ls hl => ?_)
  refine lv_sipush (v := (9999 : Int32)) hx hb0 dL_median_2 (by decide) ?_
  refine lv_istore_n (lv' := [(3, .int (9999 : Int32)), (2, .int (0 : Int32)), (0, .int x0), (1, .ref (ad 160))]) hx hb0 dL_median_5 rfl hl (by decide) rfl (fun ls hl => ?_)
  refine lv_iconst (v := (0 : Int32)) hx hb0 dL_median_6 (by decide) ?_
  refine lv_istore (lv' := [(4, .int (0 : Int32)), (3, .int (9999 : Int32)), (2, .int (0 : Int32)), (0, .int x0), (1, .ref (ad 160))]) hx hb0 dL_median_7 hl (by decide) rfl (fun ls hl => ?_)
  obtain ⟨n_41, he⟩ := he
  exact l_L_median_9 l dC dI P ad tb  hx hb0 hr hlocks hml hown hts hK hk Q n_41 x0 (0 : Int32) (9999 : Int32) (0 : Int32) h0 he _ _ ls hP hD hS (lv_sub hl [3, 4, 2, 1, 0] rfl)
theorem gm_L_median : gMeth yL_median cL_median 7 (some .int) 2 := ⟨⟨by decide, by decide, by decide +kernel⟩, ini_RL, co_yL_median⟩
