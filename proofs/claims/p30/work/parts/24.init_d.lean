abbrev rm_X7_init : Room := { frames := 4, cells := 157, slots := 1264, locals := 74 }
set_option maxHeartbeats 8000000 in
set_option maxRecDepth 200000 in
theorem c_X7_init (l : Launch) (dC : Nat → ClassId) (dI : Nat → Nat → Nat) (P : gP) (tb : Nat → Nat) (X : va_W) (r sz : Nat) : Met l yX7_init (Cond.code yX7_init cX7_init 2 none :: TB) rm_X7_init (glPc (dC, dI) vwCl (tyC P) (gKI tb) X (.inr (7, [.null, .null, .null, .null, .null, .null])) r sz) (glQv (dC, dI) vwCl X (.inr (7, [.null, .null, .null, .null, .null, .null])) r sz 158 (dX P)) 157 1264 (va_A (X ++ [(r, (.inr (7, [.null, .null, .null, .null, .null, .null])))]) sz) := by
  refine gl_start (by decide) rfl (by decide) (fun p e s m below meth c ls hx hb0 hr hlocks hml hown hin hts hK hk hP hD hS hA hl => ?_)
  have hown : s.vm.findClass RX7 = some m.cls := hown
  refine lv_aload_n hx hb0 dX7_init_0 rfl (lv_at hl 0 rfl) ?_
  refine W.objInit hx hb0 hown (hts _ ml_RX7_1) (hts _ im_Lib_objectInit) (hts _ co_Lib_objectInit) rfl (by rw [hml]; exact hl.1) rfl dX7_init_1 (Nat.le_of_ble_eq_true rfl) (Nat.le_of_ble_eq_true rfl) ?_
  refine W.eq (g2 := F0 m 4 ls []) rfl ?_
  refine lv_aload_n hx hb0 dX7_init_4 rfl (lv_at hl 0 rfl) ?_
  refine gl_new (ci := 6) (fs := [.null, .null, .null, .null, .null, .int 0, .int 0, .int 0]) hx hb0 hts in_RX6 tyX6 tyX6_ok hown cl_RX7_7 ins_RX6 ini_RX6 hK hP hD hS hA rfl (lt_s (lt_s (lt_s (lt_s (lt_s (lt_s (lt_s (lt_s lt_0 rfl) rfl) rfl) rfl) rfl) rfl) rfl) rfl) (Nat.le_of_ble_eq_true rfl) (Nat.le_of_ble_eq_true rfl) dX7_init_5 (fun q0 H hP hD hS => ?_)
  refine lv_dup hx hb0 dX7_init_8 rfl ?_
  refine gl_init ⟨hx, hb0, hml, hown, hts⟩ (gKI_keep tb) (fun _ _ _ h1 h2 => gKI_narrow h1 h2) hk hK hP hD hS hA [.ref q0, .ref r] (c_X6_init l dC dI P tb _ q0 H.size) (callB_of 0 hts (gGood co_yX6_init) rfl rfl rfl (hts _ ini_RX6) (hts _ ml_RX7_9) ⟨by decide, by decide, by decide +kernel⟩ ⟨Nat.le_of_ble_eq_true rfl, Nat.le_of_ble_eq_true rfl⟩) im_yX6_init rfl hl.1 rfl (Nat.le_of_ble_eq_true rfl) dX7_init_9 ⟨Nat.le_of_ble_eq_true rfl, Nat.le_of_ble_eq_true rfl⟩ (fun b1 eb1 H1 locs1 hP1 hD1 hS1 => ?_)
  subst eb1
  have hP := hP1
  have hD := hD1
  have hS := hS1
  refine gl_putF hx hb0 hts in_RX7 tyX7 tyX7_ok nmX7 hown hK hP hD hS 0 (by decide) rfl rfl rfl 0 (by decide) fl_RX7_10 rfl hin rfl rfl rfl (Nat.le_of_ble_eq_true rfl) (fs' := [.ref (b1 0), .null, .null, .null, .null, .null]) rfl dX7_init_12 (fun H locs hP hD hS => ?_)
  refine lv_aload_n hx hb0 dX7_init_15 rfl (lv_at hl 0 rfl) ?_
  refine gl_new (ci := 2) (fs := [.null, .int 0, .int 0]) hx hb0 hts in_RX2 tyX2 tyX2_ok hown cl_RX7_16 ins_RX2 ini_RX2 hK hP hD hS hA rfl (lt_s (lt_s (lt_s lt_0 rfl) rfl) rfl) (Nat.le_of_ble_eq_true rfl) (Nat.le_of_ble_eq_true rfl) dX7_init_16 (fun q2 H hP hD hS => ?_)
  refine lv_dup hx hb0 dX7_init_19 rfl ?_
  refine gl_init ⟨hx, hb0, hml, hown, hts⟩ (gKI_keep tb) (fun _ _ _ h1 h2 => gKI_narrow h1 h2) hk hK hP hD hS hA [.ref q2, .ref r] (c_X2_init l dC dI P tb _ q2 H.size) (callB_of 0 hts (gGood co_yX2_init) rfl rfl rfl (hts _ ini_RX2) (hts _ ml_RX7_18) ⟨by decide, by decide, by decide +kernel⟩ ⟨Nat.le_of_ble_eq_true rfl, Nat.le_of_ble_eq_true rfl⟩) im_yX2_init rfl hl.1 rfl (Nat.le_of_ble_eq_true rfl) dX7_init_20 ⟨Nat.le_of_ble_eq_true rfl, Nat.le_of_ble_eq_true rfl⟩ (fun b3 eb3 H1 locs1 hP1 hD1 hS1 => ?_)
  subst eb3
  have hP := hP1
  have hD := hD1
  have hS := hS1
  refine gl_putF hx hb0 hts in_RX7 tyX7 tyX7_ok nmX7 hown hK hP hD hS 0 (by decide) rfl rfl rfl 1 (by decide) fl_RX7_19 rfl hin rfl rfl rfl (Nat.le_of_ble_eq_true rfl) (fs' := [.ref (b1 0), .ref (b3 0), .null, .null, .null, .null]) rfl dX7_init_23 (fun H locs hP hD hS => ?_)
  refine lv_aload_n hx hb0 dX7_init_26 rfl (lv_at hl 0 rfl) ?_
  refine gl_new (ci := 4) (fs := [.null, .int 0, .int 0, .int 0, .int 0, .int 0]) hx hb0 hts in_RX4 tyX4 tyX4_ok hown cl_RX7_23 ins_RX4 ini_RX4 hK hP hD hS hA rfl (lt_s (lt_s (lt_s (lt_s (lt_s (lt_s lt_0 rfl) rfl) rfl) rfl) rfl) rfl) (Nat.le_of_ble_eq_true rfl) (Nat.le_of_ble_eq_true rfl) dX7_init_27 (fun q4 H hP hD hS => ?_)
  refine lv_dup hx hb0 dX7_init_30 rfl ?_
  refine gl_initN ⟨hx, hb0, hml, hown, hts⟩ (gKI_keep tb) (fun _ _ _ h1 h2 => gKI_narrow h1 h2) hk hK hP hD hS hA [.ref q4, .ref r] (c_X4_init l dC dI P tb _ q4 H.size) (va_cnB 0 hts (gGood co_yX4_init) rfl rfl rfl (hk.1.1 _ nl_RX7_25) (hts _ ini_RX4) ⟨by decide, by decide, by decide +kernel⟩ ⟨Nat.le_of_ble_eq_true rfl, Nat.le_of_ble_eq_true rfl⟩) im_yX4_init rfl hl.1 rfl (Nat.le_of_ble_eq_true rfl) dX7_init_31 ⟨Nat.le_of_ble_eq_true rfl, Nat.le_of_ble_eq_true rfl⟩ (fun b5 eb5 H1 locs1 hP1 hD1 hS1 => ?_)
  subst eb5
  have hP := hP1
  have hD := hD1
  have hS := hS1
  refine gl_putF hx hb0 hts in_RX7 tyX7 tyX7_ok nmX7 hown hK hP hD hS 0 (by decide) rfl rfl rfl 2 (by decide) fl_RX7_26 rfl hin rfl rfl rfl (Nat.le_of_ble_eq_true rfl) (fs' := [.ref (b1 0), .ref (b3 0), .ref (b5 0), .null, .null, .null]) rfl dX7_init_34 (fun H locs hP hD hS => ?_)
  refine lv_aload_n hx hb0 dX7_init_37 rfl (lv_at hl 0 rfl) ?_
  refine lv_iconst (v := 2) hx hb0 dX7_init_38 (by decide) ?_
  refine gl_newq hx hb0 hts hown cl_RX7_7 hk.2 hK hP hD hS hA 3 rfl 2 (by decide) (by decide) (Nat.le_of_ble_eq_true rfl) (Nat.le_of_ble_eq_true rfl) (Nat.le_of_ble_eq_true rfl) dX7_init_39 (fun q6 H hP hD hS => ?_)
  refine gl_putF hx hb0 hts in_RX7 tyX7 tyX7_ok nmX7 hown hK hP hD hS 0 (by decide) rfl rfl rfl 3 (by decide) fl_RX7_30 rfl hin rfl rfl rfl (Nat.le_of_ble_eq_true rfl) (fs' := [.ref (b1 0), .ref (b3 0), .ref (b5 0), .ref q6, .null, .null]) rfl dX7_init_42 (fun H locs hP hD hS => ?_)
  refine lv_aload_n hx hb0 dX7_init_45 rfl (lv_at hl 0 rfl) ?_
  refine lv_iconst (v := 2) hx hb0 dX7_init_46 (by decide) ?_
  refine gl_newa (atype := .boolean) hx hb0 hts ac_boolean hK hP hD hS hA 2 rfl rfl 2 (by decide) (by decide) (Nat.le_of_ble_eq_true rfl) (Nat.le_of_ble_eq_true rfl) (Nat.le_of_ble_eq_true rfl) dX7_init_47 (fun q7 H hP hD hS => ?_)
  refine gl_putF hx hb0 hts in_RX7 tyX7 tyX7_ok nmX7 hown hK hP hD hS 0 (by decide) rfl rfl rfl 4 (by decide) fl_RX7_34 rfl hin rfl rfl rfl (Nat.le_of_ble_eq_true rfl) (fs' := [.ref (b1 0), .ref (b3 0), .ref (b5 0), .ref q6, .ref q7, .null]) rfl dX7_init_49 (fun H locs hP hD hS => ?_)
  refine lv_aload_n hx hb0 dX7_init_52 rfl (lv_at hl 0 rfl) ?_
  refine gl_new (ci := 0) (fs := [.int 0, .int 0, .int 0, .int 0]) hx hb0 hts in_RX0 tyX0 tyX0_ok hown cl_RX7_38 ins_RX0 ini_RX0 hK hP hD hS hA rfl (lt_s (lt_s (lt_s (lt_s lt_0 rfl) rfl) rfl) rfl) (Nat.le_of_ble_eq_true rfl) (Nat.le_of_ble_eq_true rfl) dX7_init_53 (fun q8 H hP hD hS => ?_)
  refine lv_dup hx hb0 dX7_init_56 rfl ?_
  refine gl_initN ⟨hx, hb0, hml, hown, hts⟩ (gKI_keep tb) (fun _ _ _ h1 h2 => gKI_narrow h1 h2) hk hK hP hD hS hA [.ref q8, .ref r] (c_X0_init l dC dI P tb _ q8 H.size) (va_cnB 0 hts (gGood co_yX0_init) rfl rfl rfl (hk.1.1 _ nl_RX7_40) (hts _ ini_RX0) ⟨by decide, by decide, by decide +kernel⟩ ⟨Nat.le_of_ble_eq_true rfl, Nat.le_of_ble_eq_true rfl⟩) im_yX0_init rfl hl.1 rfl (Nat.le_of_ble_eq_true rfl) dX7_init_57 ⟨Nat.le_of_ble_eq_true rfl, Nat.le_of_ble_eq_true rfl⟩ (fun b9 eb9 H1 locs1 hP1 hD1 hS1 => ?_)
  subst eb9
  have hP := hP1
  have hD := hD1
  have hS := hS1
  refine gl_putF hx hb0 hts in_RX7 tyX7 tyX7_ok nmX7 hown hK hP hD hS 0 (by decide) rfl rfl rfl 5 (by decide) fl_RX7_41 rfl hin rfl rfl rfl (Nat.le_of_ble_eq_true rfl) (fs' := [.ref (b1 0), .ref (b3 0), .ref (b5 0), .ref q6, .ref q7, .ref (b9 0)]) rfl dX7_init_60 (fun H locs hP hD hS => ?_)
  refine lv_iconst (v := 0) hx hb0 dX7_init_63 (by decide) ?_
  refine lv_istore_n (lv' := [(1, .int (0 : Int32)), (0, .ref r)]) hx hb0 dX7_init_64 rfl hl (by decide) rfl (fun ls hl => ?_)
  refine lv_iload_n hx hb0 dX7_init_65 rfl (lv_at hl 0 rfl) ?_
  refine lv_iconst (v := 2) hx hb0 dX7_init_66 (by decide) ?_
  refine lv_icmp_ge (tgt := 89) hx hb0 dX7_init_67 (by decide) (fun c9 => absurd c9 (by decide)) (fun c9 => ?_)
  refine lv_aload_n hx hb0 dX7_init_70 rfl (lv_at hl 1 rfl) ?_
  refine gl_get hx hb0 hts in_RX7 hown hK hP 0 (by decide) rfl rfl rfl 3 (by decide) fl_RX7_30 rfl dX7_init_71 ?_
  refine lv_iload_n hx hb0 dX7_init_74 rfl (lv_at hl 0 rfl) ?_
  refine gl_new (ci := 6) (fs := [.null, .null, .null, .null, .null, .int 0, .int 0, .int 0]) hx hb0 hts in_RX6 tyX6 tyX6_ok hown cl_RX7_7 ins_RX6 ini_RX6 hK hP hD hS hA rfl (lt_s (lt_s (lt_s (lt_s (lt_s (lt_s (lt_s (lt_s lt_0 rfl) rfl) rfl) rfl) rfl) rfl) rfl) rfl) (Nat.le_of_ble_eq_true rfl) (Nat.le_of_ble_eq_true rfl) dX7_init_75 (fun q10 H hP hD hS => ?_)
  refine lv_dup hx hb0 dX7_init_78 rfl ?_
  refine gl_init ⟨hx, hb0, hml, hown, hts⟩ (gKI_keep tb) (fun _ _ _ h1 h2 => gKI_narrow h1 h2) hk hK hP hD hS hA [.ref q10, .int (0 : Int32), .ref q6] (c_X6_init l dC dI P tb _ q10 H.size) (callB_of 0 hts (gGood co_yX6_init) rfl rfl rfl (hts _ ini_RX6) (hts _ ml_RX7_9) ⟨by decide, by decide, by decide +kernel⟩ ⟨Nat.le_of_ble_eq_true rfl, Nat.le_of_ble_eq_true rfl⟩) im_yX6_init rfl hl.1 rfl (Nat.le_of_ble_eq_true rfl) dX7_init_79 ⟨Nat.le_of_ble_eq_true rfl, Nat.le_of_ble_eq_true rfl⟩ (fun b11 eb11 H1 locs1 hP1 hD1 hS1 => ?_)
  subst eb11
  have hP := hP1
  have hD := hD1
  have hS := hS1
  refine gl_astq (q := (RX6, TX6, 8)) hx hb0 hK hP hD hS 125 3 128 (by decide) rfl rfl rfl (by decide) rfl rfl rfl (vp_lit 0 (by decide) (by decide)) 0 rfl dX7_init_82 (fun H locs hP hD hS => ?_)
  refine lv_iinc (v := 1) (lv' := [(1, .int (1 : Int32)), (0, .ref r)]) hx hb0 dX7_init_83 hl (k := 0) rfl (by decide) (by decide) rfl (fun ls hl => ?_)
  refine lv_goto (tgt := 65) hx hb0 dX7_init_86 (by decide) ?_
  refine lv_iload_n hx hb0 dX7_init_65 rfl (lv_at hl 0 rfl) ?_
  refine lv_iconst (v := 2) hx hb0 dX7_init_66 (by decide) ?_
  refine lv_icmp_ge (tgt := 89) hx hb0 dX7_init_67 (by decide) (fun c9 => absurd c9 (by decide)) (fun c9 => ?_)
  refine lv_aload_n hx hb0 dX7_init_70 rfl (lv_at hl 1 rfl) ?_
  refine gl_get hx hb0 hts in_RX7 hown hK hP 0 (by decide) rfl rfl rfl 3 (by decide) fl_RX7_30 rfl dX7_init_71 ?_
  refine lv_iload_n hx hb0 dX7_init_74 rfl (lv_at hl 0 rfl) ?_
  refine gl_new (ci := 6) (fs := [.null, .null, .null, .null, .null, .int 0, .int 0, .int 0]) hx hb0 hts in_RX6 tyX6 tyX6_ok hown cl_RX7_7 ins_RX6 ini_RX6 hK hP hD hS hA rfl (lt_s (lt_s (lt_s (lt_s (lt_s (lt_s (lt_s (lt_s lt_0 rfl) rfl) rfl) rfl) rfl) rfl) rfl) rfl) (Nat.le_of_ble_eq_true rfl) (Nat.le_of_ble_eq_true rfl) dX7_init_75 (fun q12 H hP hD hS => ?_)
  refine lv_dup hx hb0 dX7_init_78 rfl ?_
  refine gl_init ⟨hx, hb0, hml, hown, hts⟩ (gKI_keep tb) (fun _ _ _ h1 h2 => gKI_narrow h1 h2) hk hK hP hD hS hA [.ref q12, .int (1 : Int32), .ref q6] (c_X6_init l dC dI P tb _ q12 H.size) (callB_of 0 hts (gGood co_yX6_init) rfl rfl rfl (hts _ ini_RX6) (hts _ ml_RX7_9) ⟨by decide, by decide, by decide +kernel⟩ ⟨Nat.le_of_ble_eq_true rfl, Nat.le_of_ble_eq_true rfl⟩) im_yX6_init rfl hl.1 rfl (Nat.le_of_ble_eq_true rfl) dX7_init_79 ⟨Nat.le_of_ble_eq_true rfl, Nat.le_of_ble_eq_true rfl⟩ (fun b13 eb13 H1 locs1 hP1 hD1 hS1 => ?_)
  subst eb13
  have hP := hP1
  have hD := hD1
  have hS := hS1
  refine gl_astq (q := (RX6, TX6, 8)) hx hb0 hK hP hD hS 125 3 143 (by decide) rfl rfl rfl (by decide) rfl rfl rfl (vp_lit 1 (by decide) (by decide)) 1 rfl dX7_init_82 (fun H locs hP hD hS => ?_)
  refine lv_iinc (v := 2) (lv' := [(1, .int (2 : Int32)), (0, .ref r)]) hx hb0 dX7_init_83 hl (k := 0) rfl (by decide) (by decide) rfl (fun ls hl => ?_)
  refine lv_goto (tgt := 65) hx hb0 dX7_init_86 (by decide) ?_
  refine lv_iload_n hx hb0 dX7_init_65 rfl (lv_at hl 0 rfl) ?_
  refine lv_iconst (v := 2) hx hb0 dX7_init_66 (by decide) ?_
  refine lv_icmp_ge (tgt := 89) hx hb0 dX7_init_67 (by decide) (fun c9 => ?_) (fun c9 => absurd (by decide) c9)
  refine W.widen (k := 157) (n := 1264) (Nat.le_of_ble_eq_true rfl) (Nat.le_of_ble_eq_true rfl) ?_
  exact gl_ret hx hb0 hr hlocks hP hD hS rfl (lt_s (lt_s (lt_s (lt_s (lt_s (lt_s (lt_s (lt_s (lt_s (lt_s (lt_s (lt_s (lt_s (lt_s (lt_s (lt_s (lt_s (lt_s (lt_s (lt_s (lt_s (lt_s (lt_s (lt_s (lt_s (lt_s (lt_s (lt_s (lt_s (lt_s (lt_s (lt_s (lt_s (lt_s (lt_s (lt_s (lt_s (lt_s (lt_s (lt_s (lt_s (lt_s (lt_s (lt_s (lt_s (lt_s (lt_s (lt_s (lt_s (lt_s (lt_s (lt_s (lt_s (lt_s (lt_s (lt_s (lt_s (lt_s (lt_s (lt_s (lt_s (lt_s (lt_s (lt_s (lt_s (lt_s (lt_s (lt_s (lt_s (lt_s (lt_s (lt_s (lt_s (lt_s (lt_s (lt_s (lt_s (lt_s (lt_s (lt_s (lt_s (lt_s (lt_s (lt_s (lt_s (lt_s (lt_s (lt_s (lt_s (lt_s (lt_s (lt_s (lt_s (lt_s (lt_s (lt_s (lt_s (lt_s (lt_s (lt_s (lt_s (lt_s (lt_s (lt_s (lt_s (lt_s (lt_s (lt_s (lt_s (lt_s (lt_s (lt_s (lt_s (lt_s (lt_s (lt_s (lt_s (lt_s (lt_s (lt_s (lt_s (lt_s (lt_s (lt_s (lt_s (lt_s (lt_s (lt_s (lt_s (lt_s (lt_s (lt_s (lt_s (lt_s (lt_s (lt_s (lt_s (lt_s (lt_s (lt_s (lt_s (lt_s (lt_s (lt_s (lt_s (lt_s (lt_s (lt_s (lt_s (lt_s (lt_s (lt_s (lt_s (lt_s (lt_s (lt_s (lt_s (lt_s lt_0 rfl) rfl) rfl) rfl) rfl) rfl) rfl) rfl) rfl) rfl) rfl) rfl) rfl) rfl) rfl) rfl) rfl) rfl) rfl) rfl) rfl) rfl) rfl) rfl) rfl) rfl) rfl) rfl) rfl) rfl) rfl) rfl) rfl) rfl) rfl) rfl) rfl) rfl) rfl) rfl) rfl) rfl) rfl) rfl) rfl) rfl) rfl) rfl) rfl) rfl) rfl) rfl) rfl) rfl) rfl) rfl) rfl) rfl) rfl) rfl) rfl) rfl) rfl) rfl) rfl) rfl) rfl) rfl) rfl) rfl) rfl) rfl) rfl) rfl) rfl) rfl) rfl) rfl) rfl) rfl) rfl) rfl) rfl) rfl) rfl) rfl) rfl) rfl) rfl) rfl) rfl) rfl) rfl) rfl) rfl) rfl) rfl) rfl) rfl) rfl) rfl) rfl) rfl) rfl) rfl) rfl) rfl) rfl) rfl) rfl) rfl) rfl) rfl) rfl) rfl) rfl) rfl) rfl) rfl) rfl) rfl) rfl) rfl) rfl) rfl) rfl) rfl) rfl) rfl) rfl) rfl) rfl) rfl) rfl) rfl) rfl) rfl) rfl) rfl) rfl) rfl) rfl) rfl) rfl) rfl) rfl) rfl) rfl) rfl) rfl) rfl) rfl) rfl) rfl) rfl) rfl) rfl) rfl) dX7_init_89
