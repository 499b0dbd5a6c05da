abbrev rm_X2_init : Room := { frames := 3, cells := 106, slots := 819, locals := 53 }
set_option maxHeartbeats 8000000 in
set_option maxRecDepth 200000 in
theorem c_X2_init (l : Launch) (dC : Nat → ClassId) (dI : Nat → Nat → Nat) (P : gP) (tb : Nat → Nat) (X : va_W) (r sz : Nat) : Met l yX2_init (Cond.code yX2_init cX2_init 2 none :: TB) rm_X2_init (glPc (dC, dI) vwCl (tyC P) (gKI tb) X (.inr (2, [.null, .int 0, .int 0])) r sz) (glQv (dC, dI) vwCl X (.inr (2, [.null, .int 0, .int 0])) r sz 107 (dH P)) 106 819 (va_A (X ++ [(r, (.inr (2, [.null, .int 0, .int 0])))]) sz) := by
  refine gl_start (by decide) rfl (by decide) (fun p e s m below meth c ls hx hb0 hr hlocks hml hown hin hts hK hk hP hD hS hA hl => ?_)
  have hown : s.vm.findClass RX2 = some m.cls := hown
  refine lv_aload_n hx hb0 dX2_init_0 rfl (lv_at hl 0 rfl) ?_
  refine W.objInit hx hb0 hown (hts _ ml_RX2_5) (hts _ im_Lib_objectInit) (hts _ co_Lib_objectInit) rfl (by rw [hml]; exact hl.1) rfl dX2_init_1 (Nat.le_of_ble_eq_true rfl) (Nat.le_of_ble_eq_true rfl) ?_
  refine W.eq (g2 := F0 m 4 ls []) rfl ?_
  refine lv_aload_n hx hb0 dX2_init_4 rfl (lv_at hl 0 rfl) ?_
  refine lv_bipush (v := 7) hx hb0 dX2_init_5 (by decide) ?_
  refine gl_newq hx hb0 hts hown cl_RX2_11 hk.2 hK hP hD hS hA 3 rfl 7 (by decide) (by decide) (Nat.le_of_ble_eq_true rfl) (Nat.le_of_ble_eq_true rfl) (Nat.le_of_ble_eq_true rfl) dX2_init_7 (fun q0 H hP hD hS => ?_)
  refine gl_putF hx hb0 hts in_RX2 tyX2 tyX2_ok nmX2 hown hK hP hD hS 0 (by decide) rfl rfl rfl 0 (by decide) fl_RX2_13 rfl hin rfl rfl rfl (Nat.le_of_ble_eq_true rfl) (fs' := [.ref q0, .int 0, .int 0]) rfl dX2_init_10 (fun H locs hP hD hS => ?_)
  refine lv_aload_n hx hb0 dX2_init_13 rfl (lv_at hl 0 rfl) ?_
  refine lv_iconst (v := 0) hx hb0 dX2_init_14 (by decide) ?_
  refine gl_put hx hb0 hts in_RX2 tyX2 tyX2_ok nmX2 hown hK hP hD hS 0 (by decide) rfl rfl rfl 1 (by decide) fl_RX2_17 rfl rfl rfl (Nat.le_of_ble_eq_true rfl) (fs' := [.ref q0, .int (0 : Int32), .int 0]) rfl dX2_init_15 (fun H locs hP hD hS => ?_)
  refine lv_aload_n hx hb0 dX2_init_18 rfl (lv_at hl 0 rfl) ?_
  refine lv_iconst (v := 0) hx hb0 dX2_init_19 (by decide) ?_
  refine gl_put hx hb0 hts in_RX2 tyX2 tyX2_ok nmX2 hown hK hP hD hS 0 (by decide) rfl rfl rfl 2 (by decide) fl_RX2_21 rfl rfl rfl (Nat.le_of_ble_eq_true rfl) (fs' := [.ref q0, .int (0 : Int32), .int (0 : Int32)]) rfl dX2_init_20 (fun H locs hP hD hS => ?_)
  refine lv_iconst (v := 0) hx hb0 dX2_init_23 (by decide) ?_
  refine lv_istore_n (lv' := [(1, .int (0 : Int32)), (0, .ref r)]) hx hb0 dX2_init_24 rfl hl (by decide) rfl (fun ls hl => ?_)
  refine lv_iload_n hx hb0 dX2_init_25 rfl (lv_at hl 0 rfl) ?_
  refine lv_bipush (v := 7) hx hb0 dX2_init_26 (by decide) ?_
  refine lv_icmp_ge (tgt := 50) hx hb0 dX2_init_28 (by decide) (fun c9 => absurd c9 (by decide)) (fun c9 => ?_)
  refine lv_aload_n hx hb0 dX2_init_31 rfl (lv_at hl 1 rfl) ?_
  refine gl_get hx hb0 hts in_RX2 hown hK hP 0 (by decide) rfl rfl rfl 0 (by decide) fl_RX2_13 rfl dX2_init_32 ?_
  refine lv_iload_n hx hb0 dX2_init_35 rfl (lv_at hl 0 rfl) ?_
  refine gl_new (ci := 6) (fs := [.null, .null, .null, .null, .null, .int 0, .int 0, .int 0]) hx hb0 hts in_RX6 tyX6 tyX6_ok hown cl_RX2_11 ins_RX6 ini_RX6 hK hP hD hS hA rfl (lt_s (lt_s (lt_s (lt_s (lt_s (lt_s (lt_s (lt_s lt_0 rfl) rfl) rfl) rfl) rfl) rfl) rfl) rfl) (Nat.le_of_ble_eq_true rfl) (Nat.le_of_ble_eq_true rfl) dX2_init_36 (fun q1 H hP hD hS => ?_)
  refine lv_dup hx hb0 dX2_init_39 rfl ?_
  refine gl_init ⟨hx, hb0, hml, hown, hts⟩ (gKI_keep tb) (fun _ _ _ h1 h2 => gKI_narrow h1 h2) hk hK hP hD hS hA [.ref q1, .int (0 : Int32), .ref q0] (c_X6_init l dC dI P tb _ q1 H.size) (callB_of 0 hts (gGood co_yX6_init) rfl rfl rfl (hts _ ini_RX6) (hts _ ml_RX2_24) ⟨by decide, by decide, by decide +kernel⟩ ⟨Nat.le_of_ble_eq_true rfl, Nat.le_of_ble_eq_true rfl⟩) im_yX6_init rfl hl.1 rfl (Nat.le_of_ble_eq_true rfl) dX2_init_40 ⟨Nat.le_of_ble_eq_true rfl, Nat.le_of_ble_eq_true rfl⟩ (fun b2 eb2 H1 locs1 hP1 hD1 hS1 => ?_)
  subst eb2
  have hP := hP1
  have hD := hD1
  have hS := hS1
  refine gl_astq (q := (RX6, TX6, 8)) hx hb0 hK hP hD hS 1 3 2 (by decide) rfl rfl rfl (by decide) rfl rfl rfl (vp_lit 0 (by decide) (by decide)) 0 rfl dX2_init_43 (fun H locs hP hD hS => ?_)
  refine lv_iinc (v := 1) (lv' := [(1, .int (1 : Int32)), (0, .ref r)]) hx hb0 dX2_init_44 hl (k := 0) rfl (by decide) (by decide) rfl (fun ls hl => ?_)
  refine lv_goto (tgt := 25) hx hb0 dX2_init_47 (by decide) ?_
  refine lv_iload_n hx hb0 dX2_init_25 rfl (lv_at hl 0 rfl) ?_
  refine lv_bipush (v := 7) hx hb0 dX2_init_26 (by decide) ?_
  refine lv_icmp_ge (tgt := 50) hx hb0 dX2_init_28 (by decide) (fun c9 => absurd c9 (by decide)) (fun c9 => ?_)
  refine lv_aload_n hx hb0 dX2_init_31 rfl (lv_at hl 1 rfl) ?_
  refine gl_get hx hb0 hts in_RX2 hown hK hP 0 (by decide) rfl rfl rfl 0 (by decide) fl_RX2_13 rfl dX2_init_32 ?_
  refine lv_iload_n hx hb0 dX2_init_35 rfl (lv_at hl 0 rfl) ?_
  refine gl_new (ci := 6) (fs := [.null, .null, .null, .null, .null, .int 0, .int 0, .int 0]) hx hb0 hts in_RX6 tyX6 tyX6_ok hown cl_RX2_11 ins_RX6 ini_RX6 hK hP hD hS hA rfl (lt_s (lt_s (lt_s (lt_s (lt_s (lt_s (lt_s (lt_s lt_0 rfl) rfl) rfl) rfl) rfl) rfl) rfl) rfl) (Nat.le_of_ble_eq_true rfl) (Nat.le_of_ble_eq_true rfl) dX2_init_36 (fun q3 H hP hD hS => ?_)
  refine lv_dup hx hb0 dX2_init_39 rfl ?_
  refine gl_init ⟨hx, hb0, hml, hown, hts⟩ (gKI_keep tb) (fun _ _ _ h1 h2 => gKI_narrow h1 h2) hk hK hP hD hS hA [.ref q3, .int (1 : Int32), .ref q0] (c_X6_init l dC dI P tb _ q3 H.size) (callB_of 0 hts (gGood co_yX6_init) rfl rfl rfl (hts _ ini_RX6) (hts _ ml_RX2_24) ⟨by decide, by decide, by decide +kernel⟩ ⟨Nat.le_of_ble_eq_true rfl, Nat.le_of_ble_eq_true rfl⟩) im_yX6_init rfl hl.1 rfl (Nat.le_of_ble_eq_true rfl) dX2_init_40 ⟨Nat.le_of_ble_eq_true rfl, Nat.le_of_ble_eq_true rfl⟩ (fun b4 eb4 H1 locs1 hP1 hD1 hS1 => ?_)
  subst eb4
  have hP := hP1
  have hD := hD1
  have hS := hS1
  refine gl_astq (q := (RX6, TX6, 8)) hx hb0 hK hP hD hS 1 3 17 (by decide) rfl rfl rfl (by decide) rfl rfl rfl (vp_lit 1 (by decide) (by decide)) 1 rfl dX2_init_43 (fun H locs hP hD hS => ?_)
  refine lv_iinc (v := 2) (lv' := [(1, .int (2 : Int32)), (0, .ref r)]) hx hb0 dX2_init_44 hl (k := 0) rfl (by decide) (by decide) rfl (fun ls hl => ?_)
  refine lv_goto (tgt := 25) hx hb0 dX2_init_47 (by decide) ?_
  refine lv_iload_n hx hb0 dX2_init_25 rfl (lv_at hl 0 rfl) ?_
  refine lv_bipush (v := 7) hx hb0 dX2_init_26 (by decide) ?_
  refine lv_icmp_ge (tgt := 50) hx hb0 dX2_init_28 (by decide) (fun c9 => absurd c9 (by decide)) (fun c9 => ?_)
  refine lv_aload_n hx hb0 dX2_init_31 rfl (lv_at hl 1 rfl) ?_
  refine gl_get hx hb0 hts in_RX2 hown hK hP 0 (by decide) rfl rfl rfl 0 (by decide) fl_RX2_13 rfl dX2_init_32 ?_
  refine lv_iload_n hx hb0 dX2_init_35 rfl (lv_at hl 0 rfl) ?_
  refine gl_new (ci := 6) (fs := [.null, .null, .null, .null, .null, .int 0, .int 0, .int 0]) hx hb0 hts in_RX6 tyX6 tyX6_ok hown cl_RX2_11 ins_RX6 ini_RX6 hK hP hD hS hA rfl (lt_s (lt_s (lt_s (lt_s (lt_s (lt_s (lt_s (lt_s lt_0 rfl) rfl) rfl) rfl) rfl) rfl) rfl) rfl) (Nat.le_of_ble_eq_true rfl) (Nat.le_of_ble_eq_true rfl) dX2_init_36 (fun q5 H hP hD hS => ?_)
  refine lv_dup hx hb0 dX2_init_39 rfl ?_
  refine gl_init ⟨hx, hb0, hml, hown, hts⟩ (gKI_keep tb) (fun _ _ _ h1 h2 => gKI_narrow h1 h2) hk hK hP hD hS hA [.ref q5, .int (2 : Int32), .ref q0] (c_X6_init l dC dI P tb _ q5 H.size) (callB_of 0 hts (gGood co_yX6_init) rfl rfl rfl (hts _ ini_RX6) (hts _ ml_RX2_24) ⟨by decide, by decide, by decide +kernel⟩ ⟨Nat.le_of_ble_eq_true rfl, Nat.le_of_ble_eq_true rfl⟩) im_yX6_init rfl hl.1 rfl (Nat.le_of_ble_eq_true rfl) dX2_init_40 ⟨Nat.le_of_ble_eq_true rfl, Nat.le_of_ble_eq_true rfl⟩ (fun b6 eb6 H1 locs1 hP1 hD1 hS1 => ?_)
  subst eb6
  have hP := hP1
  have hD := hD1
  have hS := hS1
  refine gl_astq (q := (RX6, TX6, 8)) hx hb0 hK hP hD hS 1 3 32 (by decide) rfl rfl rfl (by decide) rfl rfl rfl (vp_lit 2 (by decide) (by decide)) 2 rfl dX2_init_43 (fun H locs hP hD hS => ?_)
  refine lv_iinc (v := 3) (lv' := [(1, .int (3 : Int32)), (0, .ref r)]) hx hb0 dX2_init_44 hl (k := 0) rfl (by decide) (by decide) rfl (fun ls hl => ?_)
  refine lv_goto (tgt := 25) hx hb0 dX2_init_47 (by decide) ?_
  refine lv_iload_n hx hb0 dX2_init_25 rfl (lv_at hl 0 rfl) ?_
  refine lv_bipush (v := 7) hx hb0 dX2_init_26 (by decide) ?_
  refine lv_icmp_ge (tgt := 50) hx hb0 dX2_init_28 (by decide) (fun c9 => absurd c9 (by decide)) (fun c9 => ?_)
  refine lv_aload_n hx hb0 dX2_init_31 rfl (lv_at hl 1 rfl) ?_
  refine gl_get hx hb0 hts in_RX2 hown hK hP 0 (by decide) rfl rfl rfl 0 (by decide) fl_RX2_13 rfl dX2_init_32 ?_
  refine lv_iload_n hx hb0 dX2_init_35 rfl (lv_at hl 0 rfl) ?_
  refine gl_new (ci := 6) (fs := [.null, .null, .null, .null, .null, .int 0, .int 0, .int 0]) hx hb0 hts in_RX6 tyX6 tyX6_ok hown cl_RX2_11 ins_RX6 ini_RX6 hK hP hD hS hA rfl (lt_s (lt_s (lt_s (lt_s (lt_s (lt_s (lt_s (lt_s lt_0 rfl) rfl) rfl) rfl) rfl) rfl) rfl) rfl) (Nat.le_of_ble_eq_true rfl) (Nat.le_of_ble_eq_true rfl) dX2_init_36 (fun q7 H hP hD hS => ?_)
  refine lv_dup hx hb0 dX2_init_39 rfl ?_
  refine gl_init ⟨hx, hb0, hml, hown, hts⟩ (gKI_keep tb) (fun _ _ _ h1 h2 => gKI_narrow h1 h2) hk hK hP hD hS hA [.ref q7, .int (3 : Int32), .ref q0] (c_X6_init l dC dI P tb _ q7 H.size) (callB_of 0 hts (gGood co_yX6_init) rfl rfl rfl (hts _ ini_RX6) (hts _ ml_RX2_24) ⟨by decide, by decide, by decide +kernel⟩ ⟨Nat.le_of_ble_eq_true rfl, Nat.le_of_ble_eq_true rfl⟩) im_yX6_init rfl hl.1 rfl (Nat.le_of_ble_eq_true rfl) dX2_init_40 ⟨Nat.le_of_ble_eq_true rfl, Nat.le_of_ble_eq_true rfl⟩ (fun b8 eb8 H1 locs1 hP1 hD1 hS1 => ?_)
  subst eb8
  have hP := hP1
  have hD := hD1
  have hS := hS1
  refine gl_astq (q := (RX6, TX6, 8)) hx hb0 hK hP hD hS 1 3 47 (by decide) rfl rfl rfl (by decide) rfl rfl rfl (vp_lit 3 (by decide) (by decide)) 3 rfl dX2_init_43 (fun H locs hP hD hS => ?_)
  refine lv_iinc (v := 4) (lv' := [(1, .int (4 : Int32)), (0, .ref r)]) hx hb0 dX2_init_44 hl (k := 0) rfl (by decide) (by decide) rfl (fun ls hl => ?_)
  refine lv_goto (tgt := 25) hx hb0 dX2_init_47 (by decide) ?_
  refine lv_iload_n hx hb0 dX2_init_25 rfl (lv_at hl 0 rfl) ?_
  refine lv_bipush (v := 7) hx hb0 dX2_init_26 (by decide) ?_
  refine lv_icmp_ge (tgt := 50) hx hb0 dX2_init_28 (by decide) (fun c9 => absurd c9 (by decide)) (fun c9 => ?_)
  refine lv_aload_n hx hb0 dX2_init_31 rfl (lv_at hl 1 rfl) ?_
  refine gl_get hx hb0 hts in_RX2 hown hK hP 0 (by decide) rfl rfl rfl 0 (by decide) fl_RX2_13 rfl dX2_init_32 ?_
  refine lv_iload_n hx hb0 dX2_init_35 rfl (lv_at hl 0 rfl) ?_
  refine gl_new (ci := 6) (fs := [.null, .null, .null, .null, .null, .int 0, .int 0, .int 0]) hx hb0 hts in_RX6 tyX6 tyX6_ok hown cl_RX2_11 ins_RX6 ini_RX6 hK hP hD hS hA rfl (lt_s (lt_s (lt_s (lt_s (lt_s (lt_s (lt_s (lt_s lt_0 rfl) rfl) rfl) rfl) rfl) rfl) rfl) rfl) (Nat.le_of_ble_eq_true rfl) (Nat.le_of_ble_eq_true rfl) dX2_init_36 (fun q9 H hP hD hS => ?_)
  refine lv_dup hx hb0 dX2_init_39 rfl ?_
  refine gl_init ⟨hx, hb0, hml, hown, hts⟩ (gKI_keep tb) (fun _ _ _ h1 h2 => gKI_narrow h1 h2) hk hK hP hD hS hA [.ref q9, .int (4 : Int32), .ref q0] (c_X6_init l dC dI P tb _ q9 H.size) (callB_of 0 hts (gGood co_yX6_init) rfl rfl rfl (hts _ ini_RX6) (hts _ ml_RX2_24) ⟨by decide, by decide, by decide +kernel⟩ ⟨Nat.le_of_ble_eq_true rfl, Nat.le_of_ble_eq_true rfl⟩) im_yX6_init rfl hl.1 rfl (Nat.le_of_ble_eq_true rfl) dX2_init_40 ⟨Nat.le_of_ble_eq_true rfl, Nat.le_of_ble_eq_true rfl⟩ (fun b10 eb10 H1 locs1 hP1 hD1 hS1 => ?_)
  subst eb10
  have hP := hP1
  have hD := hD1
  have hS := hS1
  refine gl_astq (q := (RX6, TX6, 8)) hx hb0 hK hP hD hS 1 3 62 (by decide) rfl rfl rfl (by decide) rfl rfl rfl (vp_lit 4 (by decide) (by decide)) 4 rfl dX2_init_43 (fun H locs hP hD hS => ?_)
  refine lv_iinc (v := 5) (lv' := [(1, .int (5 : Int32)), (0, .ref r)]) hx hb0 dX2_init_44 hl (k := 0) rfl (by decide) (by decide) rfl (fun ls hl => ?_)
  refine lv_goto (tgt := 25) hx hb0 dX2_init_47 (by decide) ?_
  refine lv_iload_n hx hb0 dX2_init_25 rfl (lv_at hl 0 rfl) ?_
  refine lv_bipush (v := 7) hx hb0 dX2_init_26 (by decide) ?_
  refine lv_icmp_ge (tgt := 50) hx hb0 dX2_init_28 (by decide) (fun c9 => absurd c9 (by decide)) (fun c9 => ?_)
  refine lv_aload_n hx hb0 dX2_init_31 rfl (lv_at hl 1 rfl) ?_
  refine gl_get hx hb0 hts in_RX2 hown hK hP 0 (by decide) rfl rfl rfl 0 (by decide) fl_RX2_13 rfl dX2_init_32 ?_
  refine lv_iload_n hx hb0 dX2_init_35 rfl (lv_at hl 0 rfl) ?_
  refine gl_new (ci := 6) (fs := [.null, .null, .null, .null, .null, .int 0, .int 0, .int 0]) hx hb0 hts in_RX6 tyX6 tyX6_ok hown cl_RX2_11 ins_RX6 ini_RX6 hK hP hD hS hA rfl (lt_s (lt_s (lt_s (lt_s (lt_s (lt_s (lt_s (lt_s lt_0 rfl) rfl) rfl) rfl) rfl) rfl) rfl) rfl) (Nat.le_of_ble_eq_true rfl) (Nat.le_of_ble_eq_true rfl) dX2_init_36 (fun q11 H hP hD hS => ?_)
  refine lv_dup hx hb0 dX2_init_39 rfl ?_
  refine gl_init ⟨hx, hb0, hml, hown, hts⟩ (gKI_keep tb) (fun _ _ _ h1 h2 => gKI_narrow h1 h2) hk hK hP hD hS hA [.ref q11, .int (5 : Int32), .ref q0] (c_X6_init l dC dI P tb _ q11 H.size) (callB_of 0 hts (gGood co_yX6_init) rfl rfl rfl (hts _ ini_RX6) (hts _ ml_RX2_24) ⟨by decide, by decide, by decide +kernel⟩ ⟨Nat.le_of_ble_eq_true rfl, Nat.le_of_ble_eq_true rfl⟩) im_yX6_init rfl hl.1 rfl (Nat.le_of_ble_eq_true rfl) dX2_init_40 ⟨Nat.le_of_ble_eq_true rfl, Nat.le_of_ble_eq_true rfl⟩ (fun b12 eb12 H1 locs1 hP1 hD1 hS1 => ?_)
  subst eb12
  have hP := hP1
  have hD := hD1
  have hS := hS1
  refine gl_astq (q := (RX6, TX6, 8)) hx hb0 hK hP hD hS 1 3 77 (by decide) rfl rfl rfl (by decide) rfl rfl rfl (vp_lit 5 (by decide) (by decide)) 5 rfl dX2_init_43 (fun H locs hP hD hS => ?_)
  refine lv_iinc (v := 6) (lv' := [(1, .int (6 : Int32)), (0, .ref r)]) hx hb0 dX2_init_44 hl (k := 0) rfl (by decide) (by decide) rfl (fun ls hl => ?_)
  refine lv_goto (tgt := 25) hx hb0 dX2_init_47 (by decide) ?_
  refine lv_iload_n hx hb0 dX2_init_25 rfl (lv_at hl 0 rfl) ?_
  refine lv_bipush (v := 7) hx hb0 dX2_init_26 (by decide) ?_
  refine lv_icmp_ge (tgt := 50) hx hb0 dX2_init_28 (by decide) (fun c9 => absurd c9 (by decide)) (fun c9 => ?_)
  refine lv_aload_n hx hb0 dX2_init_31 rfl (lv_at hl 1 rfl) ?_
  refine gl_get hx hb0 hts in_RX2 hown hK hP 0 (by decide) rfl rfl rfl 0 (by decide) fl_RX2_13 rfl dX2_init_32 ?_
  refine lv_iload_n hx hb0 dX2_init_35 rfl (lv_at hl 0 rfl) ?_
  refine gl_new (ci := 6) (fs := [.null, .null, .null, .null, .null, .int 0, .int 0, .int 0]) hx hb0 hts in_RX6 tyX6 tyX6_ok hown cl_RX2_11 ins_RX6 ini_RX6 hK hP hD hS hA rfl (lt_s (lt_s (lt_s (lt_s (lt_s (lt_s (lt_s (lt_s lt_0 rfl) rfl) rfl) rfl) rfl) rfl) rfl) rfl) (Nat.le_of_ble_eq_true rfl) (Nat.le_of_ble_eq_true rfl) dX2_init_36 (fun q13 H hP hD hS => ?_)
  refine lv_dup hx hb0 dX2_init_39 rfl ?_
  refine gl_init ⟨hx, hb0, hml, hown, hts⟩ (gKI_keep tb) (fun _ _ _ h1 h2 => gKI_narrow h1 h2) hk hK hP hD hS hA [.ref q13, .int (6 : Int32), .ref q0] (c_X6_init l dC dI P tb _ q13 H.size) (callB_of 0 hts (gGood co_yX6_init) rfl rfl rfl (hts _ ini_RX6) (hts _ ml_RX2_24) ⟨by decide, by decide, by decide +kernel⟩ ⟨Nat.le_of_ble_eq_true rfl, Nat.le_of_ble_eq_true rfl⟩) im_yX6_init rfl hl.1 rfl (Nat.le_of_ble_eq_true rfl) dX2_init_40 ⟨Nat.le_of_ble_eq_true rfl, Nat.le_of_ble_eq_true rfl⟩ (fun b14 eb14 H1 locs1 hP1 hD1 hS1 => ?_)
  subst eb14
  have hP := hP1
  have hD := hD1
  have hS := hS1
  refine gl_astq (q := (RX6, TX6, 8)) hx hb0 hK hP hD hS 1 3 92 (by decide) rfl rfl rfl (by decide) rfl rfl rfl (vp_lit 6 (by decide) (by decide)) 6 rfl dX2_init_43 (fun H locs hP hD hS => ?_)
  refine lv_iinc (v := 7) (lv' := [(1, .int (7 : Int32)), (0, .ref r)]) hx hb0 dX2_init_44 hl (k := 0) rfl (by decide) (by decide) rfl (fun ls hl => ?_)
  refine lv_goto (tgt := 25) hx hb0 dX2_init_47 (by decide) ?_
  refine lv_iload_n hx hb0 dX2_init_25 rfl (lv_at hl 0 rfl) ?_
  refine lv_bipush (v := 7) hx hb0 dX2_init_26 (by decide) ?_
  refine lv_icmp_ge (tgt := 50) hx hb0 dX2_init_28 (by decide) (fun c9 => ?_) (fun c9 => absurd (by decide) c9)
  refine W.widen (k := 106) (n := 819) (Nat.le_of_ble_eq_true rfl) (Nat.le_of_ble_eq_true rfl) ?_
  exact gl_ret hx hb0 hr hlocks hP hD hS rfl (lt_s (lt_s (lt_s (lt_s (lt_s (lt_s (lt_s (lt_s (lt_s (lt_s (lt_s (lt_s (lt_s (lt_s (lt_s (lt_s (lt_s (lt_s (lt_s (lt_s (lt_s (lt_s (lt_s (lt_s (lt_s (lt_s (lt_s (lt_s (lt_s (lt_s (lt_s (lt_s (lt_s (lt_s (lt_s (lt_s (lt_s (lt_s (lt_s (lt_s (lt_s (lt_s (lt_s (lt_s (lt_s (lt_s (lt_s (lt_s (lt_s (lt_s (lt_s (lt_s (lt_s (lt_s (lt_s (lt_s (lt_s (lt_s (lt_s (lt_s (lt_s (lt_s (lt_s (lt_s (lt_s (lt_s (lt_s (lt_s (lt_s (lt_s (lt_s (lt_s (lt_s (lt_s (lt_s (lt_s (lt_s (lt_s (lt_s (lt_s (lt_s (lt_s (lt_s (lt_s (lt_s (lt_s (lt_s (lt_s (lt_s (lt_s (lt_s (lt_s (lt_s (lt_s (lt_s (lt_s (lt_s (lt_s (lt_s (lt_s (lt_s (lt_s (lt_s (lt_s (lt_s (lt_s (lt_s lt_0 rfl) rfl) rfl) rfl) rfl) rfl) rfl) rfl) rfl) rfl) rfl) rfl) rfl) rfl) rfl) rfl) rfl) rfl) rfl) rfl) rfl) rfl) rfl) rfl) rfl) rfl) rfl) rfl) rfl) rfl) rfl) rfl) rfl) rfl) rfl) rfl) rfl) rfl) rfl) rfl) rfl) rfl) rfl) rfl) rfl) rfl) rfl) rfl) rfl) rfl) rfl) rfl) rfl) rfl) rfl) rfl) rfl) rfl) rfl) rfl) rfl) rfl) rfl) rfl) rfl) rfl) rfl) rfl) rfl) rfl) rfl) rfl) rfl) rfl) rfl) rfl) rfl) rfl) rfl) rfl) rfl) rfl) rfl) rfl) rfl) rfl) rfl) rfl) rfl) rfl) rfl) rfl) rfl) rfl) rfl) rfl) rfl) rfl) rfl) rfl) rfl) rfl) rfl) rfl) rfl) rfl) rfl) dX2_init_50
