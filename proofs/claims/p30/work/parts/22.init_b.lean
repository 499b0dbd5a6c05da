abbrev rm_X6_init : Room := { frames := 2, cells := 14, slots := 108, locals := 33 }
set_option maxHeartbeats 8000000 in
set_option maxRecDepth 200000 in
theorem c_X6_init (l : Launch) (dC : Nat → ClassId) (dI : Nat → Nat → Nat) (P : gP) (tb : Nat → Nat) (X : va_W) (r sz : Nat) : Met l yX6_init (Cond.code yX6_init cX6_init 1 none :: TB) rm_X6_init (glPc (dC, dI) vwCl (tyC P) (gKI tb) X (.inr (6, [.null, .null, .null, .null, .null, .int 0, .int 0, .int 0])) r sz) (glQv (dC, dI) vwCl X (.inr (6, [.null, .null, .null, .null, .null, .int 0, .int 0, .int 0])) r sz 15 (dV P)) 14 108 (va_A (X ++ [(r, (.inr (6, [.null, .null, .null, .null, .null, .int 0, .int 0, .int 0])))]) sz) := by
  refine gl_start (by decide) rfl (by decide) (fun p e s m below meth c ls hx hb0 hr hlocks hml hown hin hts hK hk hP hD hS hA hl => ?_)
  have hown : s.vm.findClass RX6 = some m.cls := hown
  refine lv_aload_n hx hb0 dX6_init_0 rfl (lv_at hl 0 rfl) ?_
  refine W.objInit hx hb0 hown (hts _ ml_RX6_3) (hts _ im_Lib_objectInit) (hts _ co_Lib_objectInit) rfl (by rw [hml]; exact hl.1) rfl dX6_init_1 (Nat.le_of_ble_eq_true rfl) (Nat.le_of_ble_eq_true rfl) ?_
  refine W.eq (g2 := F0 m 4 ls []) rfl ?_
  refine lv_aload_n hx hb0 dX6_init_4 rfl (lv_at hl 0 rfl) ?_
  refine lv_iconst (v := 4) hx hb0 dX6_init_5 (by decide) ?_
  refine gl_newa (atype := .int) hx hb0 hts ac_int hK hP hD hS hA 0 rfl rfl 4 (by decide) (by decide) (Nat.le_of_ble_eq_true rfl) (Nat.le_of_ble_eq_true rfl) (Nat.le_of_ble_eq_true rfl) dX6_init_6 (fun q0 H hP hD hS => ?_)
  refine gl_putF hx hb0 hts in_RX6 tyX6 tyX6_ok nmX6 hown hK hP hD hS 0 (by decide) rfl rfl rfl 0 (by decide) fl_RX6_9 rfl hin rfl rfl rfl (Nat.le_of_ble_eq_true rfl) (fs' := [.ref q0, .null, .null, .null, .null, .int 0, .int 0, .int 0]) rfl dX6_init_8 (fun H locs hP hD hS => ?_)
  refine lv_aload_n hx hb0 dX6_init_11 rfl (lv_at hl 0 rfl) ?_
  refine gl_new (ci := 5) (fs := [.int 0, .int 0, .null]) hx hb0 hts in_RX5 tyX5 tyX5_ok hown cl_RX6_15 ins_RX5 ini_RX5 hK hP hD hS hA rfl (lt_s (lt_s (lt_s lt_0 rfl) rfl) rfl) (Nat.le_of_ble_eq_true rfl) (Nat.le_of_ble_eq_true rfl) dX6_init_12 (fun q1 H hP hD hS => ?_)
  refine lv_dup hx hb0 dX6_init_15 rfl ?_
  refine gl_initN ⟨hx, hb0, hml, hown, hts⟩ (gKI_keep tb) (fun _ _ _ h1 h2 => gKI_narrow h1 h2) hk hK hP hD hS hA [.ref q1, .ref r] (c_X5_init l dC dI P tb _ q1 H.size) (va_cnB 0 hts (gGood co_yX5_init) rfl rfl rfl (hk.1.1 _ nl_RX6_17) (hts _ ini_RX5) ⟨by decide, by decide, by decide +kernel⟩ ⟨Nat.le_of_ble_eq_true rfl, Nat.le_of_ble_eq_true rfl⟩) im_yX5_init rfl hl.1 rfl (Nat.le_of_ble_eq_true rfl) dX6_init_16 ⟨Nat.le_of_ble_eq_true rfl, Nat.le_of_ble_eq_true rfl⟩ (fun b2 eb2 H1 locs1 hP1 hD1 hS1 => ?_)
  subst eb2
  have hP := hP1
  have hD := hD1
  have hS := hS1
  refine gl_putF hx hb0 hts in_RX6 tyX6 tyX6_ok nmX6 hown hK hP hD hS 0 (by decide) rfl rfl rfl 1 (by decide) fl_RX6_18 rfl hin rfl rfl rfl (Nat.le_of_ble_eq_true rfl) (fs' := [.ref q0, .ref (b2 0), .null, .null, .null, .int 0, .int 0, .int 0]) rfl dX6_init_19 (fun H locs hP hD hS => ?_)
  refine lv_aload_n hx hb0 dX6_init_22 rfl (lv_at hl 0 rfl) ?_
  refine gl_new (ci := 1) (fs := [.null, .null, .null, .null, .null, .null, .null]) hx hb0 hts in_RX1 tyX1 tyX1_ok hown cl_RX6_22 ins_RX1 ini_RX1 hK hP hD hS hA rfl (lt_s (lt_s (lt_s (lt_s (lt_s (lt_s (lt_s lt_0 rfl) rfl) rfl) rfl) rfl) rfl) rfl) (Nat.le_of_ble_eq_true rfl) (Nat.le_of_ble_eq_true rfl) dX6_init_23 (fun q3 H hP hD hS => ?_)
  refine lv_dup hx hb0 dX6_init_26 rfl ?_
  refine gl_init ⟨hx, hb0, hml, hown, hts⟩ (gKI_keep tb) (fun _ _ _ h1 h2 => gKI_narrow h1 h2) hk hK hP hD hS hA [.ref q3, .ref r] (c_X1_init l dC dI P tb _ q3 H.size) (callB_of 0 hts (gGood co_yX1_init) rfl rfl rfl (hts _ ini_RX1) (hts _ ml_RX6_24) ⟨by decide, by decide, by decide +kernel⟩ ⟨Nat.le_of_ble_eq_true rfl, Nat.le_of_ble_eq_true rfl⟩) im_yX1_init rfl hl.1 rfl (Nat.le_of_ble_eq_true rfl) dX6_init_27 ⟨Nat.le_of_ble_eq_true rfl, Nat.le_of_ble_eq_true rfl⟩ (fun b4 eb4 H1 locs1 hP1 hD1 hS1 => ?_)
  subst eb4
  have hP := hP1
  have hD := hD1
  have hS := hS1
  refine gl_putF hx hb0 hts in_RX6 tyX6 tyX6_ok nmX6 hown hK hP hD hS 0 (by decide) rfl rfl rfl 2 (by decide) fl_RX6_25 rfl hin rfl rfl rfl (Nat.le_of_ble_eq_true rfl) (fs' := [.ref q0, .ref (b2 0), .ref (b4 0), .null, .null, .int 0, .int 0, .int 0]) rfl dX6_init_30 (fun H locs hP hD hS => ?_)
  refine lv_aload_n hx hb0 dX6_init_33 rfl (lv_at hl 0 rfl) ?_
  refine gl_new (ci := 0) (fs := [.int 0, .int 0, .int 0, .int 0]) hx hb0 hts in_RX0 tyX0 tyX0_ok hown cl_RX6_29 ins_RX0 ini_RX0 hK hP hD hS hA rfl (lt_s (lt_s (lt_s (lt_s lt_0 rfl) rfl) rfl) rfl) (Nat.le_of_ble_eq_true rfl) (Nat.le_of_ble_eq_true rfl) dX6_init_34 (fun q5 H hP hD hS => ?_)
  refine lv_dup hx hb0 dX6_init_37 rfl ?_
  refine gl_initN ⟨hx, hb0, hml, hown, hts⟩ (gKI_keep tb) (fun _ _ _ h1 h2 => gKI_narrow h1 h2) hk hK hP hD hS hA [.ref q5, .ref r] (c_X0_init l dC dI P tb _ q5 H.size) (va_cnB 0 hts (gGood co_yX0_init) rfl rfl rfl (hk.1.1 _ nl_RX6_31) (hts _ ini_RX0) ⟨by decide, by decide, by decide +kernel⟩ ⟨Nat.le_of_ble_eq_true rfl, Nat.le_of_ble_eq_true rfl⟩) im_yX0_init rfl hl.1 rfl (Nat.le_of_ble_eq_true rfl) dX6_init_38 ⟨Nat.le_of_ble_eq_true rfl, Nat.le_of_ble_eq_true rfl⟩ (fun b6 eb6 H1 locs1 hP1 hD1 hS1 => ?_)
  subst eb6
  have hP := hP1
  have hD := hD1
  have hS := hS1
  refine gl_putF hx hb0 hts in_RX6 tyX6 tyX6_ok nmX6 hown hK hP hD hS 0 (by decide) rfl rfl rfl 3 (by decide) fl_RX6_32 rfl hin rfl rfl rfl (Nat.le_of_ble_eq_true rfl) (fs' := [.ref q0, .ref (b2 0), .ref (b4 0), .ref (b6 0), .null, .int 0, .int 0, .int 0]) rfl dX6_init_41 (fun H locs hP hD hS => ?_)
  refine lv_aload_n hx hb0 dX6_init_44 rfl (lv_at hl 0 rfl) ?_
  refine gl_new (ci := 3) (fs := [.null]) hx hb0 hts in_RX3 tyX3 tyX3_ok hown cl_RX6_36 ins_RX3 ini_RX3 hK hP hD hS hA rfl (lt_s lt_0 rfl) (Nat.le_of_ble_eq_true rfl) (Nat.le_of_ble_eq_true rfl) dX6_init_45 (fun q7 H hP hD hS => ?_)
  refine lv_dup hx hb0 dX6_init_48 rfl ?_
  refine gl_initN ⟨hx, hb0, hml, hown, hts⟩ (gKI_keep tb) (fun _ _ _ h1 h2 => gKI_narrow h1 h2) hk hK hP hD hS hA [.ref q7, .ref r] (c_X3_init l dC dI P tb _ q7 H.size) (va_cnB 0 hts (gGood co_yX3_init) rfl rfl rfl (hk.1.1 _ nl_RX6_38) (hts _ ini_RX3) ⟨by decide, by decide, by decide +kernel⟩ ⟨Nat.le_of_ble_eq_true rfl, Nat.le_of_ble_eq_true rfl⟩) im_yX3_init rfl hl.1 rfl (Nat.le_of_ble_eq_true rfl) dX6_init_49 ⟨Nat.le_of_ble_eq_true rfl, Nat.le_of_ble_eq_true rfl⟩ (fun b8 eb8 H1 locs1 hP1 hD1 hS1 => ?_)
  subst eb8
  have hP := hP1
  have hD := hD1
  have hS := hS1
  refine gl_putF hx hb0 hts in_RX6 tyX6 tyX6_ok nmX6 hown hK hP hD hS 0 (by decide) rfl rfl rfl 4 (by decide) fl_RX6_39 rfl hin rfl rfl rfl (Nat.le_of_ble_eq_true rfl) (fs' := [.ref q0, .ref (b2 0), .ref (b4 0), .ref (b6 0), .ref (b8 0), .int 0, .int 0, .int 0]) rfl dX6_init_52 (fun H locs hP hD hS => ?_)
  refine lv_aload_n hx hb0 dX6_init_55 rfl (lv_at hl 0 rfl) ?_
  refine lv_iconst (v := 0) hx hb0 dX6_init_56 (by decide) ?_
  refine gl_put hx hb0 hts in_RX6 tyX6 tyX6_ok nmX6 hown hK hP hD hS 0 (by decide) rfl rfl rfl 5 (by decide) fl_RX6_43 rfl rfl rfl (Nat.le_of_ble_eq_true rfl) (fs' := [.ref q0, .ref (b2 0), .ref (b4 0), .ref (b6 0), .ref (b8 0), .int (0 : Int32), .int 0, .int 0]) rfl dX6_init_57 (fun H locs hP hD hS => ?_)
  refine lv_aload_n hx hb0 dX6_init_60 rfl (lv_at hl 0 rfl) ?_
  refine lv_iconst (v := 0) hx hb0 dX6_init_61 (by decide) ?_
  refine gl_put hx hb0 hts in_RX6 tyX6 tyX6_ok nmX6 hown hK hP hD hS 0 (by decide) rfl rfl rfl 6 (by decide) fl_RX6_47 rfl rfl rfl (Nat.le_of_ble_eq_true rfl) (fs' := [.ref q0, .ref (b2 0), .ref (b4 0), .ref (b6 0), .ref (b8 0), .int (0 : Int32), .int (0 : Int32), .int 0]) rfl dX6_init_62 (fun H locs hP hD hS => ?_)
  refine lv_aload_n hx hb0 dX6_init_65 rfl (lv_at hl 0 rfl) ?_
  refine lv_iconst (v := 0) hx hb0 dX6_init_66 (by decide) ?_
  refine gl_put hx hb0 hts in_RX6 tyX6 tyX6_ok nmX6 hown hK hP hD hS 0 (by decide) rfl rfl rfl 7 (by decide) fl_RX6_50 rfl rfl rfl (Nat.le_of_ble_eq_true rfl) (fs' := [.ref q0, .ref (b2 0), .ref (b4 0), .ref (b6 0), .ref (b8 0), .int (0 : Int32), .int (0 : Int32), .int (0 : Int32)]) rfl dX6_init_67 (fun H locs hP hD hS => ?_)
  refine va_gets hx hb0 hk.1.2.1.1 hS hown (hts _ fl_RX6_53) (fun _ z => z) dX6_init_70 ?_
  refine lv_iconst (v := 0) hx hb0 dX6_init_73 (by decide) ?_
  refine lv_aload_n hx hb0 dX6_init_74 rfl (lv_at hl 0 rfl) ?_
  refine gl_get hx hb0 hts in_RX6 hown hK hP 0 (by decide) rfl rfl rfl 0 (by decide) fl_RX6_9 rfl dX6_init_75 ?_
  refine lv_iconst (v := 0) hx hb0 dX6_init_78 (by decide) ?_
  refine lv_iconst (v := 4) hx hb0 dX6_init_79 (by decide) ?_
  refine gl_copyT hx hb0 (hml.trans hl.1.symm) hts hown ml_RX6_56 nat_arraycopy st_arraycopyName ini_RJ10 hK hP hD hS 1 0 (by decide) rfl rfl rfl hk.1.2.1.2 (by decide) (by decide) (Nat.le_of_ble_eq_true rfl) (Nat.le_of_ble_eq_true rfl) dX6_init_80 (fun H locs hP hD hS => ?_)
  refine W.widen (k := 14) (n := 108) (Nat.le_of_ble_eq_true rfl) (Nat.le_of_ble_eq_true rfl) ?_
  exact gl_ret hx hb0 hr hlocks hP hD hS rfl (lt_s (lt_s (lt_s (lt_s (lt_s (lt_s (lt_s (lt_s (lt_s (lt_s (lt_s (lt_s (lt_s (lt_s (lt_s lt_0 rfl) rfl) rfl) rfl) rfl) rfl) rfl) rfl) rfl) rfl) rfl) rfl) rfl) rfl) rfl) dX6_init_83
