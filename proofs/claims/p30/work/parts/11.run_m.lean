abbrev rm_L_isSo : Room := { frames := 7, cells := 0, slots := 0, locals := 154 }
set_option maxHeartbeats 4000000 in
set_option maxRecDepth 100000 in
theorem l_L_isSo_443 (l : Launch) (dC : Nat → ClassId) (dI : Nat → Nat → Nat) (P : gP) (ad : Nat → Nat) (tb : Nat → Nat) {p : Program} {e : Env} {s : State} {m : MethodId} {args : Array Value} {below : List Frame} {meth : Method} {c : Code} (hx : p.tables.exec = Jvm.exec) (hb0 : c.code = cL_isSo) (hr : meth.sig.returnType = (some .boolean)) (hlocks : meth.locks = false) (hml : c.maxLocals = 15) (hown : s.vm.findClass RL = some m.cls) (hts : ∀ w ∈ TB, w.before args s = true) (hK : va_K (dC, dI) vwCl (tyC P) s) (hk : (gKC tb (gA 162 ad)) s) (Q : Int32 → Hp → Prop) : ∀ (n : Nat) (y1 : Int32) (y6 : Int32) (y7 : Int32) (y8 : Int32) (y9 : Int32) (y10 : Int32) (y11 : Int32) (y12 : Int32) (y13 : Int32) (h0 : Hp), F_L_isSo_L443  n y1 y6 y7 y8 y9 y10 y11 y12 y13 h0 Q → ∀ (H : Heap) (locs : List Loc) (ls : Array Slot), va_P (dC, dI) vwCl (gW 162 (cE P ad) ad h0) H → va_D (gA 162 ad) (gW 162 (cE P ad) ad h0) → va_S (gA 162 ad) s.heap H locs → lv_has ls 15 [(0, .ref (ad 0)), (1, .int y1), (2, .ref (ad 158)), (3, .ref (ad 159)), (4, .ref (ad 160)), (5, .ref (ad 161)), (6, .int y6), (7, .int y7), (8, .int y8), (9, .int y9), (10, .int y10), (11, .int y11), (12, .int y12), (13, .int y13)] → W p l e rm_L_isSo s m args below meth c H locs 0 0 (MQ below (gQi (dC, dI) vwCl (tyC P) 162 (cE P ad) ad Q) args s 0 0 (gA 162 ad)) (F0 m 443 ls []) := by
  intro n
  induction n with
  | zero =>
    intro y1 y6 y7 y8 y9 y10 y11 y12 y13 h0 he
    exact he.elim
  | succ n ih =>
    intro y1 y6 y7 y8 y9 y10 y11 y12 y13 h0 he H locs ls hP hD hS hl
    rw [F_L_isSo_L443] at he
    refine lv_iload hx hb0 dL_isSo_443 (lv_at hl 13 rfl) ?_
    refine lv_iconst (v := (5 : Int32)) hx hb0 dL_isSo_445 (by decide) ?_
    refine lv_icmp_ge (tgt := 485) hx hb0 dL_isSo_446 (by decide) (fun c_9 => ?_) (fun c_9 => ?_)
    · have he := he.1 c_9
      refine lv_iload_n hx hb0 dL_isSo_485 rfl (lv_at hl 1 rfl) ?_
      refine lv_bipush (v := (9 : Int32)) hx hb0 dL_isSo_486 (by decide) ?_
      refine gx_si ⟨hx, hb0, hml, hown, hts⟩ (gKC_keep _ _) hk hK hP hD hS [.int y1, .int (9 : Int32)] [] (c_L_low l dC dI P ad tb y1 (9 : Int32) h0 _ he) gm_L_low st_yL_low ml_RL_107 rfl rfl ⟨Nat.le_of_ble_eq_true rfl, Nat.le_of_ble_eq_true rfl⟩ rfl hl.1 rfl (Nat.le_of_ble_eq_true rfl) dL_isSo_488 ⟨Nat.zero_le _, Nat.zero_le _⟩ (fun r_10 h_11 he H locs hP hD hS => ?_)
      refine lv_istore (lv' := [(13, .int r_10), (0, .ref (ad 0)), (1, .int y1), (2, .ref (ad 158)), (3, .ref (ad 159)), (4, .ref (ad 160)), (5, .ref (ad 161)), (6, .int y6), (7, .int y7), (8, .int y8), (9, .int y9), (10, .int y10), (11, .int y11), (12, .int y12)]) hx hb0 dL_isSo_491 hl (by decide) rfl (fun ls hl => ?_)
      refine lv_iload_n hx hb0 dL_isSo_493 rfl (lv_at hl 2 rfl) ?_
      refine lv_iconst (v := (4 : Int32)) hx hb0 dL_isSo_494 (by decide) ?_
      refine lv_ishr hx hb0 dL_isSo_495 ?_
      refine lv_iconst (v := (4 : Int32)) hx hb0 dL_isSo_496 (by decide) ?_
      refine gx_si ⟨hx, hb0, hml, hown, hts⟩ (gKC_keep _ _) hk hK hP hD hS [.int (y1 >>> ((4 : Int32) &&& 31)), .int (4 : Int32)] [] (c_L_low l dC dI P ad tb (y1 >>> ((4 : Int32) &&& 31)) (4 : Int32) h_11 _ he) gm_L_low st_yL_low ml_RL_107 rfl rfl ⟨Nat.le_of_ble_eq_true rfl, Nat.le_of_ble_eq_true rfl⟩ rfl hl.1 rfl (Nat.le_of_ble_eq_true rfl) dL_isSo_497 ⟨Nat.zero_le _, Nat.zero_le _⟩ (fun r_12 h_13 he H locs hP hD hS => ?_)
      refine lv_istore (lv' := [(14, .int r_12), (13, .int r_10), (0, .ref (ad 0)), (1, .int y1), (2, .ref (ad 158)), (3, .ref (ad 159)), (4, .ref (ad 160)), (5, .ref (ad 161)), (6, .int y6), (7, .int y7), (8, .int y8), (9, .int y9), (10, .int y10), (11, .int y11), (12, .int y12)]) hx hb0 dL_isSo_500 hl (by decide) rfl (fun ls hl => ?_)
      refine lv_iload hx hb0 dL_isSo_502 (lv_at hl 14 rfl) ?_
      refine lv_if_eq (tgt := 602) hx hb0 dL_isSo_504 (by decide) (fun c_14 => ?_) (fun c_14 => ?_)
      · have he := he.1 c_14
        refine lv_iconst (v := (0 : Int32)) hx hb0 dL_isSo_602 (by decide) ?_
        refine lv_istore (lv' := [(12, .int (0 : Int32)), (14, .int r_12), (13, .int r_10), (0, .ref (ad 0)), (1, .int y1), (2, .ref (ad 158)), (3, .ref (ad 159)), (4, .ref (ad 160)), (5, .ref (ad 161)), (6, .int y6), (7, .int y7), (8, .int y8), (9, .int y9), (10, .int y10), (11, .int y11)]) hx hb0 dL_isSo_603 hl (by decide) rfl (fun ls hl => ?_)
        refine lv_iload hx hb0 dL_isSo_605 (lv_at hl 0 rfl) ?_
        refine lv_if_eq (tgt := 643) hx hb0 dL_isSo_607 (by decide) (fun c_15 => ?_) (fun c_15 => ?_)
        · refine lv_iconst (v := (0 : Int32)) hx hb0 dL_isSo_643 (by decide) ?_
          exact gx_zret hx hb0 hr (by decide) hlocks hK hP hD hS he dL_isSo_644
        · exact absurd c_15 (by decide)
      · have he := he.2 c_14
        refine lv_aload_n hx hb0 dL_isSo_507 rfl (lv_at hl 2 rfl) ?_
        refine lv_iload hx hb0 dL_isSo_508 (lv_at hl 1 rfl) ?_
        refine lv_iload hx hb0 dL_isSo_510 (lv_at hl 0 rfl) ?_
        refine gx_vi ⟨hx, hb0, hml, hown, hts⟩ (gKC_keep _ _) hk hK hP hD hS 0 [.int r_10, .int r_12] [] (c_X7_log l dC dI P ad tb r_10 r_12 h_13 _ he) gm_X7_log im_yX7_log se_yX7_log ml_RL_110 (by decide) (cE_t0 _) rfl rfl rfl ⟨Nat.le_of_ble_eq_true rfl, Nat.le_of_ble_eq_true rfl⟩ rfl hl.1 rfl (Nat.le_of_ble_eq_true rfl) dL_isSo_512 ⟨Nat.zero_le _, Nat.zero_le _⟩ (fun r_16 h_17 he H locs hP hD hS => ?_)
        refine lv_iload hx hb0 dL_isSo_515 (lv_at hl 1 rfl) ?_
        refine lv_aload_n hx hb0 dL_isSo_517 rfl (lv_at hl 4 rfl) ?_
        refine lv_bipush (v := (13 : Int32)) hx hb0 dL_isSo_518 (by decide) ?_
        refine gx_ialdK hx hb0 hK hP 158 0 (by decide) cE_t158 rfl (vp_lit (13 : Int32) (by decide) (by decide)) 13 rfl dL_isSo_520 ?_
        refine lv_icmp_ge (tgt := 537) hx hb0 dL_isSo_521 (by decide) (fun c_18 => ?_) (fun c_18 => ?_)
        · have he := he.1 c_18
          refine lv_iconst (v := (-1 : Int32)) hx hb0 dL_isSo_537 (by decide) ?_
          refine lv_icmp_ne (tgt := 602) hx hb0 dL_isSo_538 (by decide) (fun c_19 => ?_) (fun c_19 => ?_)
          · have he := he.2 c_19
            refine lv_iconst (v := (0 : Int32)) hx hb0 dL_isSo_602 (by decide) ?_
            refine lv_istore (lv' := [(12, .int (0 : Int32)), (14, .int r_12), (13, .int r_10), (0, .ref (ad 0)), (1, .int y1), (2, .ref (ad 158)), (3, .ref (ad 159)), (4, .ref (ad 160)), (5, .ref (ad 161)), (6, .int y6), (7, .int y7), (8, .int y8), (9, .int y9), (10, .int y10), (11, .int y11)]) hx hb0 dL_isSo_603 hl (by decide) rfl (fun ls hl => ?_)
            refine lv_iload hx hb0 dL_isSo_605 (lv_at hl 0 rfl) ?_
            refine lv_if_eq (tgt := 643) hx hb0 dL_isSo_607 (by decide) (fun c_20 => ?_) (fun c_20 => ?_)
            · refine lv_iconst (v := (0 : Int32)) hx hb0 dL_isSo_643 (by decide) ?_
              exact gx_zret hx hb0 hr (by decide) hlocks hK hP hD hS he dL_isSo_644
            · exact absurd c_20 (by decide)
          · have he := he.1 c_19
            refine lv_aload_n hx hb0 dL_isSo_541 rfl (lv_at hl 2 rfl) ?_
            refine lv_iconst (v := (0 : Int32)) hx hb0 dL_isSo_542 (by decide) ?_
            refine gx_vi ⟨hx, hb0, hml, hown, hts⟩ (gKC_keep _ _) hk hK hP hD hS 0 [.int (0 : Int32)] [] (c_X7_nearest l dC dI P ad tb (0 : Int32) h_17 _ he) gm_X7_nearest im_yX7_nearest se_yX7_nearest ml_RL_113 (by decide) (cE_t0 _) rfl rfl rfl ⟨Nat.le_of_ble_eq_true rfl, Nat.le_of_ble_eq_true rfl⟩ rfl hl.1 rfl (Nat.le_of_ble_eq_true rfl) dL_isSo_543 ⟨Nat.zero_le _, Nat.zero_le _⟩ (fun r_21 h_22 he H locs hP hD hS => ?_)
            refine lv_iload hx hb0 dL_isSo_546 (lv_at hl 10 rfl) ?_
            refine lv_icmp_ne (tgt := 602) hx hb0 dL_isSo_548 (by decide) (fun c_23 => ?_) (fun c_23 => ?_)
            · have he := he.2 c_23
              refine lv_iconst (v := (0 : Int32)) hx hb0 dL_isSo_602 (by decide) ?_
              refine lv_istore (lv' := [(12, .int (0 : Int32)), (14, .int r_12), (13, .int r_10), (0, .ref (ad 0)), (1, .int y1), (2, .ref (ad 158)), (3, .ref (ad 159)), (4, .ref (ad 160)), (5, .ref (ad 161)), (6, .int y6), (7, .int y7), (8, .int y8), (9, .int y9), (10, .int y10), (11, .int y11)]) hx hb0 dL_isSo_603 hl (by decide) rfl (fun ls hl => ?_)
              refine lv_iload hx hb0 dL_isSo_605 (lv_at hl 0 rfl) ?_
              refine lv_if_eq (tgt := 643) hx hb0 dL_isSo_607 (by decide) (fun c_24 => ?_) (fun c_24 => ?_)
              · refine lv_iconst (v := (0 : Int32)) hx hb0 dL_isSo_643 (by decide) ?_
                exact gx_zret hx hb0 hr (by decide) hlocks hK hP hD hS he dL_isSo_644
              · exact absurd c_24 (by decide)
            · have he := he.1 c_23
              refine lv_aload_n hx hb0 dL_isSo_551 rfl (lv_at hl 2 rfl) ?_
              refine lv_iconst (v := (1 : Int32)) hx hb0 dL_isSo_552 (by decide) ?_
              refine gx_vi ⟨hx, hb0, hml, hown, hts⟩ (gKC_keep _ _) hk hK hP hD hS 0 [.int (1 : Int32)] [] (c_X7_nearest l dC dI P ad tb (1 : Int32) h_22 _ he) gm_X7_nearest im_yX7_nearest se_yX7_nearest ml_RL_113 (by decide) (cE_t0 _) rfl rfl rfl ⟨Nat.le_of_ble_eq_true rfl, Nat.le_of_ble_eq_true rfl⟩ rfl hl.1 rfl (Nat.le_of_ble_eq_true rfl) dL_isSo_553 ⟨Nat.zero_le _, Nat.zero_le _⟩ (fun r_25 h_26 he H locs hP hD hS => ?_)
              refine lv_iload hx hb0 dL_isSo_556 (lv_at hl 11 rfl) ?_
              refine lv_icmp_ne (tgt := 602) hx hb0 dL_isSo_558 (by decide) (fun c_27 => ?_) (fun c_27 => ?_)
              · have he := he.2 c_27
                refine lv_iconst (v := (0 : Int32)) hx hb0 dL_isSo_602 (by decide) ?_
                refine lv_istore (lv' := [(12, .int (0 : Int32)), (14, .int r_12), (13, .int r_10), (0, .ref (ad 0)), (1, .int y1), (2, .ref (ad 158)), (3, .ref (ad 159)), (4, .ref (ad 160)), (5, .ref (ad 161)), (6, .int y6), (7, .int y7), (8, .int y8), (9, .int y9), (10, .int y10), (11, .int y11)]) hx hb0 dL_isSo_603 hl (by decide) rfl (fun ls hl => ?_)
                refine lv_iload hx hb0 dL_isSo_605 (lv_at hl 0 rfl) ?_
                refine lv_if_eq (tgt := 643) hx hb0 dL_isSo_607 (by decide) (fun c_28 => ?_) (fun c_28 => ?_)
                · refine lv_iconst (v := (0 : Int32)) hx hb0 dL_isSo_643 (by decide) ?_
                  exact gx_zret hx hb0 hr (by decide) hlocks hK hP hD hS he dL_isSo_644
                · exact absurd c_28 (by decide)
              · have he := he.1 c_27
                refine lv_aload_n hx hb0 dL_isSo_561 rfl (lv_at hl 2 rfl) ?_
                refine gx_vi ⟨hx, hb0, hml, hown, hts⟩ (gKC_keep _ _) hk hK hP hD hS 0 [] [] (c_X7_bestStar l dC dI P ad tb  h_26 _ he) gm_X7_bestStar im_yX7_bestStar se_yX7_bestStar ml_RL_116 (by decide) (cE_t0 _) rfl rfl rfl ⟨Nat.le_of_ble_eq_true rfl, Nat.le_of_ble_eq_true rfl⟩ rfl hl.1 rfl (Nat.le_of_ble_eq_true rfl) dL_isSo_562 ⟨Nat.zero_le _, Nat.zero_le _⟩ (fun r_29 h_30 he H locs hP hD hS => ?_)
                refine lv_iload hx hb0 dL_isSo_565 (lv_at hl 12 rfl) ?_
                refine lv_icmp_ne (tgt := 602) hx hb0 dL_isSo_567 (by decide) (fun c_31 => ?_) (fun c_31 => ?_)
                · have he := he.2 c_31
                  refine lv_iconst (v := (0 : Int32)) hx hb0 dL_isSo_602 (by decide) ?_
                  refine lv_istore (lv' := [(12, .int (0 : Int32)), (14, .int r_12), (13, .int r_10), (0, .ref (ad 0)), (1, .int y1), (2, .ref (ad 158)), (3, .ref (ad 159)), (4, .ref (ad 160)), (5, .ref (ad 161)), (6, .int y6), (7, .int y7), (8, .int y8), (9, .int y9), (10, .int y10), (11, .int y11)]) hx hb0 dL_isSo_603 hl (by decide) rfl (fun ls hl => ?_)
                  refine lv_iload hx hb0 dL_isSo_605 (lv_at hl 0 rfl) ?_
                  refine lv_if_eq (tgt := 643) hx hb0 dL_isSo_607 (by decide) (fun c_32 => ?_) (fun c_32 => ?_)
                  · refine lv_iconst (v := (0 : Int32)) hx hb0 dL_isSo_643 (by decide) ?_
                    exact gx_zret hx hb0 hr (by decide) hlocks hK hP hD hS he dL_isSo_644
                  · exact absurd c_32 (by decide)
                · have he := he.1 c_31
                  refine lv_aload_n hx hb0 dL_isSo_570 rfl (lv_at hl 2 rfl) ?_
                  refine lv_bipush (v := (-6 : Int32)) hx hb0 dL_isSo_571 (by decide) ?_
                  refine gx_vi ⟨hx, hb0, hml, hown, hts⟩ (gKC_keep _ _) hk hK hP hD hS 0 [.int (-6 : Int32)] [] (c_X7_median l dC dI P ad tb (-6 : Int32) h_30 _ he) gm_X7_median im_yX7_median se_yX7_median ml_RL_94 (by decide) (cE_t0 _) rfl rfl rfl ⟨Nat.le_of_ble_eq_true rfl, Nat.le_of_ble_eq_true rfl⟩ rfl hl.1 rfl (Nat.le_of_ble_eq_true rfl) dL_isSo_573 ⟨Nat.zero_le _, Nat.zero_le _⟩ (fun r_33 h_34 he H locs hP hD hS => ?_)
                  refine lv_iload hx hb0 dL_isSo_576 (lv_at hl 13 rfl) ?_
                  refine lv_sipush (v := (9999 : Int32)) hx hb0 dL_isSo_578 (by decide) ?_
                  refine lv_icmp_ne (tgt := 589) hx hb0 dL_isSo_581 (by decide) (fun c_35 => ?_) (fun c_35 => ?_)
                  · have he := he.2 c_35
                    refine lv_iload hx hb0 dL_isSo_589 (lv_at hl 13 rfl) ?_
                    refine lv_sipush (v := (5400 : Int32)) hx hb0 dL_isSo_591 (by decide) ?_
                    refine lv_iadd hx hb0 dL_isSo_594 ?_
                    refine lv_icmp_ne (tgt := 602) hx hb0 dL_isSo_595 (by decide) (fun c_36 => ?_) (fun c_36 => ?_)
                    · have he := he.2 c_36
                      refine lv_iconst (v := (0 : Int32)) hx hb0 dL_isSo_602 (by decide) ?_
                      refine lv_istore (lv' := [(12, .int (0 : Int32)), (14, .int r_12), (13, .int r_10), (0, .ref (ad 0)), (1, .int y1), (2, .ref (ad 158)), (3, .ref (ad 159)), (4, .ref (ad 160)), (5, .ref (ad 161)), (6, .int y6), (7, .int y7), (8, .int y8), (9, .int y9), (10, .int y10), (11, .int y11)]) hx hb0 dL_isSo_603 hl (by decide) rfl (fun ls hl => ?_)
                      refine lv_iload hx hb0 dL_isSo_605 (lv_at hl 0 rfl) ?_
                      refine lv_if_eq (tgt := 643) hx hb0 dL_isSo_607 (by decide) (fun c_37 => ?_) (fun c_37 => ?_)
                      · refine lv_iconst (v := (0 : Int32)) hx hb0 dL_isSo_643 (by decide) ?_
                        exact gx_zret hx hb0 hr (by decide) hlocks hK hP hD hS he dL_isSo_644
                      · exact absurd c_37 (by decide)
                    · have he := he.1 c_36
                      refine lv_iconst (v := (1 : Int32)) hx hb0 dL_isSo_598 (by decide) ?_
                      refine lv_goto (tgt := 603) hx hb0 dL_isSo_599 (by decide) ?_
                      refine lv_istore (lv' := [(12, .int (1 : Int32)), (14, .int r_12), (13, .int r_10), (0, .ref (ad 0)), (1, .int y1), (2, .ref (ad 158)), (3, .ref (ad 159)), (4, .ref (ad 160)), (5, .ref (ad 161)), (6, .int y6), (7, .int y7), (8, .int y8), (9, .int y9), (10, .int y10), (11, .int y11)]) hx hb0 dL_isSo_603 hl (by decide) rfl (fun ls hl => ?_)
                      refine lv_iload hx hb0 dL_isSo_605 (lv_at hl 0 rfl) ?_
                      refine lv_if_eq (tgt := 643) hx hb0 dL_isSo_607 (by decide) (fun c_38 => ?_) (fun c_38 => ?_)
                      · exact absurd c_38 (by decide)
                      · refine lv_aload_n hx hb0 dL_isSo_610 rfl (lv_at hl 3 rfl) ?_
                        refine lv_iload_n hx hb0 dL_isSo_611 rfl (lv_at hl 4 rfl) ?_
                        refine lv_bipush (v := (6 : Int32)) hx hb0 dL_isSo_612 (by decide) ?_
                        refine lv_ishr hx hb0 dL_isSo_614 ?_
                        refine lv_bipush (v := (7 : Int32)) hx hb0 dL_isSo_615 (by decide) ?_
                        refine gx_si ⟨hx, hb0, hml, hown, hts⟩ (gKC_keep _ _) hk hK hP hD hS [.int (y1 >>> ((6 : Int32) &&& 31)), .int (7 : Int32)] [.ref (ad 0)] (c_L_low l dC dI P ad tb (y1 >>> ((6 : Int32) &&& 31)) (7 : Int32) h_34 _ he) gm_L_low st_yL_low ml_RL_107 rfl rfl ⟨Nat.le_of_ble_eq_true rfl, Nat.le_of_ble_eq_true rfl⟩ rfl hl.1 rfl (Nat.le_of_ble_eq_true rfl) dL_isSo_617 ⟨Nat.zero_le _, Nat.zero_le _⟩ (fun r_39 h_40 he H locs hP hD hS => ?_)
                        refine lv_iload_n hx hb0 dL_isSo_620 rfl (lv_at hl 4 rfl) ?_
                        refine lv_bipush (v := (9 : Int32)) hx hb0 dL_isSo_621 (by decide) ?_
                        refine lv_ishr hx hb0 dL_isSo_623 ?_
                        refine lv_bipush (v := (9 : Int32)) hx hb0 dL_isSo_624 (by decide) ?_
                        refine gx_si ⟨hx, hb0, hml, hown, hts⟩ (gKC_keep _ _) hk hK hP hD hS [.int (y1 >>> ((9 : Int32) &&& 31)), .int (9 : Int32)] [.int r_39, .ref (ad 0)] (c_L_low l dC dI P ad tb (y1 >>> ((9 : Int32) &&& 31)) (9 : Int32) h_40 _ he) gm_L_low st_yL_low ml_RL_107 rfl rfl ⟨Nat.le_of_ble_eq_true rfl, Nat.le_of_ble_eq_true rfl⟩ rfl hl.1 rfl (Nat.le_of_ble_eq_true rfl) dL_isSo_626 ⟨Nat.zero_le _, Nat.zero_le _⟩ (fun r_41 h_42 he H locs hP hD hS => ?_)
                        refine lv_aload_n hx hb0 dL_isSo_629 rfl (lv_at hl 5 rfl) ?_
                        refine lv_aload_n hx hb0 dL_isSo_630 rfl (lv_at hl 6 rfl) ?_
                        refine lv_aload hx hb0 dL_isSo_631 (lv_at hl 7 rfl) ?_
                        refine gx_si ⟨hx, hb0, hml, hown, hts⟩ (gKC_keep _ _) hk hK hP hD hS [.ref (ad 0), .int r_39, .int r_41, .ref (ad 158), .ref (ad 159), .ref (ad 160)] [] (c_L_isNavigator l dC dI P ad tb r_39 r_41 h_42 _ he) gm_L_isNavigator st_yL_isNavigator ml_RL_119 rfl rfl ⟨Nat.le_of_ble_eq_true rfl, Nat.le_of_ble_eq_true rfl⟩ rfl hl.1 rfl (Nat.le_of_ble_eq_true rfl) dL_isSo_633 ⟨Nat.zero_le _, Nat.zero_le _⟩ (fun r_43 h_44 he H locs hP hD hS => ?_)
                        refine lv_if_eq (tgt := 643) hx hb0 dL_isSo_636 (by decide) (fun c_45 => ?_) (fun c_45 => ?_)
                        · have he := he.1 c_45
                          refine lv_iconst (v := (0 : Int32)) hx hb0 dL_isSo_643 (by decide) ?_
                          exact gx_zret hx hb0 hr (by decide) hlocks hK hP hD hS he dL_isSo_644
                        · have he := he.2 c_45
                          refine lv_iconst (v := (1 : Int32)) hx hb0 dL_isSo_639 (by decide) ?_
                          refine lv_goto (tgt := 644) hx hb0 dL_isSo_640 (by decide) ?_
                          exact gx_zret hx hb0 hr (by decide) hlocks hK hP hD hS he dL_isSo_644
                  · have he := he.1 c_35
                    refine lv_bipush (v := (-5 : Int32)) hx hb0 dL_isSo_584 (by decide) ?_
                    refine lv_goto (tgt := 595) hx hb0 dL_isSo_586 (by decide) ?_
                    refine lv_icmp_ne (tgt := 602) hx hb0 dL_isSo_595 (by decide) (fun c_46 => ?_) (fun c_46 => ?_)
                    · have he := he.2 c_46
                      refine lv_iconst (v := (0 : Int32)) hx hb0 dL_isSo_602 (by decide) ?_
                      refine lv_istore (lv' := [(12, .int (0 : Int32)), (14, .int r_12), (13, .int r_10), (0, .ref (ad 0)), (1, .int y1), (2, .ref (ad 158)), (3, .ref (ad 159)), (4, .ref (ad 160)), (5, .ref (ad 161)), (6, .int y6), (7, .int y7), (8, .int y8), (9, .int y9), (10, .int y10), (11, .int y11)]) hx hb0 dL_isSo_603 hl (by decide) rfl (fun ls hl => ?_)
                      refine lv_iload hx hb0 dL_isSo_605 (lv_at hl 0 rfl) ?_
                      refine lv_if_eq (tgt := 643) hx hb0 dL_isSo_607 (by decide) (fun c_47 => ?_) (fun c_47 => ?_)
                      · refine lv_iconst (v := (0 : Int32)) hx hb0 dL_isSo_643 (by decide) ?_
                        exact gx_zret hx hb0 hr (by decide) hlocks hK hP hD hS he dL_isSo_644
                      · exact absurd c_47 (by decide)
                    · have he := he.1 c_46
                      refine lv_iconst (v := (1 : Int32)) hx hb0 dL_isSo_598 (by decide) ?_
                      refine lv_goto (tgt := 603) hx hb0 dL_isSo_599 (by decide) ?_
                      refine lv_istore (lv' := [(12, .int (1 : Int32)), (14, .int r_12), (13, .int r_10), (0, .ref (ad 0)), (1, .int y1), (2, .ref (ad 158)), (3, .ref (ad 159)), (4, .ref (ad 160)), (5, .ref (ad 161)), (6, .int y6), (7, .int y7), (8, .int y8), (9, .int y9), (10, .int y10), (11, .int y11)]) hx hb0 dL_isSo_603 hl (by decide) rfl (fun ls hl => ?_)
                      refine lv_iload hx hb0 dL_isSo_605 (lv_at hl 0 rfl) ?_
                      refine lv_if_eq (tgt := 643) hx hb0 dL_isSo_607 (by decide) (fun c_48 => ?_) (fun c_48 => ?_)
                      · exact absurd c_48 (by decide)
                      · refine lv_aload_n hx hb0 dL_isSo_610 rfl (lv_at hl 3 rfl) ?_
                        refine lv_iload_n hx hb0 dL_isSo_611 rfl (lv_at hl 4 rfl) ?_
                        refine lv_bipush (v := (6 : Int32)) hx hb0 dL_isSo_612 (by decide) ?_
                        refine lv_ishr hx hb0 dL_isSo_614 ?_
                        refine lv_bipush (v := (7 : Int32)) hx hb0 dL_isSo_615 (by decide) ?_
                        refine gx_si ⟨hx, hb0, hml, hown, hts⟩ (gKC_keep _ _) hk hK hP hD hS [.int (y1 >>> ((6 : Int32) &&& 31)), .int (7 : Int32)] [.ref (ad 0)] (c_L_low l dC dI P ad tb (y1 >>> ((6 : Int32) &&& 31)) (7 : Int32) h_34 _ he) gm_L_low st_yL_low ml_RL_107 rfl rfl ⟨Nat.le_of_ble_eq_true rfl, Nat.le_of_ble_eq_true rfl⟩ rfl hl.1 rfl (Nat.le_of_ble_eq_true rfl) dL_isSo_617 ⟨Nat.zero_le _, Nat.zero_le _⟩ (fun r_49 h_50 he H locs hP hD hS => ?_)
                        refine lv_iload_n hx hb0 dL_isSo_620 rfl (lv_at hl 4 rfl) ?_
                        refine lv_bipush (v := (9 : Int32)) hx hb0 dL_isSo_621 (by decide) ?_
                        refine lv_ishr hx hb0 dL_isSo_623 ?_
                        refine lv_bipush (v := (9 : Int32)) hx hb0 dL_isSo_624 (by decide) ?_
                        refine gx_si ⟨hx, hb0, hml, hown, hts⟩ (gKC_keep _ _) hk hK hP hD hS [.int (y1 >>> ((9 : Int32) &&& 31)), .int (9 : Int32)] [.int r_49, .ref (ad 0)] (c_L_low l dC dI P ad tb (y1 >>> ((9 : Int32) &&& 31)) (9 : Int32) h_50 _ he) gm_L_low st_yL_low ml_RL_107 rfl rfl ⟨Nat.le_of_ble_eq_true rfl, Nat.le_of_ble_eq_true rfl⟩ rfl hl.1 rfl (Nat.le_of_ble_eq_true rfl) dL_isSo_626 ⟨Nat.zero_le _, Nat.zero_le _⟩ (fun r_51 h_52 he H locs hP hD hS => ?_)
                        refine lv_aload_n hx hb0 dL_isSo_629 rfl (lv_at hl 5 rfl) ?_
                        refine lv_aload_n hx hb0 dL_isSo_630 rfl (lv_at hl 6 rfl) ?_
                        refine lv_aload hx hb0 dL_isSo_631 (lv_at hl 7 rfl) ?_
                        refine gx_si ⟨hx, hb0, hml, hown, hts⟩ (gKC_keep _ _) hk hK hP hD hS [.ref (ad 0), .int r_49, .int r_51, .ref (ad 158), .ref (ad 159), .ref (ad 160)] [] (c_L_isNavigator l dC dI P ad tb r_49 r_51 h_52 _ he) gm_L_isNavigator st_yL_isNavigator ml_RL_119 rfl rfl ⟨Nat.le_of_ble_eq_true rfl, Nat.le_of_ble_eq_true rfl⟩ rfl hl.1 rfl (Nat.le_of_ble_eq_true rfl) dL_isSo_633 ⟨Nat.zero_le _, Nat.zero_le _⟩ (fun r_53 h_54 he H locs hP hD hS => ?_)
                        refine lv_if_eq (tgt := 643) hx hb0 dL_isSo_636 (by decide) (fun c_55 => ?_) (fun c_55 => ?_)
                        · have he := he.1 c_55
                          refine lv_iconst (v := (0 : Int32)) hx hb0 dL_isSo_643 (by decide) ?_
                          exact gx_zret hx hb0 hr (by decide) hlocks hK hP hD hS he dL_isSo_644
                        · have he := he.2 c_55
                          refine lv_iconst (v := (1 : Int32)) hx hb0 dL_isSo_639 (by decide) ?_
                          refine lv_goto (tgt := 644) hx hb0 dL_isSo_640 (by decide) ?_
                          exact gx_zret hx hb0 hr (by decide) hlocks hK hP hD hS he dL_isSo_644
        · have he := he.2 c_18
          refine lv_aload hx hb0 dL_isSo_524 (lv_at hl 7 rfl) ?_
          refine lv_iconst (v := (4 : Int32)) hx hb0 dL_isSo_526 (by decide) ?_
          refine lv_iload hx hb0 dL_isSo_527 (lv_at hl 1 rfl) ?_
          refine lv_imul hx hb0 dL_isSo_529 ?_
          refine lv_iload hx hb0 dL_isSo_530 (lv_at hl 0 rfl) ?_
          refine lv_iadd hx hb0 dL_isSo_532 ?_
          obtain ⟨v_56, he⟩ := he
          refine gx_iald hx hb0 hK hP 161 0 (by decide) cE_t161 rfl v_56 dL_isSo_533 ?_
          refine lv_goto (tgt := 538) hx hb0 dL_isSo_534 (by decide) ?_
          refine lv_icmp_ne (tgt := 602) hx hb0 dL_isSo_538 (by decide) (fun c_57 => ?_) (fun c_57 => ?_)
          · have he := he.2 c_57
            refine lv_iconst (v := (0 : Int32)) hx hb0 dL_isSo_602 (by decide) ?_
            refine lv_istore (lv' := [(12, .int (0 : Int32)), (14, .int r_12), (13, .int r_10), (0, .ref (ad 0)), (1, .int y1), (2, .ref (ad 158)), (3, .ref (ad 159)), (4, .ref (ad 160)), (5, .ref (ad 161)), (6, .int y6), (7, .int y7), (8, .int y8), (9, .int y9), (10, .int y10), (11, .int y11)]) hx hb0 dL_isSo_603 hl (by decide) rfl (fun ls hl => ?_)
            refine lv_iload hx hb0 dL_isSo_605 (lv_at hl 0 rfl) ?_
            refine lv_if_eq (tgt := 643) hx hb0 dL_isSo_607 (by decide) (fun c_58 => ?_) (fun c_58 => ?_)
            · refine lv_iconst (v := (0 : Int32)) hx hb0 dL_isSo_643 (by decide) ?_
              exact gx_zret hx hb0 hr (by decide) hlocks hK hP hD hS he dL_isSo_644
            · exact absurd c_58 (by decide)
          · have he := he.1 c_57
            refine lv_aload_n hx hb0 dL_isSo_541 rfl (lv_at hl 2 rfl) ?_
            refine lv_iconst (v := (0 : Int32)) hx hb0 dL_isSo_542 (by decide) ?_
            refine gx_vi ⟨hx, hb0, hml, hown, hts⟩ (gKC_keep _ _) hk hK hP hD hS 0 [.int (0 : Int32)] [] (c_X7_nearest l dC dI P ad tb (0 : Int32) h_17 _ he) gm_X7_nearest im_yX7_nearest se_yX7_nearest ml_RL_113 (by decide) (cE_t0 _) rfl rfl rfl ⟨Nat.le_of_ble_eq_true rfl, Nat.le_of_ble_eq_true rfl⟩ rfl hl.1 rfl (Nat.le_of_ble_eq_true rfl) dL_isSo_543 ⟨Nat.zero_le _, Nat.zero_le _⟩ (fun r_59 h_60 he H locs hP hD hS => ?_)
            refine lv_iload hx hb0 dL_isSo_546 (lv_at hl 10 rfl) ?_
            refine lv_icmp_ne (tgt := 602) hx hb0 dL_isSo_548 (by decide) (fun c_61 => ?_) (fun c_61 => ?_)
            · have he := he.2 c_61
              refine lv_iconst (v := (0 : Int32)) hx hb0 dL_isSo_602 (by decide) ?_
              refine lv_istore (lv' := [(12, .int (0 : Int32)), (14, .int r_12), (13, .int r_10), (0, .ref (ad 0)), (1, .int y1), (2, .ref (ad 158)), (3, .ref (ad 159)), (4, .ref (ad 160)), (5, .ref (ad 161)), (6, .int y6), (7, .int y7), (8, .int y8), (9, .int y9), (10, .int y10), (11, .int y11)]) hx hb0 dL_isSo_603 hl (by decide) rfl (fun ls hl => ?_)
              refine lv_iload hx hb0 dL_isSo_605 (lv_at hl 0 rfl) ?_
              refine lv_if_eq (tgt := 643) hx hb0 dL_isSo_607 (by decide) (fun c_62 => ?_) (fun c_62 => ?_)
              · refine lv_iconst (v := (0 : Int32)) hx hb0 dL_isSo_643 (by decide) ?_
                exact gx_zret hx hb0 hr (by decide) hlocks hK hP hD hS he dL_isSo_644
              · exact absurd c_62 (by decide)
            · have he := he.1 c_61
              refine lv_aload_n hx hb0 dL_isSo_551 rfl (lv_at hl 2 rfl) ?_
              refine lv_iconst (v := (1 : Int32)) hx hb0 dL_isSo_552 (by decide) ?_
              refine gx_vi ⟨hx, hb0, hml, hown, hts⟩ (gKC_keep _ _) hk hK hP hD hS 0 [.int (1 : Int32)] [] (c_X7_nearest l dC dI P ad tb (1 : Int32) h_60 _ he) gm_X7_nearest im_yX7_nearest se_yX7_nearest ml_RL_113 (by decide) (cE_t0 _) rfl rfl rfl ⟨Nat.le_of_ble_eq_true rfl, Nat.le_of_ble_eq_true rfl⟩ rfl hl.1 rfl (Nat.le_of_ble_eq_true rfl) dL_isSo_553 ⟨Nat.zero_le _, Nat.zero_le _⟩ (fun r_63 h_64 he H locs hP hD hS => ?_)
              refine lv_iload hx hb0 dL_isSo_556 (lv_at hl 11 rfl) ?_
              refine lv_icmp_ne (tgt := 602) hx hb0 dL_isSo_558 (by decide) (fun c_65 => ?_) (fun c_65 => ?_)
              · have he := he.2 c_65
                refine lv_iconst (v := (0 : Int32)) hx hb0 dL_isSo_602 (by decide) ?_
                refine lv_istore (lv' := [(12, .int (0 : Int32)), (14, .int r_12), (13, .int r_10), (0, .ref (ad 0)), (1, .int y1), (2, .ref (ad 158)), (3, .ref (ad 159)), (4, .ref (ad 160)), (5, .ref (ad 161)), (6, .int y6), (7, .int y7), (8, .int y8), (9, .int y9), (10, .int y10), (11, .int y11)]) hx hb0 dL_isSo_603 hl (by decide) rfl (fun ls hl => ?_)
                refine lv_iload hx hb0 dL_isSo_605 (lv_at hl 0 rfl) ?_
                refine lv_if_eq (tgt := 643) hx hb0 dL_isSo_607 (by decide) (fun c_66 => ?_) (fun c_66 => ?_)
                · refine lv_iconst (v := (0 : Int32)) hx hb0 dL_isSo_643 (by decide) ?_
                  exact gx_zret hx hb0 hr (by decide) hlocks hK hP hD hS he dL_isSo_644
                · exact absurd c_66 (by decide)
              · have he := he.1 c_65
                refine lv_aload_n hx hb0 dL_isSo_561 rfl (lv_at hl 2 rfl) ?_
                refine gx_vi ⟨hx, hb0, hml, hown, hts⟩ (gKC_keep _ _) hk hK hP hD hS 0 [] [] (c_X7_bestStar l dC dI P ad tb  h_64 _ he) gm_X7_bestStar im_yX7_bestStar se_yX7_bestStar ml_RL_116 (by decide) (cE_t0 _) rfl rfl rfl ⟨Nat.le_of_ble_eq_true rfl, Nat.le_of_ble_eq_true rfl⟩ rfl hl.1 rfl (Nat.le_of_ble_eq_true rfl) dL_isSo_562 ⟨Nat.zero_le _, Nat.zero_le _⟩ (fun r_67 h_68 he H locs hP hD hS => ?_)
                refine lv_iload hx hb0 dL_isSo_565 (lv_at hl 12 rfl) ?_
                refine lv_icmp_ne (tgt := 602) hx hb0 dL_isSo_567 (by decide) (fun c_69 => ?_) (fun c_69 => ?_)
                · have he := he.2 c_69
                  refine lv_iconst (v := (0 : Int32)) hx hb0 dL_isSo_602 (by decide) ?_
                  refine lv_istore (lv' := [(12, .int (0 : Int32)), (14, .int r_12), (13, .int r_10), (0, .ref (ad 0)), (1, .int y1), (2, .ref (ad 158)), (3, .ref (ad 159)), (4, .ref (ad 160)), (5, .ref (ad 161)), (6, .int y6), (7, .int y7), (8, .int y8), (9, .int y9), (10, .int y10), (11, .int y11)]) hx hb0 dL_isSo_603 hl (by decide) rfl (fun ls hl => ?_)
                  refine lv_iload hx hb0 dL_isSo_605 (lv_at hl 0 rfl) ?_
                  refine lv_if_eq (tgt := 643) hx hb0 dL_isSo_607 (by decide) (fun c_70 => ?_) (fun c_70 => ?_)
                  · refine lv_iconst (v := (0 : Int32)) hx hb0 dL_isSo_643 (by decide) ?_
                    exact gx_zret hx hb0 hr (by decide) hlocks hK hP hD hS he dL_isSo_644
                  · exact absurd c_70 (by decide)
                · have he := he.1 c_69
                  refine lv_aload_n hx hb0 dL_isSo_570 rfl (lv_at hl 2 rfl) ?_
                  refine lv_bipush (v := (-6 : Int32)) hx hb0 dL_isSo_571 (by decide) ?_
                  refine gx_vi ⟨hx, hb0, hml, hown, hts⟩ (gKC_keep _ _) hk hK hP hD hS 0 [.int (-6 : Int32)] [] (c_X7_median l dC dI P ad tb (-6 : Int32) h_68 _ he) gm_X7_median im_yX7_median se_yX7_median ml_RL_94 (by decide) (cE_t0 _) rfl rfl rfl ⟨Nat.le_of_ble_eq_true rfl, Nat.le_of_ble_eq_true rfl⟩ rfl hl.1 rfl (Nat.le_of_ble_eq_true rfl) dL_isSo_573 ⟨Nat.zero_le _, Nat.zero_le _⟩ (fun r_71 h_72 he H locs hP hD hS => ?_)
                  refine lv_iload hx hb0 dL_isSo_576 (lv_at hl 13 rfl) ?_
                  refine lv_sipush (v := (9999 : Int32)) hx hb0 dL_isSo_578 (by decide) ?_
                  refine lv_icmp_ne (tgt := 589) hx hb0 dL_isSo_581 (by decide) (fun c_73 => ?_) (fun c_73 => ?_)
                  · have he := he.2 c_73
                    refine lv_iload hx hb0 dL_isSo_589 (lv_at hl 13 rfl) ?_
                    refine lv_sipush (v := (5400 : Int32)) hx hb0 dL_isSo_591 (by decide) ?_
                    refine lv_iadd hx hb0 dL_isSo_594 ?_
                    refine lv_icmp_ne (tgt := 602) hx hb0 dL_isSo_595 (by decide) (fun c_74 => ?_) (fun c_74 => ?_)
                    · have he := he.2 c_74
                      refine lv_iconst (v := (0 : Int32)) hx hb0 dL_isSo_602 (by decide) ?_
                      refine lv_istore (lv' := [(12, .int (0 : Int32)), (14, .int r_12), (13, .int r_10), (0, .ref (ad 0)), (1, .int y1), (2, .ref (ad 158)), (3, .ref (ad 159)), (4, .ref (ad 160)), (5, .ref (ad 161)), (6, .int y6), (7, .int y7), (8, .int y8), (9, .int y9), (10, .int y10), (11, .int y11)]) hx hb0 dL_isSo_603 hl (by decide) rfl (fun ls hl => ?_)
                      refine lv_iload hx hb0 dL_isSo_605 (lv_at hl 0 rfl) ?_
                      refine lv_if_eq (tgt := 643) hx hb0 dL_isSo_607 (by decide) (fun c_75 => ?_) (fun c_75 => ?_)
                      · refine lv_iconst (v := (0 : Int32)) hx hb0 dL_isSo_643 (by decide) ?_
                        exact gx_zret hx hb0 hr (by decide) hlocks hK hP hD hS he dL_isSo_644
                      · exact absurd c_75 (by decide)
                    · have he := he.1 c_74
                      refine lv_iconst (v := (1 : Int32)) hx hb0 dL_isSo_598 (by decide) ?_
                      refine lv_goto (tgt := 603) hx hb0 dL_isSo_599 (by decide) ?_
                      refine lv_istore (lv' := [(12, .int (1 : Int32)), (14, .int r_12), (13, .int r_10), (0, .ref (ad 0)), (1, .int y1), (2, .ref (ad 158)), (3, .ref (ad 159)), (4, .ref (ad 160)), (5, .ref (ad 161)), (6, .int y6), (7, .int y7), (8, .int y8), (9, .int y9), (10, .int y10), (11, .int y11)]) hx hb0 dL_isSo_603 hl (by decide) rfl (fun ls hl => ?_)
                      refine lv_iload hx hb0 dL_isSo_605 (lv_at hl 0 rfl) ?_
                      refine lv_if_eq (tgt := 643) hx hb0 dL_isSo_607 (by decide) (fun c_76 => ?_) (fun c_76 => ?_)
                      · exact absurd c_76 (by decide)
                      · refine lv_aload_n hx hb0 dL_isSo_610 rfl (lv_at hl 3 rfl) ?_
                        refine lv_iload_n hx hb0 dL_isSo_611 rfl (lv_at hl 4 rfl) ?_
                        refine lv_bipush (v := (6 : Int32)) hx hb0 dL_isSo_612 (by decide) ?_
                        refine lv_ishr hx hb0 dL_isSo_614 ?_
                        refine lv_bipush (v := (7 : Int32)) hx hb0 dL_isSo_615 (by decide) ?_
                        refine gx_si ⟨hx, hb0, hml, hown, hts⟩ (gKC_keep _ _) hk hK hP hD hS [.int (y1 >>> ((6 : Int32) &&& 31)), .int (7 : Int32)] [.ref (ad 0)] (c_L_low l dC dI P ad tb (y1 >>> ((6 : Int32) &&& 31)) (7 : Int32) h_72 _ he) gm_L_low st_yL_low ml_RL_107 rfl rfl ⟨Nat.le_of_ble_eq_true rfl, Nat.le_of_ble_eq_true rfl⟩ rfl hl.1 rfl (Nat.le_of_ble_eq_true rfl) dL_isSo_617 ⟨Nat.zero_le _, Nat.zero_le _⟩ (fun r_77 h_78 he H locs hP hD hS => ?_)
                        refine lv_iload_n hx hb0 dL_isSo_620 rfl (lv_at hl 4 rfl) ?_
                        refine lv_bipush (v := (9 : Int32)) hx hb0 dL_isSo_621 (by decide) ?_
                        refine lv_ishr hx hb0 dL_isSo_623 ?_
                        refine lv_bipush (v := (9 : Int32)) hx hb0 dL_isSo_624 (by decide) ?_
                        refine gx_si ⟨hx, hb0, hml, hown, hts⟩ (gKC_keep _ _) hk hK hP hD hS [.int (y1 >>> ((9 : Int32) &&& 31)), .int (9 : Int32)] [.int r_77, .ref (ad 0)] (c_L_low l dC dI P ad tb (y1 >>> ((9 : Int32) &&& 31)) (9 : Int32) h_78 _ he) gm_L_low st_yL_low ml_RL_107 rfl rfl ⟨Nat.le_of_ble_eq_true rfl, Nat.le_of_ble_eq_true rfl⟩ rfl hl.1 rfl (Nat.le_of_ble_eq_true rfl) dL_isSo_626 ⟨Nat.zero_le _, Nat.zero_le _⟩ (fun r_79 h_80 he H locs hP hD hS => ?_)
                        refine lv_aload_n hx hb0 dL_isSo_629 rfl (lv_at hl 5 rfl) ?_
                        refine lv_aload_n hx hb0 dL_isSo_630 rfl (lv_at hl 6 rfl) ?_
                        refine lv_aload hx hb0 dL_isSo_631 (lv_at hl 7 rfl) ?_
                        refine gx_si ⟨hx, hb0, hml, hown, hts⟩ (gKC_keep _ _) hk hK hP hD hS [.ref (ad 0), .int r_77, .int r_79, .ref (ad 158), .ref (ad 159), .ref (ad 160)] [] (c_L_isNavigator l dC dI P ad tb r_77 r_79 h_80 _ he) gm_L_isNavigator st_yL_isNavigator ml_RL_119 rfl rfl ⟨Nat.le_of_ble_eq_true rfl, Nat.le_of_ble_eq_true rfl⟩ rfl hl.1 rfl (Nat.le_of_ble_eq_true rfl) dL_isSo_633 ⟨Nat.zero_le _, Nat.zero_le _⟩ (fun r_81 h_82 he H locs hP hD hS => ?_)
                        refine lv_if_eq (tgt := 643) hx hb0 dL_isSo_636 (by decide) (fun c_83 => ?_) (fun c_83 => ?_)
                        · have he := he.1 c_83
                          refine lv_iconst (v := (0 : Int32)) hx hb0 dL_isSo_643 (by decide) ?_
                          exact gx_zret hx hb0 hr (by decide) hlocks hK hP hD hS he dL_isSo_644
                        · have he := he.2 c_83
                          refine lv_iconst (v := (1 : Int32)) hx hb0 dL_isSo_639 (by decide) ?_
                          refine lv_goto (tgt := 644) hx hb0 dL_isSo_640 (by decide) ?_
                          exact gx_zret hx hb0 hr (by decide) hlocks hK hP hD hS he dL_isSo_644
                  · have he := he.1 c_73
                    refine lv_bipush (v := (-5 : Int32)) hx hb0 dL_isSo_584 (by decide) ?_
                    refine lv_goto (tgt := 595) hx hb0 dL_isSo_586 (by decide) ?_
                    refine lv_icmp_ne (tgt := 602) hx hb0 dL_isSo_595 (by decide) (fun c_84 => ?_) (fun c_84 => ?_)
                    · have he := he.2 c_84
                      refine lv_iconst (v := (0 : Int32)) hx hb0 dL_isSo_602 (by decide) ?_
                      refine lv_istore (lv' := [(12, .int (0 : Int32)), (14, .int r_12), (13, .int r_10), (0, .ref (ad 0)), (1, .int y1), (2, .ref (ad 158)), (3, .ref (ad 159)), (4, .ref (ad 160)), (5, .ref (ad 161)), (6, .int y6), (7, .int y7), (8, .int y8), (9, .int y9), (10, .int y10), (11, .int y11)]) hx hb0 dL_isSo_603 hl (by decide) rfl (fun ls hl => ?_)
                      refine lv_iload hx hb0 dL_isSo_605 (lv_at hl 0 rfl) ?_
                      refine lv_if_eq (tgt := 643) hx hb0 dL_isSo_607 (by decide) (fun c_85 => ?_) (fun c_85 => ?_)
                      · refine lv_iconst (v := (0 : Int32)) hx hb0 dL_isSo_643 (by decide) ?_
                        exact gx_zret hx hb0 hr (by decide) hlocks hK hP hD hS he dL_isSo_644
                      · exact absurd c_85 (by decide)
                    · have he := he.1 c_84
                      refine lv_iconst (v := (1 : Int32)) hx hb0 dL_isSo_598 (by decide) ?_
                      refine lv_goto (tgt := 603) hx hb0 dL_isSo_599 (by decide) ?_
                      refine lv_istore (lv' := [(12, .int (1 : Int32)), (14, .int r_12), (13, .int r_10), (0, .ref (ad 0)), (1, .int y1), (2, .ref (ad 158)), (3, .ref (ad 159)), (4, .ref (ad 160)), (5, .ref (ad 161)), (6, .int y6), (7, .int y7), (8, .int y8), (9, .int y9), (10, .int y10), (11, .int y11)]) hx hb0 dL_isSo_603 hl (by decide) rfl (fun ls hl => ?_)
                      refine lv_iload hx hb0 dL_isSo_605 (lv_at hl 0 rfl) ?_
                      refine lv_if_eq (tgt := 643) hx hb0 dL_isSo_607 (by decide) (fun c_86 => ?_) (fun c_86 => ?_)
                      · exact absurd c_86 (by decide)
                      · refine lv_aload_n hx hb0 dL_isSo_610 rfl (lv_at hl 3 rfl) ?_
                        refine lv_iload_n hx hb0 dL_isSo_611 rfl (lv_at hl 4 rfl) ?_
                        refine lv_bipush (v := (6 : Int32)) hx hb0 dL_isSo_612 (by decide) ?_
                        refine lv_ishr hx hb0 dL_isSo_614 ?_
                        refine lv_bipush (v := (7 : Int32)) hx hb0 dL_isSo_615 (by decide) ?_
                        refine gx_si ⟨hx, hb0, hml, hown, hts⟩ (gKC_keep _ _) hk hK hP hD hS [.int (y1 >>> ((6 : Int32) &&& 31)), .int (7 : Int32)] [.ref (ad 0)] (c_L_low l dC dI P ad tb (y1 >>> ((6 : Int32) &&& 31)) (7 : Int32) h_72 _ he) gm_L_low st_yL_low ml_RL_107 rfl rfl ⟨Nat.le_of_ble_eq_true rfl, Nat.le_of_ble_eq_true rfl⟩ rfl hl.1 rfl (Nat.le_of_ble_eq_true rfl) dL_isSo_617 ⟨Nat.zero_le _, Nat.zero_le _⟩ (fun r_87 h_88 he H locs hP hD hS => ?_)
                        refine lv_iload_n hx hb0 dL_isSo_620 rfl (lv_at hl 4 rfl) ?_
                        refine lv_bipush (v := (9 : Int32)) hx hb0 dL_isSo_621 (by decide) ?_
                        refine lv_ishr hx hb0 dL_isSo_623 ?_
                        refine lv_bipush (v := (9 : Int32)) hx hb0 dL_isSo_624 (by decide) ?_
                        refine gx_si ⟨hx, hb0, hml, hown, hts⟩ (gKC_keep _ _) hk hK hP hD hS [.int (y1 >>> ((9 : Int32) &&& 31)), .int (9 : Int32)] [.int r_87, .ref (ad 0)] (c_L_low l dC dI P ad tb (y1 >>> ((9 : Int32) &&& 31)) (9 : Int32) h_88 _ he) gm_L_low st_yL_low ml_RL_107 rfl rfl ⟨Nat.le_of_ble_eq_true rfl, Nat.le_of_ble_eq_true rfl⟩ rfl hl.1 rfl (Nat.le_of_ble_eq_true rfl) dL_isSo_626 ⟨Nat.zero_le _, Nat.zero_le _⟩ (fun r_89 h_90 he H locs hP hD hS => ?_)
                        refine lv_aload_n hx hb0 dL_isSo_629 rfl (lv_at hl 5 rfl) ?_
                        refine lv_aload_n hx hb0 dL_isSo_630 rfl (lv_at hl 6 rfl) ?_
                        refine lv_aload hx hb0 dL_isSo_631 (lv_at hl 7 rfl) ?_
                        refine gx_si ⟨hx, hb0, hml, hown, hts⟩ (gKC_keep _ _) hk hK hP hD hS [.ref (ad 0), .int r_87, .int r_89, .ref (ad 158), .ref (ad 159), .ref (ad 160)] [] (c_L_isNavigator l dC dI P ad tb r_87 r_89 h_90 _ he) gm_L_isNavigator st_yL_isNavigator ml_RL_119 rfl rfl ⟨Nat.le_of_ble_eq_true rfl, Nat.le_of_ble_eq_true rfl⟩ rfl hl.1 rfl (Nat.le_of_ble_eq_true rfl) dL_isSo_633 ⟨Nat.zero_le _, Nat.zero_le _⟩ (fun r_91 h_92 he H locs hP hD hS => ?_)
                        refine lv_if_eq (tgt := 643) hx hb0 dL_isSo_636 (by decide) (fun c_93 => ?_) (fun c_93 => ?_)
                        · have he := he.1 c_93
                          refine lv_iconst (v := (0 : Int32)) hx hb0 dL_isSo_643 (by decide) ?_
                          exact gx_zret hx hb0 hr (by decide) hlocks hK hP hD hS he dL_isSo_644
                        · have he := he.2 c_93
                          refine lv_iconst (v := (1 : Int32)) hx hb0 dL_isSo_639 (by decide) ?_
                          refine lv_goto (tgt := 644) hx hb0 dL_isSo_640 (by decide) ?_
                          exact gx_zret hx hb0 hr (by decide) hlocks hK hP hD hS he dL_isSo_644
    · have he := he.2 c_9
      refine lv_iload hx hb0 dL_isSo_449 (lv_at hl 12 rfl) ?_
      refine lv_if_eq (tgt := 476) hx hb0 dL_isSo_451 (by decide) (fun c_94 => ?_) (fun c_94 => ?_)
      · have he := he.1 c_94
        refine lv_iconst (v := (0 : Int32)) hx hb0 dL_isSo_476 (by decide) ?_
        refine lv_istore (lv' := [(12, .int (0 : Int32)), (0, .ref (ad 0)), (1, .int y1), (2, .ref (ad 158)), (3, .ref (ad 159)), (4, .ref (ad 160)), (5, .ref (ad 161)), (6, .int y6), (7, .int y7), (8, .int y8), (9, .int y9), (10, .int y10), (11, .int y11), (13, .int y13)]) hx hb0 dL_isSo_477 hl (by decide) rfl (fun ls hl => ?_)
        obtain ⟨x_95, ex_95⟩ : ∃ y : Int32, y = y13 + 1 := ⟨_, rfl⟩
        have he := he x_95 ex_95
        refine lv_iinc (v := x_95) (lv' := [(13, .int x_95), (12, .int (0 : Int32)), (0, .ref (ad 0)), (1, .int y1), (2, .ref (ad 158)), (3, .ref (ad 159)), (4, .ref (ad 160)), (5, .ref (ad 161)), (6, .int y6), (7, .int y7), (8, .int y8), (9, .int y9), (10, .int y10), (11, .int y11)]) hx hb0 dL_isSo_479 hl (k := 13) rfl (by rw [ex_95]; rfl) (by decide) rfl (fun ls hl => ?_)
        refine lv_goto (tgt := 443) hx hb0 dL_isSo_482 (by decide) ?_
        exact ih y1 y6 y7 y8 y9 y10 y11 (0 : Int32) x_95 h0 he _ _ ls hP hD hS (lv_sub hl [2, 3, 4, 5, 6, 7, 8, 9, 10, 11, 12, 13, 1, 0] rfl)
      · have he := he.2 c_94
        refine lv_aload_n hx hb0 dL_isSo_454 rfl (lv_at hl 0 rfl) ?_
        refine lv_iconst (v := (3 : Int32)) hx hb0 dL_isSo_455 (by decide) ?_
        refine lv_iload hx hb0 dL_isSo_456 (lv_at hl 13 rfl) ?_
        refine lv_iadd hx hb0 dL_isSo_458 ?_
        refine gx_vi ⟨hx, hb0, hml, hown, hts⟩ (gKC_keep _ _) hk hK hP hD hS 0 [.int ((3 : Int32) + y13)] [] (c_X7_count l dC dI P ad tb ((3 : Int32) + y13) h0 _ he) gm_X7_count im_yX7_count se_yX7_count ml_RL_104 (by decide) (cE_t0 _) rfl rfl rfl ⟨Nat.le_of_ble_eq_true rfl, Nat.le_of_ble_eq_true rfl⟩ rfl hl.1 rfl (Nat.le_of_ble_eq_true rfl) dL_isSo_459 ⟨Nat.zero_le _, Nat.zero_le _⟩ (fun r_96 h_97 he H locs hP hD hS => ?_)
        refine lv_aload_n hx hb0 dL_isSo_462 rfl (lv_at hl 2 rfl) ?_
        refine lv_bipush (v := (7 : Int32)) hx hb0 dL_isSo_463 (by decide) ?_
        refine lv_iload hx hb0 dL_isSo_465 (lv_at hl 13 rfl) ?_
        refine lv_iadd hx hb0 dL_isSo_467 ?_
        obtain ⟨v_98, he⟩ := he
        refine gx_iald hx hb0 hK hP 158 0 (by decide) cE_t158 rfl v_98 dL_isSo_468 ?_
        refine lv_icmp_ne (tgt := 476) hx hb0 dL_isSo_469 (by decide) (fun c_99 => ?_) (fun c_99 => ?_)
        · have he := he.2 c_99
          refine lv_iconst (v := (0 : Int32)) hx hb0 dL_isSo_476 (by decide) ?_
          refine lv_istore (lv' := [(12, .int (0 : Int32)), (0, .ref (ad 0)), (1, .int y1), (2, .ref (ad 158)), (3, .ref (ad 159)), (4, .ref (ad 160)), (5, .ref (ad 161)), (6, .int y6), (7, .int y7), (8, .int y8), (9, .int y9), (10, .int y10), (11, .int y11), (13, .int y13)]) hx hb0 dL_isSo_477 hl (by decide) rfl (fun ls hl => ?_)
          obtain ⟨x_100, ex_100⟩ : ∃ y : Int32, y = y13 + 1 := ⟨_, rfl⟩
          have he := he x_100 ex_100
          refine lv_iinc (v := x_100) (lv' := [(13, .int x_100), (12, .int (0 : Int32)), (0, .ref (ad 0)), (1, .int y1), (2, .ref (ad 158)), (3, .ref (ad 159)), (4, .ref (ad 160)), (5, .ref (ad 161)), (6, .int y6), (7, .int y7), (8, .int y8), (9, .int y9), (10, .int y10), (11, .int y11)]) hx hb0 dL_isSo_479 hl (k := 13) rfl (by rw [ex_100]; rfl) (by decide) rfl (fun ls hl => ?_)
          refine lv_goto (tgt := 443) hx hb0 dL_isSo_482 (by decide) ?_
          exact ih y1 y6 y7 y8 y9 y10 y11 (0 : Int32) x_100 h_97 he _ _ ls hP hD hS (lv_sub hl [2, 3, 4, 5, 6, 7, 8, 9, 10, 11, 12, 13, 1, 0] rfl)
        · have he := he.1 c_99
          refine lv_iconst (v := (1 : Int32)) hx hb0 dL_isSo_472 (by decide) ?_
          refine lv_goto (tgt := 477) hx hb0 dL_isSo_473 (by decide) ?_
          refine lv_istore (lv' := [(12, .int (1 : Int32)), (0, .ref (ad 0)), (1, .int y1), (2, .ref (ad 158)), (3, .ref (ad 159)), (4, .ref (ad 160)), (5, .ref (ad 161)), (6, .int y6), (7, .int y7), (8, .int y8), (9, .int y9), (10, .int y10), (11, .int y11), (13, .int y13)]) hx hb0 dL_isSo_477 hl (by decide) rfl (fun ls hl => ?_)
          obtain ⟨x_101, ex_101⟩ : ∃ y : Int32, y = y13 + 1 := ⟨_, rfl⟩
          have he := he x_101 ex_101
          refine lv_iinc (v := x_101) (lv' := [(13, .int x_101), (12, .int (1 : Int32)), (0, .ref (ad 0)), (1, .int y1), (2, .ref (ad 158)), (3, .ref (ad 159)), (4, .ref (ad 160)), (5, .ref (ad 161)), (6, .int y6), (7, .int y7), (8, .int y8), (9, .int y9), (10, .int y10), (11, .int y11)]) hx hb0 dL_isSo_479 hl (k := 13) rfl (by rw [ex_101]; rfl) (by decide) rfl (fun ls hl => ?_)
          refine lv_goto (tgt := 443) hx hb0 dL_isSo_482 (by decide) ?_
          exact ih y1 y6 y7 y8 y9 y10 y11 (1 : Int32) x_101 h_97 he _ _ ls hP hD hS (lv_sub hl [2, 3, 4, 5, 6, 7, 8, 9, 10, 11, 12, 13, 1, 0] rfl)
set_option maxHeartbeats 4000000 in
set_option maxRecDepth 100000 in
theorem l_L_isSo_182 (l : Launch) (dC : Nat → ClassId) (dI : Nat → Nat → Nat) (P : gP) (ad : Nat → Nat) (tb : Nat → Nat) {p : Program} {e : Env} {s : State} {m : MethodId} {args : Array Value} {below : List Frame} {meth : Method} {c : Code} (hx : p.tables.exec = Jvm.exec) (hb0 : c.code = cL_isSo) (hr : meth.sig.returnType = (some .boolean)) (hlocks : meth.locks = false) (hml : c.maxLocals = 15) (hown : s.vm.findClass RL = some m.cls) (hts : ∀ w ∈ TB, w.before args s = true) (hK : va_K (dC, dI) vwCl (tyC P) s) (hk : (gKC tb (gA 162 ad)) s) (Q : Int32 → Hp → Prop) : ∀ (n : Nat) (y1 : Int32) (y6 : Int32) (y7 : Int32) (y8 : Int32) (y9 : Int32) (y10 : Int32) (y11 : Int32) (h0 : Hp), F_L_isSo_L182  n y1 y6 y7 y8 y9 y10 y11 h0 Q → ∀ (H : Heap) (locs : List Loc) (ls : Array Slot), va_P (dC, dI) vwCl (gW 162 (cE P ad) ad h0) H → va_D (gA 162 ad) (gW 162 (cE P ad) ad h0) → va_S (gA 162 ad) s.heap H locs → lv_has ls 15 [(0, .ref (ad 0)), (1, .int y1), (2, .ref (ad 158)), (3, .ref (ad 159)), (4, .ref (ad 160)), (5, .ref (ad 161)), (6, .int y6), (7, .int y7), (8, .int y8), (9, .int y9), (10, .int y10), (11, .int y11)] → W p l e rm_L_isSo s m args below meth c H locs 0 0 (MQ below (gQi (dC, dI) vwCl (tyC P) 162 (cE P ad) ad Q) args s 0 0 (gA 162 ad)) (F0 m 182 ls []) := by
  intro n
  induction n with
  | zero =>
    intro y1 y6 y7 y8 y9 y10 y11 h0 he
    exact he.elim
  | succ n ih =>
    intro y1 y6 y7 y8 y9 y10 y11 h0 he H locs ls hP hD hS hl
    rw [F_L_isSo_L182] at he
    refine lv_iload hx hb0 dL_isSo_182 (lv_at hl 11 rfl) ?_
    refine lv_if_lt (tgt := 259) hx hb0 dL_isSo_184 (by decide) (fun c_3 => ?_) (fun c_3 => ?_)
    · have he := he.1 c_3
      refine lv_iconst (v := (-1 : Int32)) hx hb0 dL_isSo_259 (by decide) ?_
      refine lv_aload hx hb0 dL_isSo_260 (lv_at hl 4 rfl) ?_
      refine gx_si ⟨hx, hb0, hml, hown, hts⟩ (gKC_keep _ _) hk hK hP hD hS [.int (-1 : Int32), .ref (ad 160)] [] (c_L_median l dC dI P ad tb (-1 : Int32) h0 _ he) gm_L_median st_yL_median ml_RL_34 rfl rfl ⟨Nat.le_of_ble_eq_true rfl, Nat.le_of_ble_eq_true rfl⟩ rfl hl.1 rfl (Nat.le_of_ble_eq_true rfl) dL_isSo_262 ⟨Nat.zero_le _, Nat.zero_le _⟩ (fun r_4 h_5 he H locs hP hD hS => ?_)
      refine lv_istore (lv' := [(11, .int r_4), (0, .ref (ad 0)), (1, .int y1), (2, .ref (ad 158)), (3, .ref (ad 159)), (4, .ref (ad 160)), (5, .ref (ad 161)), (6, .int y6), (7, .int y7), (8, .int y8), (9, .int y9), (10, .int y10)]) hx hb0 dL_isSo_265 hl (by decide) rfl (fun ls hl => ?_)
      refine lv_aload_n hx hb0 dL_isSo_267 rfl (lv_at hl 1 rfl) ?_
      refine lv_iconst (v := (0 : Int32)) hx hb0 dL_isSo_268 (by decide) ?_
      refine gx_vi ⟨hx, hb0, hml, hown, hts⟩ (gKC_keep _ _) hk hK hP hD hS 0 [.int (0 : Int32)] [] (c_X7_count l dC dI P ad tb (0 : Int32) h_5 _ he) gm_X7_count im_yX7_count se_yX7_count ml_RL_104 (by decide) (cE_t0 _) rfl rfl rfl ⟨Nat.le_of_ble_eq_true rfl, Nat.le_of_ble_eq_true rfl⟩ rfl hl.1 rfl (Nat.le_of_ble_eq_true rfl) dL_isSo_269 ⟨Nat.zero_le _, Nat.zero_le _⟩ (fun r_6 h_7 he H locs hP hD hS => ?_)
      refine lv_aload_n hx hb0 dL_isSo_272 rfl (lv_at hl 3 rfl) ?_
      refine lv_iconst (v := (4 : Int32)) hx hb0 dL_isSo_273 (by decide) ?_
      refine gx_ialdK hx hb0 hK hP 158 0 (by decide) cE_t158 rfl (vp_lit (4 : Int32) (by decide) (by decide)) 4 rfl dL_isSo_274 ?_
      refine lv_sipush (v := (5400 : Int32)) hx hb0 dL_isSo_275 (by decide) ?_
      refine lv_iadd hx hb0 dL_isSo_278 ?_
      refine lv_icmp_ne (tgt := 437) hx hb0 dL_isSo_279 (by decide) (fun c_8 => ?_) (fun c_8 => ?_)
      · have he := he.2 c_8
        refine lv_iconst (v := (0 : Int32)) hx hb0 dL_isSo_437 (by decide) ?_
        refine lv_istore (lv' := [(12, .int (0 : Int32)), (11, .int r_4), (0, .ref (ad 0)), (1, .int y1), (2, .ref (ad 158)), (3, .ref (ad 159)), (4, .ref (ad 160)), (5, .ref (ad 161)), (6, .int y6), (7, .int y7), (8, .int y8), (9, .int y9), (10, .int y10)]) hx hb0 dL_isSo_438 hl (by decide) rfl (fun ls hl => ?_)
        refine lv_iconst (v := (0 : Int32)) hx hb0 dL_isSo_440 (by decide) ?_
        refine lv_istore (lv' := [(13, .int (0 : Int32)), (12, .int (0 : Int32)), (11, .int r_4), (0, .ref (ad 0)), (1, .int y1), (2, .ref (ad 158)), (3, .ref (ad 159)), (4, .ref (ad 160)), (5, .ref (ad 161)), (6, .int y6), (7, .int y7), (8, .int y8), (9, .int y9), (10, .int y10)]) hx hb0 dL_isSo_441 hl (by decide) rfl (fun ls hl => ?_)
        obtain ⟨n_102, he⟩ := he
        exact l_L_isSo_443 l dC dI P ad tb  hx hb0 hr hlocks hml hown hts hK hk Q n_102 y1 y6 y7 y8 y9 y10 r_4 (0 : Int32) (0 : Int32) h_7 he _ _ ls hP hD hS (lv_sub hl [3, 4, 5, 6, 7, 8, 9, 10, 11, 12, 13, 2, 1, 0] rfl)
      · have he := he.1 c_8
        refine lv_aload_n hx hb0 dL_isSo_282 rfl (lv_at hl 1 rfl) ?_
        refine lv_iconst (v := (1 : Int32)) hx hb0 dL_isSo_283 (by decide) ?_
        refine gx_vi ⟨hx, hb0, hml, hown, hts⟩ (gKC_keep _ _) hk hK hP hD hS 0 [.int (1 : Int32)] [] (c_X7_count l dC dI P ad tb (1 : Int32) h_7 _ he) gm_X7_count im_yX7_count se_yX7_count ml_RL_104 (by decide) (cE_t0 _) rfl rfl rfl ⟨Nat.le_of_ble_eq_true rfl, Nat.le_of_ble_eq_true rfl⟩ rfl hl.1 rfl (Nat.le_of_ble_eq_true rfl) dL_isSo_284 ⟨Nat.zero_le _, Nat.zero_le _⟩ (fun r_103 h_104 he H locs hP hD hS => ?_)
        refine lv_aload_n hx hb0 dL_isSo_287 rfl (lv_at hl 3 rfl) ?_
        refine lv_iconst (v := (5 : Int32)) hx hb0 dL_isSo_288 (by decide) ?_
        refine gx_ialdK hx hb0 hK hP 158 0 (by decide) cE_t158 rfl (vp_lit (5 : Int32) (by decide) (by decide)) 5 rfl dL_isSo_289 ?_
        refine lv_sipush (v := (9999 : Int32)) hx hb0 dL_isSo_290 (by decide) ?_
        refine lv_icmp_ne (tgt := 301) hx hb0 dL_isSo_293 (by decide) (fun c_105 => ?_) (fun c_105 => ?_)
        · have he := he.2 c_105
          refine lv_aload_n hx hb0 dL_isSo_301 rfl (lv_at hl 3 rfl) ?_
          refine lv_iconst (v := (5 : Int32)) hx hb0 dL_isSo_302 (by decide) ?_
          refine gx_ialdK hx hb0 hK hP 158 0 (by decide) cE_t158 rfl (vp_lit (5 : Int32) (by decide) (by decide)) 5 rfl dL_isSo_303 ?_
          refine lv_sipush (v := (5400 : Int32)) hx hb0 dL_isSo_304 (by decide) ?_
          refine lv_iadd hx hb0 dL_isSo_307 ?_
          refine lv_icmp_ne (tgt := 437) hx hb0 dL_isSo_308 (by decide) (fun c_106 => ?_) (fun c_106 => ?_)
          · have he := he.2 c_106
            refine lv_iconst (v := (0 : Int32)) hx hb0 dL_isSo_437 (by decide) ?_
            refine lv_istore (lv' := [(12, .int (0 : Int32)), (11, .int r_4), (0, .ref (ad 0)), (1, .int y1), (2, .ref (ad 158)), (3, .ref (ad 159)), (4, .ref (ad 160)), (5, .ref (ad 161)), (6, .int y6), (7, .int y7), (8, .int y8), (9, .int y9), (10, .int y10)]) hx hb0 dL_isSo_438 hl (by decide) rfl (fun ls hl => ?_)
            refine lv_iconst (v := (0 : Int32)) hx hb0 dL_isSo_440 (by decide) ?_
            refine lv_istore (lv' := [(13, .int (0 : Int32)), (12, .int (0 : Int32)), (11, .int r_4), (0, .ref (ad 0)), (1, .int y1), (2, .ref (ad 158)), (3, .ref (ad 159)), (4, .ref (ad 160)), (5, .ref (ad 161)), (6, .int y6), (7, .int y7), (8, .int y8), (9, .int y9), (10, .int y10)]) hx hb0 dL_isSo_441 hl (by decide) rfl (fun ls hl => ?_)
            obtain ⟨n_107, he⟩ := he
            exact l_L_isSo_443 l dC dI P ad tb  hx hb0 hr hlocks hml hown hts hK hk Q n_107 y1 y6 y7 y8 y9 y10 r_4 (0 : Int32) (0 : Int32) h_104 he _ _ ls hP hD hS (lv_sub hl [3, 4, 5, 6, 7, 8, 9, 10, 11, 12, 13, 2, 1, 0] rfl)
          · have he := he.1 c_106
            refine lv_aload_n hx hb0 dL_isSo_311 rfl (lv_at hl 1 rfl) ?_
            refine lv_iconst (v := (2 : Int32)) hx hb0 dL_isSo_312 (by decide) ?_
            refine gx_vi ⟨hx, hb0, hml, hown, hts⟩ (gKC_keep _ _) hk hK hP hD hS 0 [.int (2 : Int32)] [] (c_X7_count l dC dI P ad tb (2 : Int32) h_104 _ he) gm_X7_count im_yX7_count se_yX7_count ml_RL_104 (by decide) (cE_t0 _) rfl rfl rfl ⟨Nat.le_of_ble_eq_true rfl, Nat.le_of_ble_eq_true rfl⟩ rfl hl.1 rfl (Nat.le_of_ble_eq_true rfl) dL_isSo_313 ⟨Nat.zero_le _, Nat.zero_le _⟩ (fun r_108 h_109 he H locs hP hD hS => ?_)
            refine lv_aload_n hx hb0 dL_isSo_316 rfl (lv_at hl 3 rfl) ?_
            refine lv_bipush (v := (6 : Int32)) hx hb0 dL_isSo_317 (by decide) ?_
            refine gx_ialdK hx hb0 hK hP 158 0 (by decide) cE_t158 rfl (vp_lit (6 : Int32) (by decide) (by decide)) 6 rfl dL_isSo_319 ?_
            refine lv_sipush (v := (5400 : Int32)) hx hb0 dL_isSo_320 (by decide) ?_
            refine lv_iadd hx hb0 dL_isSo_323 ?_
            refine lv_icmp_ne (tgt := 437) hx hb0 dL_isSo_324 (by decide) (fun c_110 => ?_) (fun c_110 => ?_)
            · have he := he.2 c_110
              refine lv_iconst (v := (0 : Int32)) hx hb0 dL_isSo_437 (by decide) ?_
              refine lv_istore (lv' := [(12, .int (0 : Int32)), (11, .int r_4), (0, .ref (ad 0)), (1, .int y1), (2, .ref (ad 158)), (3, .ref (ad 159)), (4, .ref (ad 160)), (5, .ref (ad 161)), (6, .int y6), (7, .int y7), (8, .int y8), (9, .int y9), (10, .int y10)]) hx hb0 dL_isSo_438 hl (by decide) rfl (fun ls hl => ?_)
              refine lv_iconst (v := (0 : Int32)) hx hb0 dL_isSo_440 (by decide) ?_
              refine lv_istore (lv' := [(13, .int (0 : Int32)), (12, .int (0 : Int32)), (11, .int r_4), (0, .ref (ad 0)), (1, .int y1), (2, .ref (ad 158)), (3, .ref (ad 159)), (4, .ref (ad 160)), (5, .ref (ad 161)), (6, .int y6), (7, .int y7), (8, .int y8), (9, .int y9), (10, .int y10)]) hx hb0 dL_isSo_441 hl (by decide) rfl (fun ls hl => ?_)
              obtain ⟨n_111, he⟩ := he
              exact l_L_isSo_443 l dC dI P ad tb  hx hb0 hr hlocks hml hown hts hK hk Q n_111 y1 y6 y7 y8 y9 y10 r_4 (0 : Int32) (0 : Int32) h_109 he _ _ ls hP hD hS (lv_sub hl [3, 4, 5, 6, 7, 8, 9, 10, 11, 12, 13, 2, 1, 0] rfl)
            · have he := he.1 c_110
              refine lv_aload_n hx hb0 dL_isSo_327 rfl (lv_at hl 1 rfl) ?_
              refine lv_bipush (v := (8 : Int32)) hx hb0 dL_isSo_328 (by decide) ?_
              refine gx_vi ⟨hx, hb0, hml, hown, hts⟩ (gKC_keep _ _) hk hK hP hD hS 0 [.int (8 : Int32)] [] (c_X7_count l dC dI P ad tb (8 : Int32) h_109 _ he) gm_X7_count im_yX7_count se_yX7_count ml_RL_104 (by decide) (cE_t0 _) rfl rfl rfl ⟨Nat.le_of_ble_eq_true rfl, Nat.le_of_ble_eq_true rfl⟩ rfl hl.1 rfl (Nat.le_of_ble_eq_true rfl) dL_isSo_330 ⟨Nat.zero_le _, Nat.zero_le _⟩ (fun r_112 h_113 he H locs hP hD hS => ?_)
              refine lv_iload hx hb0 dL_isSo_333 (lv_at hl 7 rfl) ?_
              refine lv_icmp_ne (tgt := 437) hx hb0 dL_isSo_335 (by decide) (fun c_114 => ?_) (fun c_114 => ?_)
              · have he := he.2 c_114
                refine lv_iconst (v := (0 : Int32)) hx hb0 dL_isSo_437 (by decide) ?_
                refine lv_istore (lv' := [(12, .int (0 : Int32)), (11, .int r_4), (0, .ref (ad 0)), (1, .int y1), (2, .ref (ad 158)), (3, .ref (ad 159)), (4, .ref (ad 160)), (5, .ref (ad 161)), (6, .int y6), (7, .int y7), (8, .int y8), (9, .int y9), (10, .int y10)]) hx hb0 dL_isSo_438 hl (by decide) rfl (fun ls hl => ?_)
                refine lv_iconst (v := (0 : Int32)) hx hb0 dL_isSo_440 (by decide) ?_
                refine lv_istore (lv' := [(13, .int (0 : Int32)), (12, .int (0 : Int32)), (11, .int r_4), (0, .ref (ad 0)), (1, .int y1), (2, .ref (ad 158)), (3, .ref (ad 159)), (4, .ref (ad 160)), (5, .ref (ad 161)), (6, .int y6), (7, .int y7), (8, .int y8), (9, .int y9), (10, .int y10)]) hx hb0 dL_isSo_441 hl (by decide) rfl (fun ls hl => ?_)
                obtain ⟨n_115, he⟩ := he
                exact l_L_isSo_443 l dC dI P ad tb  hx hb0 hr hlocks hml hown hts hK hk Q n_115 y1 y6 y7 y8 y9 y10 r_4 (0 : Int32) (0 : Int32) h_113 he _ _ ls hP hD hS (lv_sub hl [3, 4, 5, 6, 7, 8, 9, 10, 11, 12, 13, 2, 1, 0] rfl)
              · have he := he.1 c_114
                refine lv_aload_n hx hb0 dL_isSo_338 rfl (lv_at hl 1 rfl) ?_
                refine lv_bipush (v := (9 : Int32)) hx hb0 dL_isSo_339 (by decide) ?_
                refine gx_vi ⟨hx, hb0, hml, hown, hts⟩ (gKC_keep _ _) hk hK hP hD hS 0 [.int (9 : Int32)] [] (c_X7_count l dC dI P ad tb (9 : Int32) h_113 _ he) gm_X7_count im_yX7_count se_yX7_count ml_RL_104 (by decide) (cE_t0 _) rfl rfl rfl ⟨Nat.le_of_ble_eq_true rfl, Nat.le_of_ble_eq_true rfl⟩ rfl hl.1 rfl (Nat.le_of_ble_eq_true rfl) dL_isSo_341 ⟨Nat.zero_le _, Nat.zero_le _⟩ (fun r_116 h_117 he H locs hP hD hS => ?_)
                refine lv_iload hx hb0 dL_isSo_344 (lv_at hl 8 rfl) ?_
                refine lv_icmp_ne (tgt := 437) hx hb0 dL_isSo_346 (by decide) (fun c_118 => ?_) (fun c_118 => ?_)
                · have he := he.2 c_118
                  refine lv_iconst (v := (0 : Int32)) hx hb0 dL_isSo_437 (by decide) ?_
                  refine lv_istore (lv' := [(12, .int (0 : Int32)), (11, .int r_4), (0, .ref (ad 0)), (1, .int y1), (2, .ref (ad 158)), (3, .ref (ad 159)), (4, .ref (ad 160)), (5, .ref (ad 161)), (6, .int y6), (7, .int y7), (8, .int y8), (9, .int y9), (10, .int y10)]) hx hb0 dL_isSo_438 hl (by decide) rfl (fun ls hl => ?_)
                  refine lv_iconst (v := (0 : Int32)) hx hb0 dL_isSo_440 (by decide) ?_
                  refine lv_istore (lv' := [(13, .int (0 : Int32)), (12, .int (0 : Int32)), (11, .int r_4), (0, .ref (ad 0)), (1, .int y1), (2, .ref (ad 158)), (3, .ref (ad 159)), (4, .ref (ad 160)), (5, .ref (ad 161)), (6, .int y6), (7, .int y7), (8, .int y8), (9, .int y9), (10, .int y10)]) hx hb0 dL_isSo_441 hl (by decide) rfl (fun ls hl => ?_)
                  obtain ⟨n_119, he⟩ := he
                  exact l_L_isSo_443 l dC dI P ad tb  hx hb0 hr hlocks hml hown hts hK hk Q n_119 y1 y6 y7 y8 y9 y10 r_4 (0 : Int32) (0 : Int32) h_117 he _ _ ls hP hD hS (lv_sub hl [3, 4, 5, 6, 7, 8, 9, 10, 11, 12, 13, 2, 1, 0] rfl)
                · have he := he.1 c_118
                  refine lv_aload_n hx hb0 dL_isSo_349 rfl (lv_at hl 1 rfl) ?_
                  refine lv_bipush (v := (10 : Int32)) hx hb0 dL_isSo_350 (by decide) ?_
                  refine gx_vi ⟨hx, hb0, hml, hown, hts⟩ (gKC_keep _ _) hk hK hP hD hS 0 [.int (10 : Int32)] [] (c_X7_count l dC dI P ad tb (10 : Int32) h_117 _ he) gm_X7_count im_yX7_count se_yX7_count ml_RL_104 (by decide) (cE_t0 _) rfl rfl rfl ⟨Nat.le_of_ble_eq_true rfl, Nat.le_of_ble_eq_true rfl⟩ rfl hl.1 rfl (Nat.le_of_ble_eq_true rfl) dL_isSo_352 ⟨Nat.zero_le _, Nat.zero_le _⟩ (fun r_120 h_121 he H locs hP hD hS => ?_)
                  refine lv_aload_n hx hb0 dL_isSo_355 rfl (lv_at hl 3 rfl) ?_
                  refine lv_iconst (v := (5 : Int32)) hx hb0 dL_isSo_356 (by decide) ?_
                  refine gx_ialdK hx hb0 hK hP 158 0 (by decide) cE_t158 rfl (vp_lit (5 : Int32) (by decide) (by decide)) 5 rfl dL_isSo_357 ?_
                  refine lv_sipush (v := (9999 : Int32)) hx hb0 dL_isSo_358 (by decide) ?_
                  refine lv_icmp_ne (tgt := 369) hx hb0 dL_isSo_361 (by decide) (fun c_122 => ?_) (fun c_122 => ?_)
                  · have he := he.2 c_122
                    refine lv_aload_n hx hb0 dL_isSo_369 rfl (lv_at hl 3 rfl) ?_
                    refine lv_iconst (v := (5 : Int32)) hx hb0 dL_isSo_370 (by decide) ?_
                    refine gx_ialdK hx hb0 hK hP 158 0 (by decide) cE_t158 rfl (vp_lit (5 : Int32) (by decide) (by decide)) 5 rfl dL_isSo_371 ?_
                    refine lv_aload_n hx hb0 dL_isSo_372 rfl (lv_at hl 3 rfl) ?_
                    refine lv_iconst (v := (4 : Int32)) hx hb0 dL_isSo_373 (by decide) ?_
                    refine gx_ialdK hx hb0 hK hP 158 0 (by decide) cE_t158 rfl (vp_lit (4 : Int32) (by decide) (by decide)) 4 rfl dL_isSo_374 ?_
                    refine lv_isub hx hb0 dL_isSo_375 ?_
                    refine gx_si ⟨hx, hb0, hml, hown, hts⟩ (gKC_keep _ _) hk hK hP hD hS [.int ((h_121 158 5) - (h_121 158 4))] [.int r_120] (c_L_size l dC dI P ad tb ((h_121 158 5) - (h_121 158 4)) h_121 _ he) gm_L_size st_yL_size ml_RL_16 rfl rfl ⟨Nat.le_of_ble_eq_true rfl, Nat.le_of_ble_eq_true rfl⟩ rfl hl.1 rfl (Nat.le_of_ble_eq_true rfl) dL_isSo_376 ⟨Nat.zero_le _, Nat.zero_le _⟩ (fun r_123 h_124 he H locs hP hD hS => ?_)
                    refine lv_icmp_ne (tgt := 437) hx hb0 dL_isSo_379 (by decide) (fun c_125 => ?_) (fun c_125 => ?_)
                    · have he := he.2 c_125
                      refine lv_iconst (v := (0 : Int32)) hx hb0 dL_isSo_437 (by decide) ?_
                      refine lv_istore (lv' := [(12, .int (0 : Int32)), (11, .int r_4), (0, .ref (ad 0)), (1, .int y1), (2, .ref (ad 158)), (3, .ref (ad 159)), (4, .ref (ad 160)), (5, .ref (ad 161)), (6, .int y6), (7, .int y7), (8, .int y8), (9, .int y9), (10, .int y10)]) hx hb0 dL_isSo_438 hl (by decide) rfl (fun ls hl => ?_)
                      refine lv_iconst (v := (0 : Int32)) hx hb0 dL_isSo_440 (by decide) ?_
                      refine lv_istore (lv' := [(13, .int (0 : Int32)), (12, .int (0 : Int32)), (11, .int r_4), (0, .ref (ad 0)), (1, .int y1), (2, .ref (ad 158)), (3, .ref (ad 159)), (4, .ref (ad 160)), (5, .ref (ad 161)), (6, .int y6), (7, .int y7), (8, .int y8), (9, .int y9), (10, .int y10)]) hx hb0 dL_isSo_441 hl (by decide) rfl (fun ls hl => ?_)
                      obtain ⟨n_126, he⟩ := he
                      exact l_L_isSo_443 l dC dI P ad tb  hx hb0 hr hlocks hml hown hts hK hk Q n_126 y1 y6 y7 y8 y9 y10 r_4 (0 : Int32) (0 : Int32) h_124 he _ _ ls hP hD hS (lv_sub hl [3, 4, 5, 6, 7, 8, 9, 10, 11, 12, 13, 2, 1, 0] rfl)
                    · have he := he.1 c_125
                      refine lv_aload_n hx hb0 dL_isSo_382 rfl (lv_at hl 1 rfl) ?_
                      refine lv_bipush (v := (11 : Int32)) hx hb0 dL_isSo_383 (by decide) ?_
                      refine gx_vi ⟨hx, hb0, hml, hown, hts⟩ (gKC_keep _ _) hk hK hP hD hS 0 [.int (11 : Int32)] [] (c_X7_count l dC dI P ad tb (11 : Int32) h_124 _ he) gm_X7_count im_yX7_count se_yX7_count ml_RL_104 (by decide) (cE_t0 _) rfl rfl rfl ⟨Nat.le_of_ble_eq_true rfl, Nat.le_of_ble_eq_true rfl⟩ rfl hl.1 rfl (Nat.le_of_ble_eq_true rfl) dL_isSo_385 ⟨Nat.zero_le _, Nat.zero_le _⟩ (fun r_127 h_128 he H locs hP hD hS => ?_)
                      refine lv_aload_n hx hb0 dL_isSo_388 rfl (lv_at hl 3 rfl) ?_
                      refine lv_iconst (v := (0 : Int32)) hx hb0 dL_isSo_389 (by decide) ?_
                      refine gx_ialdK hx hb0 hK hP 158 0 (by decide) cE_t158 rfl (vp_lit (0 : Int32) (by decide) (by decide)) 0 rfl dL_isSo_390 ?_
                      refine lv_bipush (v := (30 : Int32)) hx hb0 dL_isSo_391 (by decide) ?_
                      refine lv_iadd hx hb0 dL_isSo_393 ?_
                      refine lv_icmp_ne (tgt := 437) hx hb0 dL_isSo_394 (by decide) (fun c_129 => ?_) (fun c_129 => ?_)
                      · have he := he.2 c_129
                        refine lv_iconst (v := (0 : Int32)) hx hb0 dL_isSo_437 (by decide) ?_
                        refine lv_istore (lv' := [(12, .int (0 : Int32)), (11, .int r_4), (0, .ref (ad 0)), (1, .int y1), (2, .ref (ad 158)), (3, .ref (ad 159)), (4, .ref (ad 160)), (5, .ref (ad 161)), (6, .int y6), (7, .int y7), (8, .int y8), (9, .int y9), (10, .int y10)]) hx hb0 dL_isSo_438 hl (by decide) rfl (fun ls hl => ?_)
                        refine lv_iconst (v := (0 : Int32)) hx hb0 dL_isSo_440 (by decide) ?_
                        refine lv_istore (lv' := [(13, .int (0 : Int32)), (12, .int (0 : Int32)), (11, .int r_4), (0, .ref (ad 0)), (1, .int y1), (2, .ref (ad 158)), (3, .ref (ad 159)), (4, .ref (ad 160)), (5, .ref (ad 161)), (6, .int y6), (7, .int y7), (8, .int y8), (9, .int y9), (10, .int y10)]) hx hb0 dL_isSo_441 hl (by decide) rfl (fun ls hl => ?_)
                        obtain ⟨n_130, he⟩ := he
                        exact l_L_isSo_443 l dC dI P ad tb  hx hb0 hr hlocks hml hown hts hK hk Q n_130 y1 y6 y7 y8 y9 y10 r_4 (0 : Int32) (0 : Int32) h_128 he _ _ ls hP hD hS (lv_sub hl [3, 4, 5, 6, 7, 8, 9, 10, 11, 12, 13, 2, 1, 0] rfl)
                      · have he := he.1 c_129
                        refine lv_aload_n hx hb0 dL_isSo_397 rfl (lv_at hl 1 rfl) ?_
                        refine lv_bipush (v := (12 : Int32)) hx hb0 dL_isSo_398 (by decide) ?_
                        refine gx_vi ⟨hx, hb0, hml, hown, hts⟩ (gKC_keep _ _) hk hK hP hD hS 0 [.int (12 : Int32)] [] (c_X7_count l dC dI P ad tb (12 : Int32) h_128 _ he) gm_X7_count im_yX7_count se_yX7_count ml_RL_104 (by decide) (cE_t0 _) rfl rfl rfl ⟨Nat.le_of_ble_eq_true rfl, Nat.le_of_ble_eq_true rfl⟩ rfl hl.1 rfl (Nat.le_of_ble_eq_true rfl) dL_isSo_400 ⟨Nat.zero_le _, Nat.zero_le _⟩ (fun r_131 h_132 he H locs hP hD hS => ?_)
                        refine lv_aload_n hx hb0 dL_isSo_403 rfl (lv_at hl 3 rfl) ?_
                        refine lv_iconst (v := (1 : Int32)) hx hb0 dL_isSo_404 (by decide) ?_
                        refine gx_ialdK hx hb0 hK hP 158 0 (by decide) cE_t158 rfl (vp_lit (1 : Int32) (by decide) (by decide)) 1 rfl dL_isSo_405 ?_
                        refine lv_icmp_ne (tgt := 437) hx hb0 dL_isSo_406 (by decide) (fun c_133 => ?_) (fun c_133 => ?_)
                        · have he := he.2 c_133
                          refine lv_iconst (v := (0 : Int32)) hx hb0 dL_isSo_437 (by decide) ?_
                          refine lv_istore (lv' := [(12, .int (0 : Int32)), (11, .int r_4), (0, .ref (ad 0)), (1, .int y1), (2, .ref (ad 158)), (3, .ref (ad 159)), (4, .ref (ad 160)), (5, .ref (ad 161)), (6, .int y6), (7, .int y7), (8, .int y8), (9, .int y9), (10, .int y10)]) hx hb0 dL_isSo_438 hl (by decide) rfl (fun ls hl => ?_)
                          refine lv_iconst (v := (0 : Int32)) hx hb0 dL_isSo_440 (by decide) ?_
                          refine lv_istore (lv' := [(13, .int (0 : Int32)), (12, .int (0 : Int32)), (11, .int r_4), (0, .ref (ad 0)), (1, .int y1), (2, .ref (ad 158)), (3, .ref (ad 159)), (4, .ref (ad 160)), (5, .ref (ad 161)), (6, .int y6), (7, .int y7), (8, .int y8), (9, .int y9), (10, .int y10)]) hx hb0 dL_isSo_441 hl (by decide) rfl (fun ls hl => ?_)
                          obtain ⟨n_134, he⟩ := he
                          exact l_L_isSo_443 l dC dI P ad tb  hx hb0 hr hlocks hml hown hts hK hk Q n_134 y1 y6 y7 y8 y9 y10 r_4 (0 : Int32) (0 : Int32) h_132 he _ _ ls hP hD hS (lv_sub hl [3, 4, 5, 6, 7, 8, 9, 10, 11, 12, 13, 2, 1, 0] rfl)
                        · have he := he.1 c_133
                          refine lv_aload_n hx hb0 dL_isSo_409 rfl (lv_at hl 1 rfl) ?_
                          refine lv_bipush (v := (13 : Int32)) hx hb0 dL_isSo_410 (by decide) ?_
                          refine gx_vi ⟨hx, hb0, hml, hown, hts⟩ (gKC_keep _ _) hk hK hP hD hS 0 [.int (13 : Int32)] [] (c_X7_count l dC dI P ad tb (13 : Int32) h_132 _ he) gm_X7_count im_yX7_count se_yX7_count ml_RL_104 (by decide) (cE_t0 _) rfl rfl rfl ⟨Nat.le_of_ble_eq_true rfl, Nat.le_of_ble_eq_true rfl⟩ rfl hl.1 rfl (Nat.le_of_ble_eq_true rfl) dL_isSo_412 ⟨Nat.zero_le _, Nat.zero_le _⟩ (fun r_135 h_136 he H locs hP hD hS => ?_)
                          refine lv_aload_n hx hb0 dL_isSo_415 rfl (lv_at hl 3 rfl) ?_
                          refine lv_iconst (v := (2 : Int32)) hx hb0 dL_isSo_416 (by decide) ?_
                          refine gx_ialdK hx hb0 hK hP 158 0 (by decide) cE_t158 rfl (vp_lit (2 : Int32) (by decide) (by decide)) 2 rfl dL_isSo_417 ?_
                          refine lv_icmp_ne (tgt := 437) hx hb0 dL_isSo_418 (by decide) (fun c_137 => ?_) (fun c_137 => ?_)
                          · have he := he.2 c_137
                            refine lv_iconst (v := (0 : Int32)) hx hb0 dL_isSo_437 (by decide) ?_
                            refine lv_istore (lv' := [(12, .int (0 : Int32)), (11, .int r_4), (0, .ref (ad 0)), (1, .int y1), (2, .ref (ad 158)), (3, .ref (ad 159)), (4, .ref (ad 160)), (5, .ref (ad 161)), (6, .int y6), (7, .int y7), (8, .int y8), (9, .int y9), (10, .int y10)]) hx hb0 dL_isSo_438 hl (by decide) rfl (fun ls hl => ?_)
                            refine lv_iconst (v := (0 : Int32)) hx hb0 dL_isSo_440 (by decide) ?_
                            refine lv_istore (lv' := [(13, .int (0 : Int32)), (12, .int (0 : Int32)), (11, .int r_4), (0, .ref (ad 0)), (1, .int y1), (2, .ref (ad 158)), (3, .ref (ad 159)), (4, .ref (ad 160)), (5, .ref (ad 161)), (6, .int y6), (7, .int y7), (8, .int y8), (9, .int y9), (10, .int y10)]) hx hb0 dL_isSo_441 hl (by decide) rfl (fun ls hl => ?_)
                            obtain ⟨n_138, he⟩ := he
                            exact l_L_isSo_443 l dC dI P ad tb  hx hb0 hr hlocks hml hown hts hK hk Q n_138 y1 y6 y7 y8 y9 y10 r_4 (0 : Int32) (0 : Int32) h_136 he _ _ ls hP hD hS (lv_sub hl [3, 4, 5, 6, 7, 8, 9, 10, 11, 12, 13, 2, 1, 0] rfl)
                          · have he := he.1 c_137
                            refine lv_aload_n hx hb0 dL_isSo_421 rfl (lv_at hl 1 rfl) ?_
                            refine lv_bipush (v := (14 : Int32)) hx hb0 dL_isSo_422 (by decide) ?_
                            refine gx_vi ⟨hx, hb0, hml, hown, hts⟩ (gKC_keep _ _) hk hK hP hD hS 0 [.int (14 : Int32)] [] (c_X7_count l dC dI P ad tb (14 : Int32) h_136 _ he) gm_X7_count im_yX7_count se_yX7_count ml_RL_104 (by decide) (cE_t0 _) rfl rfl rfl ⟨Nat.le_of_ble_eq_true rfl, Nat.le_of_ble_eq_true rfl⟩ rfl hl.1 rfl (Nat.le_of_ble_eq_true rfl) dL_isSo_424 ⟨Nat.zero_le _, Nat.zero_le _⟩ (fun r_139 h_140 he H locs hP hD hS => ?_)
                            refine lv_aload_n hx hb0 dL_isSo_427 rfl (lv_at hl 3 rfl) ?_
                            refine lv_iconst (v := (3 : Int32)) hx hb0 dL_isSo_428 (by decide) ?_
                            refine gx_ialdK hx hb0 hK hP 158 0 (by decide) cE_t158 rfl (vp_lit (3 : Int32) (by decide) (by decide)) 3 rfl dL_isSo_429 ?_
                            refine lv_icmp_ne (tgt := 437) hx hb0 dL_isSo_430 (by decide) (fun c_141 => ?_) (fun c_141 => ?_)
                            · have he := he.2 c_141
                              refine lv_iconst (v := (0 : Int32)) hx hb0 dL_isSo_437 (by decide) ?_
                              refine lv_istore (lv' := [(12, .int (0 : Int32)), (11, .int r_4), (0, .ref (ad 0)), (1, .int y1), (2, .ref (ad 158)), (3, .ref (ad 159)), (4, .ref (ad 160)), (5, .ref (ad 161)), (6, .int y6), (7, .int y7), (8, .int y8), (9, .int y9), (10, .int y10)]) hx hb0 dL_isSo_438 hl (by decide) rfl (fun ls hl => ?_)
                              refine lv_iconst (v := (0 : Int32)) hx hb0 dL_isSo_440 (by decide) ?_
                              refine lv_istore (lv' := [(13, .int (0 : Int32)), (12, .int (0 : Int32)), (11, .int r_4), (0, .ref (ad 0)), (1, .int y1), (2, .ref (ad 158)), (3, .ref (ad 159)), (4, .ref (ad 160)), (5, .ref (ad 161)), (6, .int y6), (7, .int y7), (8, .int y8), (9, .int y9), (10, .int y10)]) hx hb0 dL_isSo_441 hl (by decide) rfl (fun ls hl => ?_)
                              obtain ⟨n_142, he⟩ := he
                              exact l_L_isSo_443 l dC dI P ad tb  hx hb0 hr hlocks hml hown hts hK hk Q n_142 y1 y6 y7 y8 y9 y10 r_4 (0 : Int32) (0 : Int32) h_140 he _ _ ls hP hD hS (lv_sub hl [3, 4, 5, 6, 7, 8, 9, 10, 11, 12, 13, 2, 1, 0] rfl)
                            · have he := he.1 c_141
                              refine lv_iconst (v := (1 : Int32)) hx hb0 dL_isSo_433 (by decide) ?_
                              refine lv_goto (tgt := 438) hx hb0 dL_isSo_434 (by decide) ?_
                              refine lv_istore (lv' := [(12, .int (1 : Int32)), (11, .int r_4), (0, .ref (ad 0)), (1, .int y1), (2, .ref (ad 158)), (3, .ref (ad 159)), (4, .ref (ad 160)), (5, .ref (ad 161)), (6, .int y6), (7, .int y7), (8, .int y8), (9, .int y9), (10, .int y10)]) hx hb0 dL_isSo_438 hl (by decide) rfl (fun ls hl => ?_)
                              refine lv_iconst (v := (0 : Int32)) hx hb0 dL_isSo_440 (by decide) ?_
                              refine lv_istore (lv' := [(13, .int (0 : Int32)), (12, .int (1 : Int32)), (11, .int r_4), (0, .ref (ad 0)), (1, .int y1), (2, .ref (ad 158)), (3, .ref (ad 159)), (4, .ref (ad 160)), (5, .ref (ad 161)), (6, .int y6), (7, .int y7), (8, .int y8), (9, .int y9), (10, .int y10)]) hx hb0 dL_isSo_441 hl (by decide) rfl (fun ls hl => ?_)
                              obtain ⟨n_143, he⟩ := he
                              exact l_L_isSo_443 l dC dI P ad tb  hx hb0 hr hlocks hml hown hts hK hk Q n_143 y1 y6 y7 y8 y9 y10 r_4 (1 : Int32) (0 : Int32) h_140 he _ _ ls hP hD hS (lv_sub hl [3, 4, 5, 6, 7, 8, 9, 10, 11, 12, 13, 2, 1, 0] rfl)
                  · have he := he.1 c_122
                    refine lv_bipush (v := (-6 : Int32)) hx hb0 dL_isSo_364 (by decide) ?_
                    refine lv_goto (tgt := 379) hx hb0 dL_isSo_366 (by decide) ?_
                    refine lv_icmp_ne (tgt := 437) hx hb0 dL_isSo_379 (by decide) (fun c_144 => ?_) (fun c_144 => ?_)
                    · have he := he.2 c_144
                      refine lv_iconst (v := (0 : Int32)) hx hb0 dL_isSo_437 (by decide) ?_
                      refine lv_istore (lv' := [(12, .int (0 : Int32)), (11, .int r_4), (0, .ref (ad 0)), (1, .int y1), (2, .ref (ad 158)), (3, .ref (ad 159)), (4, .ref (ad 160)), (5, .ref (ad 161)), (6, .int y6), (7, .int y7), (8, .int y8), (9, .int y9), (10, .int y10)]) hx hb0 dL_isSo_438 hl (by decide) rfl (fun ls hl => ?_)
                      refine lv_iconst (v := (0 : Int32)) hx hb0 dL_isSo_440 (by decide) ?_
                      refine lv_istore (lv' := [(13, .int (0 : Int32)), (12, .int (0 : Int32)), (11, .int r_4), (0, .ref (ad 0)), (1, .int y1), (2, .ref (ad 158)), (3, .ref (ad 159)), (4, .ref (ad 160)), (5, .ref (ad 161)), (6, .int y6), (7, .int y7), (8, .int y8), (9, .int y9), (10, .int y10)]) hx hb0 dL_isSo_441 hl (by decide) rfl (fun ls hl => ?_)
                      obtain ⟨n_145, he⟩ := he
                      exact l_L_isSo_443 l dC dI P ad tb  hx hb0 hr hlocks hml hown hts hK hk Q n_145 y1 y6 y7 y8 y9 y10 r_4 (0 : Int32) (0 : Int32) h_121 he _ _ ls hP hD hS (lv_sub hl [3, 4, 5, 6, 7, 8, 9, 10, 11, 12, 13, 2, 1, 0] rfl)
                    · have he := he.1 c_144
                      refine lv_aload_n hx hb0 dL_isSo_382 rfl (lv_at hl 1 rfl) ?_
                      refine lv_bipush (v := (11 : Int32)) hx hb0 dL_isSo_383 (by decide) ?_
                      refine gx_vi ⟨hx, hb0, hml, hown, hts⟩ (gKC_keep _ _) hk hK hP hD hS 0 [.int (11 : Int32)] [] (c_X7_count l dC dI P ad tb (11 : Int32) h_121 _ he) gm_X7_count im_yX7_count se_yX7_count ml_RL_104 (by decide) (cE_t0 _) rfl rfl rfl ⟨Nat.le_of_ble_eq_true rfl, Nat.le_of_ble_eq_true rfl⟩ rfl hl.1 rfl (Nat.le_of_ble_eq_true rfl) dL_isSo_385 ⟨Nat.zero_le _, Nat.zero_le _⟩ (fun r_146 h_147 he H locs hP hD hS => ?_)
                      refine lv_aload_n hx hb0 dL_isSo_388 rfl (lv_at hl 3 rfl) ?_
                      refine lv_iconst (v := (0 : Int32)) hx hb0 dL_isSo_389 (by decide) ?_
                      refine gx_ialdK hx hb0 hK hP 158 0 (by decide) cE_t158 rfl (vp_lit (0 : Int32) (by decide) (by decide)) 0 rfl dL_isSo_390 ?_
                      refine lv_bipush (v := (30 : Int32)) hx hb0 dL_isSo_391 (by decide) ?_
                      refine lv_iadd hx hb0 dL_isSo_393 ?_
                      refine lv_icmp_ne (tgt := 437) hx hb0 dL_isSo_394 (by decide) (fun c_148 => ?_) (fun c_148 => ?_)
                      · have he := he.2 c_148
                        refine lv_iconst (v := (0 : Int32)) hx hb0 dL_isSo_437 (by decide) ?_
                        refine lv_istore (lv' := [(12, .int (0 : Int32)), (11, .int r_4), (0, .ref (ad 0)), (1, .int y1), (2, .ref (ad 158)), (3, .ref (ad 159)), (4, .ref (ad 160)), (5, .ref (ad 161)), (6, .int y6), (7, .int y7), (8, .int y8), (9, .int y9), (10, .int y10)]) hx hb0 dL_isSo_438 hl (by decide) rfl (fun ls hl => ?_)
                        refine lv_iconst (v := (0 : Int32)) hx hb0 dL_isSo_440 (by decide) ?_
                        refine lv_istore (lv' := [(13, .int (0 : Int32)), (12, .int (0 : Int32)), (11, .int r_4), (0, .ref (ad 0)), (1, .int y1), (2, .ref (ad 158)), (3, .ref (ad 159)), (4, .ref (ad 160)), (5, .ref (ad 161)), (6, .int y6), (7, .int y7), (8, .int y8), (9, .int y9), (10, .int y10)]) hx hb0 dL_isSo_441 hl (by decide) rfl (fun ls hl => ?_)
                        obtain ⟨n_149, he⟩ := he
                        exact l_L_isSo_443 l dC dI P ad tb  hx hb0 hr hlocks hml hown hts hK hk Q n_149 y1 y6 y7 y8 y9 y10 r_4 (0 : Int32) (0 : Int32) h_147 he _ _ ls hP hD hS (lv_sub hl [3, 4, 5, 6, 7, 8, 9, 10, 11, 12, 13, 2, 1, 0] rfl)
                      · have he := he.1 c_148
                        refine lv_aload_n hx hb0 dL_isSo_397 rfl (lv_at hl 1 rfl) ?_
                        refine lv_bipush (v := (12 : Int32)) hx hb0 dL_isSo_398 (by decide) ?_
                        refine gx_vi ⟨hx, hb0, hml, hown, hts⟩ (gKC_keep _ _) hk hK hP hD hS 0 [.int (12 : Int32)] [] (c_X7_count l dC dI P ad tb (12 : Int32) h_147 _ he) gm_X7_count im_yX7_count se_yX7_count ml_RL_104 (by decide) (cE_t0 _) rfl rfl rfl ⟨Nat.le_of_ble_eq_true rfl, Nat.le_of_ble_eq_true rfl⟩ rfl hl.1 rfl (Nat.le_of_ble_eq_true rfl) dL_isSo_400 ⟨Nat.zero_le _, Nat.zero_le _⟩ (fun r_150 h_151 he H locs hP hD hS => ?_)
                        refine lv_aload_n hx hb0 dL_isSo_403 rfl (lv_at hl 3 rfl) ?_
                        refine lv_iconst (v := (1 : Int32)) hx hb0 dL_isSo_404 (by decide) ?_
                        refine gx_ialdK hx hb0 hK hP 158 0 (by decide) cE_t158 rfl (vp_lit (1 : Int32) (by decide) (by decide)) 1 rfl dL_isSo_405 ?_
                        refine lv_icmp_ne (tgt := 437) hx hb0 dL_isSo_406 (by decide) (fun c_152 => ?_) (fun c_152 => ?_)
                        · have he := he.2 c_152
                          refine lv_iconst (v := (0 : Int32)) hx hb0 dL_isSo_437 (by decide) ?_
                          refine lv_istore (lv' := [(12, .int (0 : Int32)), (11, .int r_4), (0, .ref (ad 0)), (1, .int y1), (2, .ref (ad 158)), (3, .ref (ad 159)), (4, .ref (ad 160)), (5, .ref (ad 161)), (6, .int y6), (7, .int y7), (8, .int y8), (9, .int y9), (10, .int y10)]) hx hb0 dL_isSo_438 hl (by decide) rfl (fun ls hl => ?_)
                          refine lv_iconst (v := (0 : Int32)) hx hb0 dL_isSo_440 (by decide) ?_
                          refine lv_istore (lv' := [(13, .int (0 : Int32)), (12, .int (0 : Int32)), (11, .int r_4), (0, .ref (ad 0)), (1, .int y1), (2, .ref (ad 158)), (3, .ref (ad 159)), (4, .ref (ad 160)), (5, .ref (ad 161)), (6, .int y6), (7, .int y7), (8, .int y8), (9, .int y9), (10, .int y10)]) hx hb0 dL_isSo_441 hl (by decide) rfl (fun ls hl => ?_)
                          obtain ⟨n_153, he⟩ := he
                          exact l_L_isSo_443 l dC dI P ad tb  hx hb0 hr hlocks hml hown hts hK hk Q n_153 y1 y6 y7 y8 y9 y10 r_4 (0 : Int32) (0 : Int32) h_151 he _ _ ls hP hD hS (lv_sub hl [3, 4, 5, 6, 7, 8, 9, 10, 11, 12, 13, 2, 1, 0] rfl)
                        · have he := he.1 c_152
                          refine lv_aload_n hx hb0 dL_isSo_409 rfl (lv_at hl 1 rfl) ?_
                          refine lv_bipush (v := (13 : Int32)) hx hb0 dL_isSo_410 (by decide) ?_
                          refine gx_vi ⟨hx, hb0, hml, hown, hts⟩ (gKC_keep _ _) hk hK hP hD hS 0 [.int (13 : Int32)] [] (c_X7_count l dC dI P ad tb (13 : Int32) h_151 _ he) gm_X7_count im_yX7_count se_yX7_count ml_RL_104 (by decide) (cE_t0 _) rfl rfl rfl ⟨Nat.le_of_ble_eq_true rfl, Nat.le_of_ble_eq_true rfl⟩ rfl hl.1 rfl (Nat.le_of_ble_eq_true rfl) dL_isSo_412 ⟨Nat.zero_le _, Nat.zero_le _⟩ (fun r_154 h_155 he H locs hP hD hS => ?_)
                          refine lv_aload_n hx hb0 dL_isSo_415 rfl (lv_at hl 3 rfl) ?_
                          refine lv_iconst (v := (2 : Int32)) hx hb0 dL_isSo_416 (by decide) ?_
                          refine gx_ialdK hx hb0 hK hP 158 0 (by decide) cE_t158 rfl (vp_lit (2 : Int32) (by decide) (by decide)) 2 rfl dL_isSo_417 ?_
                          refine lv_icmp_ne (tgt := 437) hx hb0 dL_isSo_418 (by decide) (fun c_156 => ?_) (fun c_156 => ?_)
                          · have he := he.2 c_156
                            refine lv_iconst (v := (0 : Int32)) hx hb0 dL_isSo_437 (by decide) ?_
                            refine lv_istore (lv' := [(12, .int (0 : Int32)), (11, .int r_4), (0, .ref (ad 0)), (1, .int y1), (2, .ref (ad 158)), (3, .ref (ad 159)), (4, .ref (ad 160)), (5, .ref (ad 161)), (6, .int y6), (7, .int y7), (8, .int y8), (9, .int y9), (10, .int y10)]) hx hb0 dL_isSo_438 hl (by decide) rfl (fun ls hl => ?_)
                            refine lv_iconst (v := (0 : Int32)) hx hb0 dL_isSo_440 (by decide) ?_
                            refine lv_istore (lv' := [(13, .int (0 : Int32)), (12, .int (0 : Int32)), (11, .int r_4), (0, .ref (ad 0)), (1, .int y1), (2, .ref (ad 158)), (3, .ref (ad 159)), (4, .ref (ad 160)), (5, .ref (ad 161)), (6, .int y6), (7, .int y7), (8, .int y8), (9, .int y9), (10, .int y10)]) hx hb0 dL_isSo_441 hl (by decide) rfl (fun ls hl => ?_)
                            obtain ⟨n_157, he⟩ := he
                            exact l_L_isSo_443 l dC dI P ad tb  hx hb0 hr hlocks hml hown hts hK hk Q n_157 y1 y6 y7 y8 y9 y10 r_4 (0 : Int32) (0 : Int32) h_155 he _ _ ls hP hD hS (lv_sub hl [3, 4, 5, 6, 7, 8, 9, 10, 11, 12, 13, 2, 1, 0] rfl)
                          · have he := he.1 c_156
                            refine lv_aload_n hx hb0 dL_isSo_421 rfl (lv_at hl 1 rfl) ?_
                            refine lv_bipush (v := (14 : Int32)) hx hb0 dL_isSo_422 (by decide) ?_
                            refine gx_vi ⟨hx, hb0, hml, hown, hts⟩ (gKC_keep _ _) hk hK hP hD hS 0 [.int (14 : Int32)] [] (c_X7_count l dC dI P ad tb (14 : Int32) h_155 _ he) gm_X7_count im_yX7_count se_yX7_count ml_RL_104 (by decide) (cE_t0 _) rfl rfl rfl ⟨Nat.le_of_ble_eq_true rfl, Nat.le_of_ble_eq_true rfl⟩ rfl hl.1 rfl (Nat.le_of_ble_eq_true rfl) dL_isSo_424 ⟨Nat.zero_le _, Nat.zero_le _⟩ (fun r_158 h_159 he H locs hP hD hS => ?_)
                            refine lv_aload_n hx hb0 dL_isSo_427 rfl (lv_at hl 3 rfl) ?_
                            refine lv_iconst (v := (3 : Int32)) hx hb0 dL_isSo_428 (by decide) ?_
                            refine gx_ialdK hx hb0 hK hP 158 0 (by decide) cE_t158 rfl (vp_lit (3 : Int32) (by decide) (by decide)) 3 rfl dL_isSo_429 ?_
                            refine lv_icmp_ne (tgt := 437) hx hb0 dL_isSo_430 (by decide) (fun c_160 => ?_) (fun c_160 => ?_)
                            · have he := he.2 c_160
                              refine lv_iconst (v := (0 : Int32)) hx hb0 dL_isSo_437 (by decide) ?_
                              refine lv_istore (lv' := [(12, .int (0 : Int32)), (11, .int r_4), (0, .ref (ad 0)), (1, .int y1), (2, .ref (ad 158)), (3, .ref (ad 159)), (4, .ref (ad 160)), (5, .ref (ad 161)), (6, .int y6), (7, .int y7), (8, .int y8), (9, .int y9), (10, .int y10)]) hx hb0 dL_isSo_438 hl (by decide) rfl (fun ls hl => ?_)
                              refine lv_iconst (v := (0 : Int32)) hx hb0 dL_isSo_440 (by decide) ?_
                              refine lv_istore (lv' := [(13, .int (0 : Int32)), (12, .int (0 : Int32)), (11, .int r_4), (0, .ref (ad 0)), (1, .int y1), (2, .ref (ad 158)), (3, .ref (ad 159)), (4, .ref (ad 160)), (5, .ref (ad 161)), (6, .int y6), (7, .int y7), (8, .int y8), (9, .int y9), (10, .int y10)]) hx hb0 dL_isSo_441 hl (by decide) rfl (fun ls hl => ?_)
                              obtain ⟨n_161, he⟩ := he
                              exact l_L_isSo_443 l dC dI P ad tb  hx hb0 hr hlocks hml hown hts hK hk Q n_161 y1 y6 y7 y8 y9 y10 r_4 (0 : Int32) (0 : Int32) h_159 he _ _ ls hP hD hS (lv_sub hl [3, 4, 5, 6, 7, 8, 9, 10, 11, 12, 13, 2, 1, 0] rfl)
                            · have he := he.1 c_160
                              refine lv_iconst (v := (1 : Int32)) hx hb0 dL_isSo_433 (by decide) ?_
                              refine lv_goto (tgt := 438) hx hb0 dL_isSo_434 (by decide) ?_
                              refine lv_istore (lv' := [(12, .int (1 : Int32)), (11, .int r_4), (0, .ref (ad 0)), (1, .int y1), (2, .ref (ad 158)), (3, .ref (ad 159)), (4, .ref (ad 160)), (5, .ref (ad 161)), (6, .int y6), (7, .int y7), (8, .int y8), (9, .int y9), (10, .int y10)]) hx hb0 dL_isSo_438 hl (by decide) rfl (fun ls hl => ?_)
                              refine lv_iconst (v := (0 : Int32)) hx hb0 dL_isSo_440 (by decide) ?_
                              refine lv_istore (lv' := [(13, .int (0 : Int32)), (12, .int (1 : Int32)), (11, .int r_4), (0, .ref (ad 0)), (1, .int y1), (2, .ref (ad 158)), (3, .ref (ad 159)), (4, .ref (ad 160)), (5, .ref (ad 161)), (6, .int y6), (7, .int y7), (8, .int y8), (9, .int y9), (10, .int y10)]) hx hb0 dL_isSo_441 hl (by decide) rfl (fun ls hl => ?_)
                              obtain ⟨n_162, he⟩ := he
                              exact l_L_isSo_443 l dC dI P ad tb  hx hb0 hr hlocks hml hown hts hK hk Q n_162 y1 y6 y7 y8 y9 y10 r_4 (1 : Int32) (0 : Int32) h_159 he _ _ ls hP hD hS (lv_sub hl [3, 4, 5, 6, 7, 8, 9, 10, 11, 12, 13, 2, 1, 0] rfl)
        · have he := he.1 c_105
          refine lv_bipush (v := (-6 : Int32)) hx hb0 dL_isSo_296 (by decide) ?_
          refine lv_goto (tgt := 308) hx hb0 dL_isSo_298 (by decide) ?_
          refine lv_icmp_ne (tgt := 437) hx hb0 dL_isSo_308 (by decide) (fun c_163 => ?_) (fun c_163 => ?_)
          · have he := he.2 c_163
            refine lv_iconst (v := (0 : Int32)) hx hb0 dL_isSo_437 (by decide) ?_
            refine lv_istore (lv' := [(12, .int (0 : Int32)), (11, .int r_4), (0, .ref (ad 0)), (1, .int y1), (2, .ref (ad 158)), (3, .ref (ad 159)), (4, .ref (ad 160)), (5, .ref (ad 161)), (6, .int y6), (7, .int y7), (8, .int y8), (9, .int y9), (10, .int y10)]) hx hb0 dL_isSo_438 hl (by decide) rfl (fun ls hl => ?_)
            refine lv_iconst (v := (0 : Int32)) hx hb0 dL_isSo_440 (by decide) ?_
            refine lv_istore (lv' := [(13, .int (0 : Int32)), (12, .int (0 : Int32)), (11, .int r_4), (0, .ref (ad 0)), (1, .int y1), (2, .ref (ad 158)), (3, .ref (ad 159)), (4, .ref (ad 160)), (5, .ref (ad 161)), (6, .int y6), (7, .int y7), (8, .int y8), (9, .int y9), (10, .int y10)]) hx hb0 dL_isSo_441 hl (by decide) rfl (fun ls hl => ?_)
            obtain ⟨n_164, he⟩ := he
            exact l_L_isSo_443 l dC dI P ad tb  hx hb0 hr hlocks hml hown hts hK hk Q n_164 y1 y6 y7 y8 y9 y10 r_4 (0 : Int32) (0 : Int32) h_104 he _ _ ls hP hD hS (lv_sub hl [3, 4, 5, 6, 7, 8, 9, 10, 11, 12, 13, 2, 1, 0] rfl)
          · have he := he.1 c_163
            refine lv_aload_n hx hb0 dL_isSo_311 rfl (lv_at hl 1 rfl) ?_
            refine lv_iconst (v := (2 : Int32)) hx hb0 dL_isSo_312 (by decide) ?_
            refine gx_vi ⟨hx, hb0, hml, hown, hts⟩ (gKC_keep _ _) hk hK hP hD hS 0 [.int (2 : Int32)] [] (c_X7_count l dC dI P ad tb (2 : Int32) h_104 _ he) gm_X7_count im_yX7_count se_yX7_count ml_RL_104 (by decide) (cE_t0 _) rfl rfl rfl ⟨Nat.le_of_ble_eq_true rfl, Nat.le_of_ble_eq_true rfl⟩ rfl hl.1 rfl (Nat.le_of_ble_eq_true rfl) dL_isSo_313 ⟨Nat.zero_le _, Nat.zero_le _⟩ (fun r_165 h_166 he H locs hP hD hS => ?_)
            refine lv_aload_n hx hb0 dL_isSo_316 rfl (lv_at hl 3 rfl) ?_
            refine lv_bipush (v := (6 : Int32)) hx hb0 dL_isSo_317 (by decide) ?_
            refine gx_ialdK hx hb0 hK hP 158 0 (by decide) cE_t158 rfl (vp_lit (6 : Int32) (by decide) (by decide)) 6 rfl dL_isSo_319 ?_
            refine lv_sipush (v := (5400 : Int32)) hx hb0 dL_isSo_320 (by decide) ?_
            refine lv_iadd hx hb0 dL_isSo_323 ?_
            refine lv_icmp_ne (tgt := 437) hx hb0 dL_isSo_324 (by decide) (fun c_167 => ?_) (fun c_167 => ?_)
            · have he := he.2 c_167
              refine lv_iconst (v := (0 : Int32)) hx hb0 dL_isSo_437 (by decide) ?_
              refine lv_istore (lv' := [(12, .int (0 : Int32)), (11, .int r_4), (0, .ref (ad 0)), (1, .int y1), (2, .ref (ad 158)), (3, .ref (ad 159)), (4, .ref (ad 160)), (5, .ref (ad 161)), (6, .int y6), (7, .int y7), (8, .int y8), (9, .int y9), (10, .int y10)]) hx hb0 dL_isSo_438 hl (by decide) rfl (fun ls hl => ?_)
              refine lv_iconst (v := (0 : Int32)) hx hb0 dL_isSo_440 (by decide) ?_
              refine lv_istore (lv' := [(13, .int (0 : Int32)), (12, .int (0 : Int32)), (11, .int r_4), (0, .ref (ad 0)), (1, .int y1), (2, .ref (ad 158)), (3, .ref (ad 159)), (4, .ref (ad 160)), (5, .ref (ad 161)), (6, .int y6), (7, .int y7), (8, .int y8), (9, .int y9), (10, .int y10)]) hx hb0 dL_isSo_441 hl (by decide) rfl (fun ls hl => ?_)
              obtain ⟨n_168, he⟩ := he
              exact l_L_isSo_443 l dC dI P ad tb  hx hb0 hr hlocks hml hown hts hK hk Q n_168 y1 y6 y7 y8 y9 y10 r_4 (0 : Int32) (0 : Int32) h_166 he _ _ ls hP hD hS (lv_sub hl [3, 4, 5, 6, 7, 8, 9, 10, 11, 12, 13, 2, 1, 0] rfl)
            · have he := he.1 c_167
              refine lv_aload_n hx hb0 dL_isSo_327 rfl (lv_at hl 1 rfl) ?_
              refine lv_bipush (v := (8 : Int32)) hx hb0 dL_isSo_328 (by decide) ?_
              refine gx_vi ⟨hx, hb0, hml, hown, hts⟩ (gKC_keep _ _) hk hK hP hD hS 0 [.int (8 : Int32)] [] (c_X7_count l dC dI P ad tb (8 : Int32) h_166 _ he) gm_X7_count im_yX7_count se_yX7_count ml_RL_104 (by decide) (cE_t0 _) rfl rfl rfl ⟨Nat.le_of_ble_eq_true rfl, Nat.le_of_ble_eq_true rfl⟩ rfl hl.1 rfl (Nat.le_of_ble_eq_true rfl) dL_isSo_330 ⟨Nat.zero_le _, Nat.zero_le _⟩ (fun r_169 h_170 he H locs hP hD hS => ?_)
              refine lv_iload hx hb0 dL_isSo_333 (lv_at hl 7 rfl) ?_
              refine lv_icmp_ne (tgt := 437) hx hb0 dL_isSo_335 (by decide) (fun c_171 => ?_) (fun c_171 => ?_)
              · have he := he.2 c_171
                refine lv_iconst (v := (0 : Int32)) hx hb0 dL_isSo_437 (by decide) ?_
                refine lv_istore (lv' := [(12, .int (0 : Int32)), (11, .int r_4), (0, .ref (ad 0)), (1, .int y1), (2, .ref (ad 158)), (3, .ref (ad 159)), (4, .ref (ad 160)), (5, .ref (ad 161)), (6, .int y6), (7, .int y7), (8, .int y8), (9, .int y9), (10, .int y10)]) hx hb0 dL_isSo_438 hl (by decide) rfl (fun ls hl => ?_)
                refine lv_iconst (v := (0 : Int32)) hx hb0 dL_isSo_440 (by decide) ?_
                refine lv_istore (lv' := [(13, .int (0 : Int32)), (12, .int (0 : Int32)), (11, .int r_4), (0, .ref (ad 0)), (1, .int y1), (2, .ref (ad 158)), (3, .ref (ad 159)), (4, .ref (ad 160)), (5, .ref (ad 161)), (6, .int y6), (7, .int y7), (8, .int y8), (9, .int y9), (10, .int y10)]) hx hb0 dL_isSo_441 hl (by decide) rfl (fun ls hl => ?_)
                obtain ⟨n_172, he⟩ := he
                exact l_L_isSo_443 l dC dI P ad tb  hx hb0 hr hlocks hml hown hts hK hk Q n_172 y1 y6 y7 y8 y9 y10 r_4 (0 : Int32) (0 : Int32) h_170 he _ _ ls hP hD hS (lv_sub hl [3, 4, 5, 6, 7, 8, 9, 10, 11, 12, 13, 2, 1, 0] rfl)
              · have he := he.1 c_171
                refine lv_aload_n hx hb0 dL_isSo_338 rfl (lv_at hl 1 rfl) ?_
                refine lv_bipush (v := (9 : Int32)) hx hb0 dL_isSo_339 (by decide) ?_
                refine gx_vi ⟨hx, hb0, hml, hown, hts⟩ (gKC_keep _ _) hk hK hP hD hS 0 [.int (9 : Int32)] [] (c_X7_count l dC dI P ad tb (9 : Int32) h_170 _ he) gm_X7_count im_yX7_count se_yX7_count ml_RL_104 (by decide) (cE_t0 _) rfl rfl rfl ⟨Nat.le_of_ble_eq_true rfl, Nat.le_of_ble_eq_true rfl⟩ rfl hl.1 rfl (Nat.le_of_ble_eq_true rfl) dL_isSo_341 ⟨Nat.zero_le _, Nat.zero_le _⟩ (fun r_173 h_174 he H locs hP hD hS => ?_)
                refine lv_iload hx hb0 dL_isSo_344 (lv_at hl 8 rfl) ?_
                refine lv_icmp_ne (tgt := 437) hx hb0 dL_isSo_346 (by decide) (fun c_175 => ?_) (fun c_175 => ?_)
                · have he := he.2 c_175
                  refine lv_iconst (v := (0 : Int32)) hx hb0 dL_isSo_437 (by decide) ?_
                  refine lv_istore (lv' := [(12, .int (0 : Int32)), (11, .int r_4), (0, .ref (ad 0)), (1, .int y1), (2, .ref (ad 158)), (3, .ref (ad 159)), (4, .ref (ad 160)), (5, .ref (ad 161)), (6, .int y6), (7, .int y7), (8, .int y8), (9, .int y9), (10, .int y10)]) hx hb0 dL_isSo_438 hl (by decide) rfl (fun ls hl => ?_)
                  refine lv_iconst (v := (0 : Int32)) hx hb0 dL_isSo_440 (by decide) ?_
                  refine lv_istore (lv' := [(13, .int (0 : Int32)), (12, .int (0 : Int32)), (11, .int r_4), (0, .ref (ad 0)), (1, .int y1), (2, .ref (ad 158)), (3, .ref (ad 159)), (4, .ref (ad 160)), (5, .ref (ad 161)), (6, .int y6), (7, .int y7), (8, .int y8), (9, .int y9), (10, .int y10)]) hx hb0 dL_isSo_441 hl (by decide) rfl (fun ls hl => ?_)
                  obtain ⟨n_176, he⟩ := he
                  exact l_L_isSo_443 l dC dI P ad tb  hx hb0 hr hlocks hml hown hts hK hk Q n_176 y1 y6 y7 y8 y9 y10 r_4 (0 : Int32) (0 : Int32) h_174 he _ _ ls hP hD hS (lv_sub hl [3, 4, 5, 6, 7, 8, 9, 10, 11, 12, 13, 2, 1, 0] rfl)
                · have he := he.1 c_175
                  refine lv_aload_n hx hb0 dL_isSo_349 rfl (lv_at hl 1 rfl) ?_
                  refine lv_bipush (v := (10 : Int32)) hx hb0 dL_isSo_350 (by decide) ?_
                  refine gx_vi ⟨hx, hb0, hml, hown, hts⟩ (gKC_keep _ _) hk hK hP hD hS 0 [.int (10 : Int32)] [] (c_X7_count l dC dI P ad tb (10 : Int32) h_174 _ he) gm_X7_count im_yX7_count se_yX7_count ml_RL_104 (by decide) (cE_t0 _) rfl rfl rfl ⟨Nat.le_of_ble_eq_true rfl, Nat.le_of_ble_eq_true rfl⟩ rfl hl.1 rfl (Nat.le_of_ble_eq_true rfl) dL_isSo_352 ⟨Nat.zero_le _, Nat.zero_le _⟩ (fun r_177 h_178 he H locs hP hD hS => ?_)
                  refine lv_aload_n hx hb0 dL_isSo_355 rfl (lv_at hl 3 rfl) ?_
                  refine lv_iconst (v := (5 : Int32)) hx hb0 dL_isSo_356 (by decide) ?_
                  refine gx_ialdK hx hb0 hK hP 158 0 (by decide) cE_t158 rfl (vp_lit (5 : Int32) (by decide) (by decide)) 5 rfl dL_isSo_357 ?_
                  refine lv_sipush (v := (9999 : Int32)) hx hb0 dL_isSo_358 (by decide) ?_
                  refine lv_icmp_ne (tgt := 369) hx hb0 dL_isSo_361 (by decide) (fun c_179 => ?_) (fun c_179 => ?_)
                  · have he := he.2 c_179
                    refine lv_aload_n hx hb0 dL_isSo_369 rfl (lv_at hl 3 rfl) ?_
                    refine lv_iconst (v := (5 : Int32)) hx hb0 dL_isSo_370 (by decide) ?_
                    refine gx_ialdK hx hb0 hK hP 158 0 (by decide) cE_t158 rfl (vp_lit (5 : Int32) (by decide) (by decide)) 5 rfl dL_isSo_371 ?_
                    refine lv_aload_n hx hb0 dL_isSo_372 rfl (lv_at hl 3 rfl) ?_
                    refine lv_iconst (v := (4 : Int32)) hx hb0 dL_isSo_373 (by decide) ?_
                    refine gx_ialdK hx hb0 hK hP 158 0 (by decide) cE_t158 rfl (vp_lit (4 : Int32) (by decide) (by decide)) 4 rfl dL_isSo_374 ?_
                    refine lv_isub hx hb0 dL_isSo_375 ?_
                    refine gx_si ⟨hx, hb0, hml, hown, hts⟩ (gKC_keep _ _) hk hK hP hD hS [.int ((h_178 158 5) - (h_178 158 4))] [.int r_177] (c_L_size l dC dI P ad tb ((h_178 158 5) - (h_178 158 4)) h_178 _ he) gm_L_size st_yL_size ml_RL_16 rfl rfl ⟨Nat.le_of_ble_eq_true rfl, Nat.le_of_ble_eq_true rfl⟩ rfl hl.1 rfl (Nat.le_of_ble_eq_true rfl) dL_isSo_376 ⟨Nat.zero_le _, Nat.zero_le _⟩ (fun r_180 h_181 he H locs hP hD hS => ?_)
                    refine lv_icmp_ne (tgt := 437) hx hb0 dL_isSo_379 (by decide) (fun c_182 => ?_) (fun c_182 => ?_)
                    · have he := he.2 c_182
                      refine lv_iconst (v := (0 : Int32)) hx hb0 dL_isSo_437 (by decide) ?_
                      refine lv_istore (lv' := [(12, .int (0 : Int32)), (11, .int r_4), (0, .ref (ad 0)), (1, .int y1), (2, .ref (ad 158)), (3, .ref (ad 159)), (4, .ref (ad 160)), (5, .ref (ad 161)), (6, .int y6), (7, .int y7), (8, .int y8), (9, .int y9), (10, .int y10)]) hx hb0 dL_isSo_438 hl (by decide) rfl (fun ls hl => ?_)
                      refine lv_iconst (v := (0 : Int32)) hx hb0 dL_isSo_440 (by decide) ?_
                      refine lv_istore (lv' := [(13, .int (0 : Int32)), (12, .int (0 : Int32)), (11, .int r_4), (0, .ref (ad 0)), (1, .int y1), (2, .ref (ad 158)), (3, .ref (ad 159)), (4, .ref (ad 160)), (5, .ref (ad 161)), (6, .int y6), (7, .int y7), (8, .int y8), (9, .int y9), (10, .int y10)]) hx hb0 dL_isSo_441 hl (by decide) rfl (fun ls hl => ?_)
                      obtain ⟨n_183, he⟩ := he
                      exact l_L_isSo_443 l dC dI P ad tb  hx hb0 hr hlocks hml hown hts hK hk Q n_183 y1 y6 y7 y8 y9 y10 r_4 (0 : Int32) (0 : Int32) h_181 he _ _ ls hP hD hS (lv_sub hl [3, 4, 5, 6, 7, 8, 9, 10, 11, 12, 13, 2, 1, 0] rfl)
                    · have he := he.1 c_182
                      refine lv_aload_n hx hb0 dL_isSo_382 rfl (lv_at hl 1 rfl) ?_
                      refine lv_bipush (v := (11 : Int32)) hx hb0 dL_isSo_383 (by decide) ?_
                      refine gx_vi ⟨hx, hb0, hml, hown, hts⟩ (gKC_keep _ _) hk hK hP hD hS 0 [.int (11 : Int32)] [] (c_X7_count l dC dI P ad tb (11 : Int32) h_181 _ he) gm_X7_count im_yX7_count se_yX7_count ml_RL_104 (by decide) (cE_t0 _) rfl rfl rfl ⟨Nat.le_of_ble_eq_true rfl, Nat.le_of_ble_eq_true rfl⟩ rfl hl.1 rfl (Nat.le_of_ble_eq_true rfl) dL_isSo_385 ⟨Nat.zero_le _, Nat.zero_le _⟩ (fun r_184 h_185 he H locs hP hD hS => ?_)
                      refine lv_aload_n hx hb0 dL_isSo_388 rfl (lv_at hl 3 rfl) ?_
                      refine lv_iconst (v := (0 : Int32)) hx hb0 dL_isSo_389 (by decide) ?_
                      refine gx_ialdK hx hb0 hK hP 158 0 (by decide) cE_t158 rfl (vp_lit (0 : Int32) (by decide) (by decide)) 0 rfl dL_isSo_390 ?_
                      refine lv_bipush (v := (30 : Int32)) hx hb0 dL_isSo_391 (by decide) ?_
                      refine lv_iadd hx hb0 dL_isSo_393 ?_
                      refine lv_icmp_ne (tgt := 437) hx hb0 dL_isSo_394 (by decide) (fun c_186 => ?_) (fun c_186 => ?_)
                      · have he := he.2 c_186
                        refine lv_iconst (v := (0 : Int32)) hx hb0 dL_isSo_437 (by decide) ?_
                        refine lv_istore (lv' := [(12, .int (0 : Int32)), (11, .int r_4), (0, .ref (ad 0)), (1, .int y1), (2, .ref (ad 158)), (3, .ref (ad 159)), (4, .ref (ad 160)), (5, .ref (ad 161)), (6, .int y6), (7, .int y7), (8, .int y8), (9, .int y9), (10, .int y10)]) hx hb0 dL_isSo_438 hl (by decide) rfl (fun ls hl => ?_)
                        refine lv_iconst (v := (0 : Int32)) hx hb0 dL_isSo_440 (by decide) ?_
                        refine lv_istore (lv' := [(13, .int (0 : Int32)), (12, .int (0 : Int32)), (11, .int r_4), (0, .ref (ad 0)), (1, .int y1), (2, .ref (ad 158)), (3, .ref (ad 159)), (4, .ref (ad 160)), (5, .ref (ad 161)), (6, .int y6), (7, .int y7), (8, .int y8), (9, .int y9), (10, .int y10)]) hx hb0 dL_isSo_441 hl (by decide) rfl (fun ls hl => ?_)
                        obtain ⟨n_187, he⟩ := he
                        exact l_L_isSo_443 l dC dI P ad tb  hx hb0 hr hlocks hml hown hts hK hk Q n_187 y1 y6 y7 y8 y9 y10 r_4 (0 : Int32) (0 : Int32) h_185 he _ _ ls hP hD hS (lv_sub hl [3, 4, 5, 6, 7, 8, 9, 10, 11, 12, 13, 2, 1, 0] rfl)
                      · have he := he.1 c_186
                        refine lv_aload_n hx hb0 dL_isSo_397 rfl (lv_at hl 1 rfl) ?_
                        refine lv_bipush (v := (12 : Int32)) hx hb0 dL_isSo_398 (by decide) ?_
                        refine gx_vi ⟨hx, hb0, hml, hown, hts⟩ (gKC_keep _ _) hk hK hP hD hS 0 [.int (12 : Int32)] [] (c_X7_count l dC dI P ad tb (12 : Int32) h_185 _ he) gm_X7_count im_yX7_count se_yX7_count ml_RL_104 (by decide) (cE_t0 _) rfl rfl rfl ⟨Nat.le_of_ble_eq_true rfl, Nat.le_of_ble_eq_true rfl⟩ rfl hl.1 rfl (Nat.le_of_ble_eq_true rfl) dL_isSo_400 ⟨Nat.zero_le _, Nat.zero_le _⟩ (fun r_188 h_189 he H locs hP hD hS => ?_)
                        refine lv_aload_n hx hb0 dL_isSo_403 rfl (lv_at hl 3 rfl) ?_
                        refine lv_iconst (v := (1 : Int32)) hx hb0 dL_isSo_404 (by decide) ?_
                        refine gx_ialdK hx hb0 hK hP 158 0 (by decide) cE_t158 rfl (vp_lit (1 : Int32) (by decide) (by decide)) 1 rfl dL_isSo_405 ?_
                        refine lv_icmp_ne (tgt := 437) hx hb0 dL_isSo_406 (by decide) (fun c_190 => ?_) (fun c_190 => ?_)
                        · have he := he.2 c_190
                          refine lv_iconst (v := (0 : Int32)) hx hb0 dL_isSo_437 (by decide) ?_
                          refine lv_istore (lv' := [(12, .int (0 : Int32)), (11, .int r_4), (0, .ref (ad 0)), (1, .int y1), (2, .ref (ad 158)), (3, .ref (ad 159)), (4, .ref (ad 160)), (5, .ref (ad 161)), (6, .int y6), (7, .int y7), (8, .int y8), (9, .int y9), (10, .int y10)]) hx hb0 dL_isSo_438 hl (by decide) rfl (fun ls hl => ?_)
                          refine lv_iconst (v := (0 : Int32)) hx hb0 dL_isSo_440 (by decide) ?_
                          refine lv_istore (lv' := [(13, .int (0 : Int32)), (12, .int (0 : Int32)), (11, .int r_4), (0, .ref (ad 0)), (1, .int y1), (2, .ref (ad 158)), (3, .ref (ad 159)), (4, .ref (ad 160)), (5, .ref (ad 161)), (6, .int y6), (7, .int y7), (8, .int y8), (9, .int y9), (10, .int y10)]) hx hb0 dL_isSo_441 hl (by decide) rfl (fun ls hl => ?_)
                          obtain ⟨n_191, he⟩ := he
                          exact l_L_isSo_443 l dC dI P ad tb  hx hb0 hr hlocks hml hown hts hK hk Q n_191 y1 y6 y7 y8 y9 y10 r_4 (0 : Int32) (0 : Int32) h_189 he _ _ ls hP hD hS (lv_sub hl [3, 4, 5, 6, 7, 8, 9, 10, 11, 12, 13, 2, 1, 0] rfl)
                        · have he := he.1 c_190
                          refine lv_aload_n hx hb0 dL_isSo_409 rfl (lv_at hl 1 rfl) ?_
                          refine lv_bipush (v := (13 : Int32)) hx hb0 dL_isSo_410 (by decide) ?_
                          refine gx_vi ⟨hx, hb0, hml, hown, hts⟩ (gKC_keep _ _) hk hK hP hD hS 0 [.int (13 : Int32)] [] (c_X7_count l dC dI P ad tb (13 : Int32) h_189 _ he) gm_X7_count im_yX7_count se_yX7_count ml_RL_104 (by decide) (cE_t0 _) rfl rfl rfl ⟨Nat.le_of_ble_eq_true rfl, Nat.le_of_ble_eq_true rfl⟩ rfl hl.1 rfl (Nat.le_of_ble_eq_true rfl) dL_isSo_412 ⟨Nat.zero_le _, Nat.zero_le _⟩ (fun r_192 h_193 he H locs hP hD hS => ?_)
                          refine lv_aload_n hx hb0 dL_isSo_415 rfl (lv_at hl 3 rfl) ?_
                          refine lv_iconst (v := (2 : Int32)) hx hb0 dL_isSo_416 (by decide) ?_
                          refine gx_ialdK hx hb0 hK hP 158 0 (by decide) cE_t158 rfl (vp_lit (2 : Int32) (by decide) (by decide)) 2 rfl dL_isSo_417 ?_
                          refine lv_icmp_ne (tgt := 437) hx hb0 dL_isSo_418 (by decide) (fun c_194 => ?_) (fun c_194 => ?_)
                          · have he := he.2 c_194
                            refine lv_iconst (v := (0 : Int32)) hx hb0 dL_isSo_437 (by decide) ?_
                            refine lv_istore (lv' := [(12, .int (0 : Int32)), (11, .int r_4), (0, .ref (ad 0)), (1, .int y1), (2, .ref (ad 158)), (3, .ref (ad 159)), (4, .ref (ad 160)), (5, .ref (ad 161)), (6, .int y6), (7, .int y7), (8, .int y8), (9, .int y9), (10, .int y10)]) hx hb0 dL_isSo_438 hl (by decide) rfl (fun ls hl => ?_)
                            refine lv_iconst (v := (0 : Int32)) hx hb0 dL_isSo_440 (by decide) ?_
                            refine lv_istore (lv' := [(13, .int (0 : Int32)), (12, .int (0 : Int32)), (11, .int r_4), (0, .ref (ad 0)), (1, .int y1), (2, .ref (ad 158)), (3, .ref (ad 159)), (4, .ref (ad 160)), (5, .ref (ad 161)), (6, .int y6), (7, .int y7), (8, .int y8), (9, .int y9), (10, .int y10)]) hx hb0 dL_isSo_441 hl (by decide) rfl (fun ls hl => ?_)
                            obtain ⟨n_195, he⟩ := he
                            exact l_L_isSo_443 l dC dI P ad tb  hx hb0 hr hlocks hml hown hts hK hk Q n_195 y1 y6 y7 y8 y9 y10 r_4 (0 : Int32) (0 : Int32) h_193 he _ _ ls hP hD hS (lv_sub hl [3, 4, 5, 6, 7, 8, 9, 10, 11, 12, 13, 2, 1, 0] rfl)
                          · have he := he.1 c_194
                            refine lv_aload_n hx hb0 dL_isSo_421 rfl (lv_at hl 1 rfl) ?_
                            refine lv_bipush (v := (14 : Int32)) hx hb0 dL_isSo_422 (by decide) ?_
                            refine gx_vi ⟨hx, hb0, hml, hown, hts⟩ (gKC_keep _ _) hk hK hP hD hS 0 [.int (14 : Int32)] [] (c_X7_count l dC dI P ad tb (14 : Int32) h_193 _ he) gm_X7_count im_yX7_count se_yX7_count ml_RL_104 (by decide) (cE_t0 _) rfl rfl rfl ⟨Nat.le_of_ble_eq_true rfl, Nat.le_of_ble_eq_true rfl⟩ rfl hl.1 rfl (Nat.le_of_ble_eq_true rfl) dL_isSo_424 ⟨Nat.zero_le _, Nat.zero_le _⟩ (fun r_196 h_197 he H locs hP hD hS => ?_)
                            refine lv_aload_n hx hb0 dL_isSo_427 rfl (lv_at hl 3 rfl) ?_
                            refine lv_iconst (v := (3 : Int32)) hx hb0 dL_isSo_428 (by decide) ?_
                            refine gx_ialdK hx hb0 hK hP 158 0 (by decide) cE_t158 rfl (vp_lit (3 : Int32) (by decide) (by decide)) 3 rfl dL_isSo_429 ?_
                            refine lv_icmp_ne (tgt := 437) hx hb0 dL_isSo_430 (by decide) (fun c_198 => ?_) (fun c_198 => ?_)
                            · have he := he.2 c_198
                              refine lv_iconst (v := (0 : Int32)) hx hb0 dL_isSo_437 (by decide) ?_
                              refine lv_istore (lv' := [(12, .int (0 : Int32)), (11, .int r_4), (0, .ref (ad 0)), (1, .int y1), (2, .ref (ad 158)), (3, .ref (ad 159)), (4, .ref (ad 160)), (5, .ref (ad 161)), (6, .int y6), (7, .int y7), (8, .int y8), (9, .int y9), (10, .int y10)]) hx hb0 dL_isSo_438 hl (by decide) rfl (fun ls hl => ?_)
                              refine lv_iconst (v := (0 : Int32)) hx hb0 dL_isSo_440 (by decide) ?_
                              refine lv_istore (lv' := [(13, .int (0 : Int32)), (12, .int (0 : Int32)), (11, .int r_4), (0, .ref (ad 0)), (1, .int y1), (2, .ref (ad 158)), (3, .ref (ad 159)), (4, .ref (ad 160)), (5, .ref (ad 161)), (6, .int y6), (7, .int y7), (8, .int y8), (9, .int y9), (10, .int y10)]) hx hb0 dL_isSo_441 hl (by decide) rfl (fun ls hl => ?_)
                              obtain ⟨n_199, he⟩ := he
                              exact l_L_isSo_443 l dC dI P ad tb  hx hb0 hr hlocks hml hown hts hK hk Q n_199 y1 y6 y7 y8 y9 y10 r_4 (0 : Int32) (0 : Int32) h_197 he _ _ ls hP hD hS (lv_sub hl [3, 4, 5, 6, 7, 8, 9, 10, 11, 12, 13, 2, 1, 0] rfl)
                            · have he := he.1 c_198
                              refine lv_iconst (v := (1 : Int32)) hx hb0 dL_isSo_433 (by decide) ?_
                              refine lv_goto (tgt := 438) hx hb0 dL_isSo_434 (by decide) ?_
                              refine lv_istore (lv' := [(12, .int (1 : Int32)), (11, .int r_4), (0, .ref (ad 0)), (1, .int y1), (2, .ref (ad 158)), (3, .ref (ad 159)), (4, .ref (ad 160)), (5, .ref (ad 161)), (6, .int y6), (7, .int y7), (8, .int y8), (9, .int y9), (10, .int y10)]) hx hb0 dL_isSo_438 hl (by decide) rfl (fun ls hl => ?_)
                              refine lv_iconst (v := (0 : Int32)) hx hb0 dL_isSo_440 (by decide) ?_
                              refine lv_istore (lv' := [(13, .int (0 : Int32)), (12, .int (1 : Int32)), (11, .int r_4), (0, .ref (ad 0)), (1, .int y1), (2, .ref (ad 158)), (3, .ref (ad 159)), (4, .ref (ad 160)), (5, .ref (ad 161)), (6, .int y6), (7, .int y7), (8, .int y8), (9, .int y9), (10, .int y10)]) hx hb0 dL_isSo_441 hl (by decide) rfl (fun ls hl => ?_)
                              obtain ⟨n_200, he⟩ := he
                              exact l_L_isSo_443 l dC dI P ad tb  hx hb0 hr hlocks hml hown hts hK hk Q n_200 y1 y6 y7 y8 y9 y10 r_4 (1 : Int32) (0 : Int32) h_197 he _ _ ls hP hD hS (lv_sub hl [3, 4, 5, 6, 7, 8, 9, 10, 11, 12, 13, 2, 1, 0] rfl)
                  · have he := he.1 c_179
                    refine lv_bipush (v := (-6 : Int32)) hx hb0 dL_isSo_364 (by decide) ?_
                    refine lv_goto (tgt := 379) hx hb0 dL_isSo_366 (by decide) ?_
                    refine lv_icmp_ne (tgt := 437) hx hb0 dL_isSo_379 (by decide) (fun c_201 => ?_) (fun c_201 => ?_)
                    · have he := he.2 c_201
                      refine lv_iconst (v := (0 : Int32)) hx hb0 dL_isSo_437 (by decide) ?_
                      refine lv_istore (lv' := [(12, .int (0 : Int32)), (11, .int r_4), (0, .ref (ad 0)), (1, .int y1), (2, .ref (ad 158)), (3, .ref (ad 159)), (4, .ref (ad 160)), (5, .ref (ad 161)), (6, .int y6), (7, .int y7), (8, .int y8), (9, .int y9), (10, .int y10)]) hx hb0 dL_isSo_438 hl (by decide) rfl (fun ls hl => ?_)
                      refine lv_iconst (v := (0 : Int32)) hx hb0 dL_isSo_440 (by decide) ?_
                      refine lv_istore (lv' := [(13, .int (0 : Int32)), (12, .int (0 : Int32)), (11, .int r_4), (0, .ref (ad 0)), (1, .int y1), (2, .ref (ad 158)), (3, .ref (ad 159)), (4, .ref (ad 160)), (5, .ref (ad 161)), (6, .int y6), (7, .int y7), (8, .int y8), (9, .int y9), (10, .int y10)]) hx hb0 dL_isSo_441 hl (by decide) rfl (fun ls hl => ?_)
                      obtain ⟨n_202, he⟩ := he
                      exact l_L_isSo_443 l dC dI P ad tb  hx hb0 hr hlocks hml hown hts hK hk Q n_202 y1 y6 y7 y8 y9 y10 r_4 (0 : Int32) (0 : Int32) h_178 he _ _ ls hP hD hS (lv_sub hl [3, 4, 5, 6, 7, 8, 9, 10, 11, 12, 13, 2, 1, 0] rfl)
                    · have he := he.1 c_201
                      refine lv_aload_n hx hb0 dL_isSo_382 rfl (lv_at hl 1 rfl) ?_
                      refine lv_bipush (v := (11 : Int32)) hx hb0 dL_isSo_383 (by decide) ?_
                      refine gx_vi ⟨hx, hb0, hml, hown, hts⟩ (gKC_keep _ _) hk hK hP hD hS 0 [.int (11 : Int32)] [] (c_X7_count l dC dI P ad tb (11 : Int32) h_178 _ he) gm_X7_count im_yX7_count se_yX7_count ml_RL_104 (by decide) (cE_t0 _) rfl rfl rfl ⟨Nat.le_of_ble_eq_true rfl, Nat.le_of_ble_eq_true rfl⟩ rfl hl.1 rfl (Nat.le_of_ble_eq_true rfl) dL_isSo_385 ⟨Nat.zero_le _, Nat.zero_le _⟩ (fun r_203 h_204 he H locs hP hD hS => ?_)
                      refine lv_aload_n hx hb0 dL_isSo_388 rfl (lv_at hl 3 rfl) ?_
                      refine lv_iconst (v := (0 : Int32)) hx hb0 dL_isSo_389 (by decide) ?_
                      refine gx_ialdK hx hb0 hK hP 158 0 (by decide) cE_t158 rfl (vp_lit (0 : Int32) (by decide) (by decide)) 0 rfl dL_isSo_390 ?_
                      refine lv_bipush (v := (30 : Int32)) hx hb0 dL_isSo_391 (by decide) ?_
                      refine lv_iadd hx hb0 dL_isSo_393 ?_
                      refine lv_icmp_ne (tgt := 437) hx hb0 dL_isSo_394 (by decide) (fun c_205 => ?_) (fun c_205 => ?_)
                      · have he := he.2 c_205
                        refine lv_iconst (v := (0 : Int32)) hx hb0 dL_isSo_437 (by decide) ?_
                        refine lv_istore (lv' := [(12, .int (0 : Int32)), (11, .int r_4), (0, .ref (ad 0)), (1, .int y1), (2, .ref (ad 158)), (3, .ref (ad 159)), (4, .ref (ad 160)), (5, .ref (ad 161)), (6, .int y6), (7, .int y7), (8, .int y8), (9, .int y9), (10, .int y10)]) hx hb0 dL_isSo_438 hl (by decide) rfl (fun ls hl => ?_)
                        refine lv_iconst (v := (0 : Int32)) hx hb0 dL_isSo_440 (by decide) ?_
                        refine lv_istore (lv' := [(13, .int (0 : Int32)), (12, .int (0 : Int32)), (11, .int r_4), (0, .ref (ad 0)), (1, .int y1), (2, .ref (ad 158)), (3, .ref (ad 159)), (4, .ref (ad 160)), (5, .ref (ad 161)), (6, .int y6), (7, .int y7), (8, .int y8), (9, .int y9), (10, .int y10)]) hx hb0 dL_isSo_441 hl (by decide) rfl (fun ls hl => ?_)
                        obtain ⟨n_206, he⟩ := he
                        exact l_L_isSo_443 l dC dI P ad tb  hx hb0 hr hlocks hml hown hts hK hk Q n_206 y1 y6 y7 y8 y9 y10 r_4 (0 : Int32) (0 : Int32) h_204 he _ _ ls hP hD hS (lv_sub hl [3, 4, 5, 6, 7, 8, 9, 10, 11, 12, 13, 2, 1, 0] rfl)
                      · have he := he.1 c_205
                        refine lv_aload_n hx hb0 dL_isSo_397 rfl (lv_at hl 1 rfl) ?_
                        refine lv_bipush (v := (12 : Int32)) hx hb0 dL_isSo_398 (by decide) ?_
                        refine gx_vi ⟨hx, hb0, hml, hown, hts⟩ (gKC_keep _ _) hk hK hP hD hS 0 [.int (12 : Int32)] [] (c_X7_count l dC dI P ad tb (12 : Int32) h_204 _ he) gm_X7_count im_yX7_count se_yX7_count ml_RL_104 (by decide) (cE_t0 _) rfl rfl rfl ⟨Nat.le_of_ble_eq_true rfl, Nat.le_of_ble_eq_true rfl⟩ rfl hl.1 rfl (Nat.le_of_ble_eq_true rfl) dL_isSo_400 ⟨Nat.zero_le _, Nat.zero_le _⟩ (fun r_207 h_208 he H locs hP hD hS => ?_)
                        refine lv_aload_n hx hb0 dL_isSo_403 rfl (lv_at hl 3 rfl) ?_
                        refine lv_iconst (v := (1 : Int32)) hx hb0 dL_isSo_404 (by decide) ?_
                        refine gx_ialdK hx hb0 hK hP 158 0 (by decide) cE_t158 rfl (vp_lit (1 : Int32) (by decide) (by decide)) 1 rfl dL_isSo_405 ?_
                        refine lv_icmp_ne (tgt := 437) hx hb0 dL_isSo_406 (by decide) (fun c_209 => ?_) (fun c_209 => ?_)
                        · have he := he.2 c_209
                          refine lv_iconst (v := (0 : Int32)) hx hb0 dL_isSo_437 (by decide) ?_
                          refine lv_istore (lv' := [(12, .int (0 : Int32)), (11, .int r_4), (0, .ref (ad 0)), (1, .int y1), (2, .ref (ad 158)), (3, .ref (ad 159)), (4, .ref (ad 160)), (5, .ref (ad 161)), (6, .int y6), (7, .int y7), (8, .int y8), (9, .int y9), (10, .int y10)]) hx hb0 dL_isSo_438 hl (by decide) rfl (fun ls hl => ?_)
                          refine lv_iconst (v := (0 : Int32)) hx hb0 dL_isSo_440 (by decide) ?_
                          refine lv_istore (lv' := [(13, .int (0 : Int32)), (12, .int (0 : Int32)), (11, .int r_4), (0, .ref (ad 0)), (1, .int y1), (2, .ref (ad 158)), (3, .ref (ad 159)), (4, .ref (ad 160)), (5, .ref (ad 161)), (6, .int y6), (7, .int y7), (8, .int y8), (9, .int y9), (10, .int y10)]) hx hb0 dL_isSo_441 hl (by decide) rfl (fun ls hl => ?_)
                          obtain ⟨n_210, he⟩ := he
                          exact l_L_isSo_443 l dC dI P ad tb  hx hb0 hr hlocks hml hown hts hK hk Q n_210 y1 y6 y7 y8 y9 y10 r_4 (0 : Int32) (0 : Int32) h_208 he _ _ ls hP hD hS (lv_sub hl [3, 4, 5, 6, 7, 8, 9, 10, 11, 12, 13, 2, 1, 0] rfl)
                        · have he := he.1 c_209
                          refine lv_aload_n hx hb0 dL_isSo_409 rfl (lv_at hl 1 rfl) ?_
                          refine lv_bipush (v := (13 : Int32)) hx hb0 dL_isSo_410 (by decide) ?_
                          refine gx_vi ⟨hx, hb0, hml, hown, hts⟩ (gKC_keep _ _) hk hK hP hD hS 0 [.int (13 : Int32)] [] (c_X7_count l dC dI P ad tb (13 : Int32) h_208 _ he) gm_X7_count im_yX7_count se_yX7_count ml_RL_104 (by decide) (cE_t0 _) rfl rfl rfl ⟨Nat.le_of_ble_eq_true rfl, Nat.le_of_ble_eq_true rfl⟩ rfl hl.1 rfl (Nat.le_of_ble_eq_true rfl) dL_isSo_412 ⟨Nat.zero_le _, Nat.zero_le _⟩ (fun r_211 h_212 he H locs hP hD hS => ?_)
                          refine lv_aload_n hx hb0 dL_isSo_415 rfl (lv_at hl 3 rfl) ?_
                          refine lv_iconst (v := (2 : Int32)) hx hb0 dL_isSo_416 (by decide) ?_
                          refine gx_ialdK hx hb0 hK hP 158 0 (by decide) cE_t158 rfl (vp_lit (2 : Int32) (by decide) (by decide)) 2 rfl dL_isSo_417 ?_
                          refine lv_icmp_ne (tgt := 437) hx hb0 dL_isSo_418 (by decide) (fun c_213 => ?_) (fun c_213 => ?_)
                          · have he := he.2 c_213
                            refine lv_iconst (v := (0 : Int32)) hx hb0 dL_isSo_437 (by decide) ?_
                            refine lv_istore (lv' := [(12, .int (0 : Int32)), (11, .int r_4), (0, .ref (ad 0)), (1, .int y1), (2, .ref (ad 158)), (3, .ref (ad 159)), (4, .ref (ad 160)), (5, .ref (ad 161)), (6, .int y6), (7, .int y7), (8, .int y8), (9, .int y9), (10, .int y10)]) hx hb0 dL_isSo_438 hl (by decide) rfl (fun ls hl => ?_)
                            refine lv_iconst (v := (0 : Int32)) hx hb0 dL_isSo_440 (by decide) ?_
                            refine lv_istore (lv' := [(13, .int (0 : Int32)), (12, .int (0 : Int32)), (11, .int r_4), (0, .ref (ad 0)), (1, .int y1), (2, .ref (ad 158)), (3, .ref (ad 159)), (4, .ref (ad 160)), (5, .ref (ad 161)), (6, .int y6), (7, .int y7), (8, .int y8), (9, .int y9), (10, .int y10)]) hx hb0 dL_isSo_441 hl (by decide) rfl (fun ls hl => ?_)
                            obtain ⟨n_214, he⟩ := he
                            exact l_L_isSo_443 l dC dI P ad tb  hx hb0 hr hlocks hml hown hts hK hk Q n_214 y1 y6 y7 y8 y9 y10 r_4 (0 : Int32) (0 : Int32) h_212 he _ _ ls hP hD hS (lv_sub hl [3, 4, 5, 6, 7, 8, 9, 10, 11, 12, 13, 2, 1, 0] rfl)
                          · have he := he.1 c_213
                            refine lv_aload_n hx hb0 dL_isSo_421 rfl (lv_at hl 1 rfl) ?_
                            refine lv_bipush (v := (14 : Int32)) hx hb0 dL_isSo_422 (by decide) ?_
                            refine gx_vi ⟨hx, hb0, hml, hown, hts⟩ (gKC_keep _ _) hk hK hP hD hS 0 [.int (14 : Int32)] [] (c_X7_count l dC dI P ad tb (14 : Int32) h_212 _ he) gm_X7_count im_yX7_count se_yX7_count ml_RL_104 (by decide) (cE_t0 _) rfl rfl rfl ⟨Nat.le_of_ble_eq_true rfl, Nat.le_of_ble_eq_true rfl⟩ rfl hl.1 rfl (Nat.le_of_ble_eq_true rfl) dL_isSo_424 ⟨Nat.zero_le _, Nat.zero_le _⟩ (fun r_215 h_216 he H locs hP hD hS => ?_)
                            refine lv_aload_n hx hb0 dL_isSo_427 rfl (lv_at hl 3 rfl) ?_
                            refine lv_iconst (v := (3 : Int32)) hx hb0 dL_isSo_428 (by decide) ?_
                            refine gx_ialdK hx hb0 hK hP 158 0 (by decide) cE_t158 rfl (vp_lit (3 : Int32) (by decide) (by decide)) 3 rfl dL_isSo_429 ?_
                            refine lv_icmp_ne (tgt := 437) hx hb0 dL_isSo_430 (by decide) (fun c_217 => ?_) (fun c_217 => ?_)
                            · have he := he.2 c_217
                              refine lv_iconst (v := (0 : Int32)) hx hb0 dL_isSo_437 (by decide) ?_
                              refine lv_istore (lv' := [(12, .int (0 : Int32)), (11, .int r_4), (0, .ref (ad 0)), (1, .int y1), (2, .ref (ad 158)), (3, .ref (ad 159)), (4, .ref (ad 160)), (5, .ref (ad 161)), (6, .int y6), (7, .int y7), (8, .int y8), (9, .int y9), (10, .int y10)]) hx hb0 dL_isSo_438 hl (by decide) rfl (fun ls hl => ?_)
                              refine lv_iconst (v := (0 : Int32)) hx hb0 dL_isSo_440 (by decide) ?_
                              refine lv_istore (lv' := [(13, .int (0 : Int32)), (12, .int (0 : Int32)), (11, .int r_4), (0, .ref (ad 0)), (1, .int y1), (2, .ref (ad 158)), (3, .ref (ad 159)), (4, .ref (ad 160)), (5, .ref (ad 161)), (6, .int y6), (7, .int y7), (8, .int y8), (9, .int y9), (10, .int y10)]) hx hb0 dL_isSo_441 hl (by decide) rfl (fun ls hl => ?_)
                              obtain ⟨n_218, he⟩ := he
                              exact l_L_isSo_443 l dC dI P ad tb  hx hb0 hr hlocks hml hown hts hK hk Q n_218 y1 y6 y7 y8 y9 y10 r_4 (0 : Int32) (0 : Int32) h_216 he _ _ ls hP hD hS (lv_sub hl [3, 4, 5, 6, 7, 8, 9, 10, 11, 12, 13, 2, 1, 0] rfl)
                            · have he := he.1 c_217
                              refine lv_iconst (v := (1 : Int32)) hx hb0 dL_isSo_433 (by decide) ?_
                              refine lv_goto (tgt := 438) hx hb0 dL_isSo_434 (by decide) ?_
                              refine lv_istore (lv' := [(12, .int (1 : Int32)), (11, .int r_4), (0, .ref (ad 0)), (1, .int y1), (2, .ref (ad 158)), (3, .ref (ad 159)), (4, .ref (ad 160)), (5, .ref (ad 161)), (6, .int y6), (7, .int y7), (8, .int y8), (9, .int y9), (10, .int y10)]) hx hb0 dL_isSo_438 hl (by decide) rfl (fun ls hl => ?_)
                              refine lv_iconst (v := (0 : Int32)) hx hb0 dL_isSo_440 (by decide) ?_
                              refine lv_istore (lv' := [(13, .int (0 : Int32)), (12, .int (1 : Int32)), (11, .int r_4), (0, .ref (ad 0)), (1, .int y1), (2, .ref (ad 158)), (3, .ref (ad 159)), (4, .ref (ad 160)), (5, .ref (ad 161)), (6, .int y6), (7, .int y7), (8, .int y8), (9, .int y9), (10, .int y10)]) hx hb0 dL_isSo_441 hl (by decide) rfl (fun ls hl => ?_)
                              obtain ⟨n_219, he⟩ := he
                              exact l_L_isSo_443 l dC dI P ad tb  hx hb0 hr hlocks hml hown hts hK hk Q n_219 y1 y6 y7 y8 y9 y10 r_4 (1 : Int32) (0 : Int32) h_216 he _ _ ls hP hD hS (lv_sub hl [3, 4, 5, 6, 7, 8, 9, 10, 11, 12, 13, 2, 1, 0] rfl)
    · have he := he.2 c_3
      refine lv_aload_n hx hb0 dL_isSo_187 rfl (lv_at hl 3 rfl) ?_
      refine lv_iload hx hb0 dL_isSo_188 (lv_at hl 11 rfl) ?_
      obtain ⟨v_220, he⟩ := he
      refine gx_iald hx hb0 hK hP 159 0 (by decide) cE_t159 rfl v_220 dL_isSo_190 ?_
      refine lv_sipush (v := (9000 : Int32)) hx hb0 dL_isSo_191 (by decide) ?_
      refine lv_icmp_ge (tgt := 214) hx hb0 dL_isSo_194 (by decide) (fun c_221 => ?_) (fun c_221 => ?_)
      · have he := he.1 c_221
        refine lv_iconst (v := (0 : Int32)) hx hb0 dL_isSo_214 (by decide) ?_
        refine lv_istore (lv' := [(12, .int (0 : Int32)), (0, .ref (ad 0)), (1, .int y1), (2, .ref (ad 158)), (3, .ref (ad 159)), (4, .ref (ad 160)), (5, .ref (ad 161)), (6, .int y6), (7, .int y7), (8, .int y8), (9, .int y9), (10, .int y10), (11, .int y11)]) hx hb0 dL_isSo_215 hl (by decide) rfl (fun ls hl => ?_)
        refine lv_iload hx hb0 dL_isSo_217 (lv_at hl 0 rfl) ?_
        refine lv_if_eq (tgt := 249) hx hb0 dL_isSo_219 (by decide) (fun c_222 => ?_) (fun c_222 => ?_)
        · refine lv_iload hx hb0 dL_isSo_249 (lv_at hl 11 rfl) ?_
          refine lv_istore (lv' := [(10, .int y10), (12, .int (0 : Int32)), (0, .ref (ad 0)), (1, .int y1), (2, .ref (ad 158)), (3, .ref (ad 159)), (4, .ref (ad 160)), (5, .ref (ad 161)), (6, .int y6), (7, .int y7), (8, .int y8), (9, .int y9), (11, .int y11)]) hx hb0 dL_isSo_251 hl (by decide) rfl (fun ls hl => ?_)
          obtain ⟨x_223, ex_223⟩ : ∃ y : Int32, y = y11 + (-1) := ⟨_, rfl⟩
          have he := he x_223 ex_223
          refine lv_iinc (v := x_223) (lv' := [(11, .int x_223), (10, .int y10), (12, .int (0 : Int32)), (0, .ref (ad 0)), (1, .int y1), (2, .ref (ad 158)), (3, .ref (ad 159)), (4, .ref (ad 160)), (5, .ref (ad 161)), (6, .int y6), (7, .int y7), (8, .int y8), (9, .int y9)]) hx hb0 dL_isSo_253 hl (k := 12) rfl (by rw [ex_223]; rfl) (by decide) rfl (fun ls hl => ?_)
          refine lv_goto (tgt := 182) hx hb0 dL_isSo_256 (by decide) ?_
          exact ih y1 y6 y7 y8 y9 y10 x_223 h0 he _ _ ls hP hD hS (lv_sub hl [3, 4, 5, 6, 7, 8, 9, 10, 11, 12, 1, 0] rfl)
        · exact absurd c_222 (by decide)
      · have he := he.2 c_221
        refine lv_iload hx hb0 dL_isSo_197 (lv_at hl 11 rfl) ?_
        refine lv_aload_n hx hb0 dL_isSo_199 rfl (lv_at hl 2 rfl) ?_
        refine lv_aload_n hx hb0 dL_isSo_200 rfl (lv_at hl 3 rfl) ?_
        refine gx_si ⟨hx, hb0, hml, hown, hts⟩ (gKC_keep _ _) hk hK hP hD hS [.int y11, .ref (ad 158), .ref (ad 159)] [] (c_L_height l dC dI P ad tb y11 h0 _ he) gm_L_height st_yL_height ml_RL_20 rfl rfl ⟨Nat.le_of_ble_eq_true rfl, Nat.le_of_ble_eq_true rfl⟩ rfl hl.1 rfl (Nat.le_of_ble_eq_true rfl) dL_isSo_201 ⟨Nat.zero_le _, Nat.zero_le _⟩ (fun r_224 h_225 he H locs hP hD hS => ?_)
        refine lv_aload_n hx hb0 dL_isSo_204 rfl (lv_at hl 2 rfl) ?_
        refine lv_iconst (v := (3 : Int32)) hx hb0 dL_isSo_205 (by decide) ?_
        refine gx_ialdK hx hb0 hK hP 158 0 (by decide) cE_t158 rfl (vp_lit (3 : Int32) (by decide) (by decide)) 3 rfl dL_isSo_206 ?_
        refine lv_icmp_lt (tgt := 214) hx hb0 dL_isSo_207 (by decide) (fun c_226 => ?_) (fun c_226 => ?_)
        · have he := he.1 c_226
          refine lv_iconst (v := (0 : Int32)) hx hb0 dL_isSo_214 (by decide) ?_
          refine lv_istore (lv' := [(12, .int (0 : Int32)), (0, .ref (ad 0)), (1, .int y1), (2, .ref (ad 158)), (3, .ref (ad 159)), (4, .ref (ad 160)), (5, .ref (ad 161)), (6, .int y6), (7, .int y7), (8, .int y8), (9, .int y9), (10, .int y10), (11, .int y11)]) hx hb0 dL_isSo_215 hl (by decide) rfl (fun ls hl => ?_)
          refine lv_iload hx hb0 dL_isSo_217 (lv_at hl 0 rfl) ?_
          refine lv_if_eq (tgt := 249) hx hb0 dL_isSo_219 (by decide) (fun c_227 => ?_) (fun c_227 => ?_)
          · refine lv_iload hx hb0 dL_isSo_249 (lv_at hl 11 rfl) ?_
            refine lv_istore (lv' := [(10, .int y10), (12, .int (0 : Int32)), (0, .ref (ad 0)), (1, .int y1), (2, .ref (ad 158)), (3, .ref (ad 159)), (4, .ref (ad 160)), (5, .ref (ad 161)), (6, .int y6), (7, .int y7), (8, .int y8), (9, .int y9), (11, .int y11)]) hx hb0 dL_isSo_251 hl (by decide) rfl (fun ls hl => ?_)
            obtain ⟨x_228, ex_228⟩ : ∃ y : Int32, y = y11 + (-1) := ⟨_, rfl⟩
            have he := he x_228 ex_228
            refine lv_iinc (v := x_228) (lv' := [(11, .int x_228), (10, .int y10), (12, .int (0 : Int32)), (0, .ref (ad 0)), (1, .int y1), (2, .ref (ad 158)), (3, .ref (ad 159)), (4, .ref (ad 160)), (5, .ref (ad 161)), (6, .int y6), (7, .int y7), (8, .int y8), (9, .int y9)]) hx hb0 dL_isSo_253 hl (k := 12) rfl (by rw [ex_228]; rfl) (by decide) rfl (fun ls hl => ?_)
            refine lv_goto (tgt := 182) hx hb0 dL_isSo_256 (by decide) ?_
            exact ih y1 y6 y7 y8 y9 y10 x_228 h_225 he _ _ ls hP hD hS (lv_sub hl [3, 4, 5, 6, 7, 8, 9, 10, 11, 12, 1, 0] rfl)
          · exact absurd c_227 (by decide)
        · have he := he.2 c_226
          refine lv_iconst (v := (1 : Int32)) hx hb0 dL_isSo_210 (by decide) ?_
          refine lv_goto (tgt := 215) hx hb0 dL_isSo_211 (by decide) ?_
          refine lv_istore (lv' := [(12, .int (1 : Int32)), (0, .ref (ad 0)), (1, .int y1), (2, .ref (ad 158)), (3, .ref (ad 159)), (4, .ref (ad 160)), (5, .ref (ad 161)), (6, .int y6), (7, .int y7), (8, .int y8), (9, .int y9), (10, .int y10), (11, .int y11)]) hx hb0 dL_isSo_215 hl (by decide) rfl (fun ls hl => ?_)
          refine lv_iload hx hb0 dL_isSo_217 (lv_at hl 0 rfl) ?_
          refine lv_if_eq (tgt := 249) hx hb0 dL_isSo_219 (by decide) (fun c_229 => ?_) (fun c_229 => ?_)
          · exact absurd c_229 (by decide)
          · refine lv_iload hx hb0 dL_isSo_222 (lv_at hl 11 rfl) ?_
            refine lv_if_lt (tgt := 244) hx hb0 dL_isSo_224 (by decide) (fun c_230 => ?_) (fun c_230 => ?_)
            · have he := he.1 c_230
              refine lv_iload hx hb0 dL_isSo_244 (lv_at hl 12 rfl) ?_
              refine lv_goto (tgt := 251) hx hb0 dL_isSo_246 (by decide) ?_
              refine lv_istore (lv' := [(10, .int y11), (12, .int (1 : Int32)), (0, .ref (ad 0)), (1, .int y1), (2, .ref (ad 158)), (3, .ref (ad 159)), (4, .ref (ad 160)), (5, .ref (ad 161)), (6, .int y6), (7, .int y7), (8, .int y8), (9, .int y9), (11, .int y11)]) hx hb0 dL_isSo_251 hl (by decide) rfl (fun ls hl => ?_)
              obtain ⟨x_231, ex_231⟩ : ∃ y : Int32, y = y11 + (-1) := ⟨_, rfl⟩
              have he := he x_231 ex_231
              refine lv_iinc (v := x_231) (lv' := [(11, .int x_231), (10, .int y11), (12, .int (1 : Int32)), (0, .ref (ad 0)), (1, .int y1), (2, .ref (ad 158)), (3, .ref (ad 159)), (4, .ref (ad 160)), (5, .ref (ad 161)), (6, .int y6), (7, .int y7), (8, .int y8), (9, .int y9)]) hx hb0 dL_isSo_253 hl (k := 12) rfl (by rw [ex_231]; rfl) (by decide) rfl (fun ls hl => ?_)
              refine lv_goto (tgt := 182) hx hb0 dL_isSo_256 (by decide) ?_
              exact ih y1 y6 y7 y8 y9 y11 x_231 h_225 he _ _ ls hP hD hS (lv_sub hl [3, 4, 5, 6, 7, 8, 9, 10, 11, 12, 1, 0] rfl)
            · have he := he.2 c_230
              refine lv_iload hx hb0 dL_isSo_227 (lv_at hl 12 rfl) ?_
              refine lv_aload_n hx hb0 dL_isSo_229 rfl (lv_at hl 3 rfl) ?_
              refine lv_aload_n hx hb0 dL_isSo_230 rfl (lv_at hl 4 rfl) ?_
              refine gx_si ⟨hx, hb0, hml, hown, hts⟩ (gKC_keep _ _) hk hK hP hD hS [.int y11, .ref (ad 158), .ref (ad 159)] [] (c_L_height l dC dI P ad tb y11 h_225 _ he) gm_L_height st_yL_height ml_RL_20 rfl rfl ⟨Nat.le_of_ble_eq_true rfl, Nat.le_of_ble_eq_true rfl⟩ rfl hl.1 rfl (Nat.le_of_ble_eq_true rfl) dL_isSo_231 ⟨Nat.zero_le _, Nat.zero_le _⟩ (fun r_232 h_233 he H locs hP hD hS => ?_)
              refine lv_iload hx hb0 dL_isSo_234 (lv_at hl 11 rfl) ?_
              refine lv_aload_n hx hb0 dL_isSo_236 rfl (lv_at hl 3 rfl) ?_
              refine lv_aload_n hx hb0 dL_isSo_237 rfl (lv_at hl 4 rfl) ?_
              refine gx_si ⟨hx, hb0, hml, hown, hts⟩ (gKC_keep _ _) hk hK hP hD hS [.int y10, .ref (ad 158), .ref (ad 159)] [.int r_232] (c_L_height l dC dI P ad tb y10 h_233 _ he) gm_L_height st_yL_height ml_RL_20 rfl rfl ⟨Nat.le_of_ble_eq_true rfl, Nat.le_of_ble_eq_true rfl⟩ rfl hl.1 rfl (Nat.le_of_ble_eq_true rfl) dL_isSo_238 ⟨Nat.zero_le _, Nat.zero_le _⟩ (fun r_234 h_235 he H locs hP hD hS => ?_)
              refine lv_icmp_lt (tgt := 249) hx hb0 dL_isSo_241 (by decide) (fun c_236 => ?_) (fun c_236 => ?_)
              · have he := he.1 c_236
                refine lv_iload hx hb0 dL_isSo_249 (lv_at hl 11 rfl) ?_
                refine lv_istore (lv' := [(10, .int y10), (12, .int (1 : Int32)), (0, .ref (ad 0)), (1, .int y1), (2, .ref (ad 158)), (3, .ref (ad 159)), (4, .ref (ad 160)), (5, .ref (ad 161)), (6, .int y6), (7, .int y7), (8, .int y8), (9, .int y9), (11, .int y11)]) hx hb0 dL_isSo_251 hl (by decide) rfl (fun ls hl => ?_)
                obtain ⟨x_237, ex_237⟩ : ∃ y : Int32, y = y11 + (-1) := ⟨_, rfl⟩
                have he := he x_237 ex_237
                refine lv_iinc (v := x_237) (lv' := [(11, .int x_237), (10, .int y10), (12, .int (1 : Int32)), (0, .ref (ad 0)), (1, .int y1), (2, .ref (ad 158)), (3, .ref (ad 159)), (4, .ref (ad 160)), (5, .ref (ad 161)), (6, .int y6), (7, .int y7), (8, .int y8), (9, .int y9)]) hx hb0 dL_isSo_253 hl (k := 12) rfl (by rw [ex_237]; rfl) (by decide) rfl (fun ls hl => ?_)
                refine lv_goto (tgt := 182) hx hb0 dL_isSo_256 (by decide) ?_
                exact ih y1 y6 y7 y8 y9 y10 x_237 h_235 he _ _ ls hP hD hS (lv_sub hl [3, 4, 5, 6, 7, 8, 9, 10, 11, 12, 1, 0] rfl)
              · have he := he.2 c_236
                refine lv_iload hx hb0 dL_isSo_244 (lv_at hl 12 rfl) ?_
                refine lv_goto (tgt := 251) hx hb0 dL_isSo_246 (by decide) ?_
                refine lv_istore (lv' := [(10, .int y11), (12, .int (1 : Int32)), (0, .ref (ad 0)), (1, .int y1), (2, .ref (ad 158)), (3, .ref (ad 159)), (4, .ref (ad 160)), (5, .ref (ad 161)), (6, .int y6), (7, .int y7), (8, .int y8), (9, .int y9), (11, .int y11)]) hx hb0 dL_isSo_251 hl (by decide) rfl (fun ls hl => ?_)
                obtain ⟨x_238, ex_238⟩ : ∃ y : Int32, y = y11 + (-1) := ⟨_, rfl⟩
                have he := he x_238 ex_238
                refine lv_iinc (v := x_238) (lv' := [(11, .int x_238), (10, .int y11), (12, .int (1 : Int32)), (0, .ref (ad 0)), (1, .int y1), (2, .ref (ad 158)), (3, .ref (ad 159)), (4, .ref (ad 160)), (5, .ref (ad 161)), (6, .int y6), (7, .int y7), (8, .int y8), (9, .int y9)]) hx hb0 dL_isSo_253 hl (k := 12) rfl (by rw [ex_238]; rfl) (by decide) rfl (fun ls hl => ?_)
                refine lv_goto (tgt := 182) hx hb0 dL_isSo_256 (by decide) ?_
                exact ih y1 y6 y7 y8 y9 y11 x_238 h_235 he _ _ ls hP hD hS (lv_sub hl [3, 4, 5, 6, 7, 8, 9, 10, 11, 12, 1, 0] rfl)
set_option maxHeartbeats 4000000 in
set_option maxRecDepth 100000 in
theorem l_L_isSo_21 (l : Launch) (dC : Nat → ClassId) (dI : Nat → Nat → Nat) (P : gP) (ad : Nat → Nat) (tb : Nat → Nat) {p : Program} {e : Env} {s : State} {m : MethodId} {args : Array Value} {below : List Frame} {meth : Method} {c : Code} (hx : p.tables.exec = Jvm.exec) (hb0 : c.code = cL_isSo) (hr : meth.sig.returnType = (some .boolean)) (hlocks : meth.locks = false) (hml : c.maxLocals = 15) (hown : s.vm.findClass RL = some m.cls) (hts : ∀ w ∈ TB, w.before args s = true) (hK : va_K (dC, dI) vwCl (tyC P) s) (hk : (gKC tb (gA 162 ad)) s) (Q : Int32 → Hp → Prop) : ∀ (n : Nat) (y1 : Int32) (y6 : Int32) (y7 : Int32) (y8 : Int32) (y9 : Int32) (y10 : Int32) (y11 : Int32) (h0 : Hp), F_L_isSo_L21  n y1 y6 y7 y8 y9 y10 y11 h0 Q → ∀ (H : Heap) (locs : List Loc) (ls : Array Slot), va_P (dC, dI) vwCl (gW 162 (cE P ad) ad h0) H → va_D (gA 162 ad) (gW 162 (cE P ad) ad h0) → va_S (gA 162 ad) s.heap H locs → lv_has ls 15 [(0, .ref (ad 0)), (1, .int y1), (2, .ref (ad 158)), (3, .ref (ad 159)), (4, .ref (ad 160)), (5, .ref (ad 161)), (6, .int y6), (7, .int y7), (8, .int y8), (9, .int y9), (10, .int y10), (11, .int y11)] → W p l e rm_L_isSo s m args below meth c H locs 0 0 (MQ below (gQi (dC, dI) vwCl (tyC P) 162 (cE P ad) ad Q) args s 0 0 (gA 162 ad)) (F0 m 21 ls []) := by
  intro n
  induction n with
  | zero =>
    intro y1 y6 y7 y8 y9 y10 y11 h0 he
    exact he.elim
  | succ n ih =>
    intro y1 y6 y7 y8 y9 y10 y11 h0 he H locs ls hP hD hS hl
    rw [F_L_isSo_L21] at he
    refine lv_iload hx hb0 dL_isSo_21 (lv_at hl 11 rfl) ?_
    refine lv_bipush (v := (7 : Int32)) hx hb0 dL_isSo_23 (by decide) ?_
    refine lv_icmp_ge (tgt := 174) hx hb0 dL_isSo_25 (by decide) (fun c_1 => ?_) (fun c_1 => ?_)
    · have he := he.1 c_1
      refine lv_aload_n hx hb0 dL_isSo_174 rfl (lv_at hl 2 rfl) ?_
      refine lv_bipush (v := (12 : Int32)) hx hb0 dL_isSo_175 (by decide) ?_
      refine gx_ialdK hx hb0 hK hP 158 0 (by decide) cE_t158 rfl (vp_lit (12 : Int32) (by decide) (by decide)) 12 rfl dL_isSo_177 ?_
      refine lv_iconst (v := (1 : Int32)) hx hb0 dL_isSo_178 (by decide) ?_
      refine lv_isub hx hb0 dL_isSo_179 ?_
      refine lv_topi (fun x_2 ex_2 => ?_)
      have he := he x_2 ex_2
      refine lv_istore (lv' := [(11, .int x_2), (0, .ref (ad 0)), (1, .int y1), (2, .ref (ad 158)), (3, .ref (ad 159)), (4, .ref (ad 160)), (5, .ref (ad 161)), (6, .int y6), (7, .int y7), (8, .int y8), (9, .int y9), (10, .int y10)]) hx hb0 dL_isSo_180 hl (by decide) rfl (fun ls hl => ?_)
      obtain ⟨n_239, he⟩ := he
      exact l_L_isSo_182 l dC dI P ad tb  hx hb0 hr hlocks hml hown hts hK hk Q n_239 y1 y6 y7 y8 y9 y10 x_2 h0 he _ _ ls hP hD hS (lv_sub hl [1, 2, 3, 4, 5, 6, 7, 8, 9, 10, 11, 0] rfl)
    · have he := he.2 c_1
      refine lv_aload hx hb0 dL_isSo_28 (lv_at hl 4 rfl) ?_
      refine lv_bipush (v := (7 : Int32)) hx hb0 dL_isSo_30 (by decide) ?_
      refine lv_iload hx hb0 dL_isSo_32 (lv_at hl 11 rfl) ?_
      refine lv_imul hx hb0 dL_isSo_34 ?_
      refine lv_iconst (v := (5 : Int32)) hx hb0 dL_isSo_35 (by decide) ?_
      refine lv_iadd hx hb0 dL_isSo_36 ?_
      obtain ⟨v_240, he⟩ := he
      refine gx_iald hx hb0 hK hP 160 0 (by decide) cE_t160 rfl v_240 dL_isSo_37 ?_
      refine lv_sipush (v := (9999 : Int32)) hx hb0 dL_isSo_38 (by decide) ?_
      refine lv_icmp_eq (tgt := 48) hx hb0 dL_isSo_41 (by decide) (fun c_241 => ?_) (fun c_241 => ?_)
      · have he := he.1 c_241
        refine lv_iconst (v := (0 : Int32)) hx hb0 dL_isSo_48 (by decide) ?_
        refine lv_istore (lv' := [(12, .int (0 : Int32)), (0, .ref (ad 0)), (1, .int y1), (2, .ref (ad 158)), (3, .ref (ad 159)), (4, .ref (ad 160)), (5, .ref (ad 161)), (6, .int y6), (7, .int y7), (8, .int y8), (9, .int y9), (10, .int y10), (11, .int y11)]) hx hb0 dL_isSo_49 hl (by decide) rfl (fun ls hl => ?_)
        refine lv_aload hx hb0 dL_isSo_51 (lv_at hl 5 rfl) ?_
        refine lv_bipush (v := (7 : Int32)) hx hb0 dL_isSo_53 (by decide) ?_
        refine lv_iload hx hb0 dL_isSo_55 (lv_at hl 12 rfl) ?_
        refine lv_imul hx hb0 dL_isSo_57 ?_
        refine lv_iconst (v := (5 : Int32)) hx hb0 dL_isSo_58 (by decide) ?_
        refine lv_iadd hx hb0 dL_isSo_59 ?_
        obtain ⟨v_242, he⟩ := he
        refine gx_iald hx hb0 hK hP 160 0 (by decide) cE_t160 rfl v_242 dL_isSo_60 ?_
        refine lv_aload_n hx hb0 dL_isSo_61 rfl (lv_at hl 3 rfl) ?_
        refine lv_iconst (v := (4 : Int32)) hx hb0 dL_isSo_62 (by decide) ?_
        refine gx_ialdK hx hb0 hK hP 158 0 (by decide) cE_t158 rfl (vp_lit (4 : Int32) (by decide) (by decide)) 4 rfl dL_isSo_63 ?_
        refine lv_isub hx hb0 dL_isSo_64 ?_
        refine gx_si ⟨hx, hb0, hml, hown, hts⟩ (gKC_keep _ _) hk hK hP hD hS [.int ((h0 160 (((7 : Int32) * y11) + (5 : Int32)).toNatClampNeg) - (h0 158 4))] [] (c_L_size l dC dI P ad tb ((h0 160 (((7 : Int32) * y11) + (5 : Int32)).toNatClampNeg) - (h0 158 4)) h0 _ he) gm_L_size st_yL_size ml_RL_16 rfl rfl ⟨Nat.le_of_ble_eq_true rfl, Nat.le_of_ble_eq_true rfl⟩ rfl hl.1 rfl (Nat.le_of_ble_eq_true rfl) dL_isSo_65 ⟨Nat.zero_le _, Nat.zero_le _⟩ (fun r_243 h_244 he H locs hP hD hS => ?_)
        refine lv_istore (lv' := [(13, .int r_243), (12, .int (0 : Int32)), (0, .ref (ad 0)), (1, .int y1), (2, .ref (ad 158)), (3, .ref (ad 159)), (4, .ref (ad 160)), (5, .ref (ad 161)), (6, .int y6), (7, .int y7), (8, .int y8), (9, .int y9), (10, .int y10), (11, .int y11)]) hx hb0 dL_isSo_68 hl (by decide) rfl (fun ls hl => ?_)
        refine lv_iload hx hb0 dL_isSo_70 (lv_at hl 8 rfl) ?_
        refine lv_iload hx hb0 dL_isSo_72 (lv_at hl 1 rfl) ?_
        refine lv_if_eq (tgt := 84) hx hb0 dL_isSo_74 (by decide) (fun c_245 => ?_) (fun c_245 => ?_)
        · refine lv_iconst (v := (0 : Int32)) hx hb0 dL_isSo_84 (by decide) ?_
          refine lv_ior hx hb0 dL_isSo_85 ?_
          refine lv_topi (fun x_246 ex_246 => ?_)
          have he := he x_246 ex_246
          refine lv_istore (lv' := [(6, .int x_246), (13, .int r_243), (12, .int (0 : Int32)), (0, .ref (ad 0)), (1, .int y1), (2, .ref (ad 158)), (3, .ref (ad 159)), (4, .ref (ad 160)), (5, .ref (ad 161)), (7, .int y7), (8, .int y8), (9, .int y9), (10, .int y10), (11, .int y11)]) hx hb0 dL_isSo_86 hl (by decide) rfl (fun ls hl => ?_)
          refine lv_iload hx hb0 dL_isSo_88 (lv_at hl 9 rfl) ?_
          refine lv_aload hx hb0 dL_isSo_90 (lv_at hl 7 rfl) ?_
          refine lv_bipush (v := (7 : Int32)) hx hb0 dL_isSo_92 (by decide) ?_
          refine lv_iload hx hb0 dL_isSo_94 (lv_at hl 13 rfl) ?_
          refine lv_imul hx hb0 dL_isSo_96 ?_
          refine lv_bipush (v := (6 : Int32)) hx hb0 dL_isSo_97 (by decide) ?_
          refine lv_iadd hx hb0 dL_isSo_99 ?_
          obtain ⟨v_247, he⟩ := he
          refine gx_iald hx hb0 hK hP 160 0 (by decide) cE_t160 rfl v_247 dL_isSo_100 ?_
          refine lv_iconst (v := (2 : Int32)) hx hb0 dL_isSo_101 (by decide) ?_
          refine lv_icmp_ne (tgt := 112) hx hb0 dL_isSo_102 (by decide) (fun c_248 => ?_) (fun c_248 => ?_)
          · have he := he.2 c_248
            refine lv_iconst (v := (0 : Int32)) hx hb0 dL_isSo_112 (by decide) ?_
            refine lv_ior hx hb0 dL_isSo_113 ?_
            refine lv_topi (fun x_249 ex_249 => ?_)
            have he := he x_249 ex_249
            refine lv_istore (lv' := [(7, .int x_249), (6, .int x_246), (13, .int r_243), (12, .int (0 : Int32)), (0, .ref (ad 0)), (1, .int y1), (2, .ref (ad 158)), (3, .ref (ad 159)), (4, .ref (ad 160)), (5, .ref (ad 161)), (8, .int y8), (9, .int y9), (10, .int y10), (11, .int y11)]) hx hb0 dL_isSo_114 hl (by decide) rfl (fun ls hl => ?_)
            refine lv_iload hx hb0 dL_isSo_116 (lv_at hl 3 rfl) ?_
            refine lv_if_eq (tgt := 137) hx hb0 dL_isSo_118 (by decide) (fun c_250 => ?_) (fun c_250 => ?_)
            · refine lv_iconst (v := (0 : Int32)) hx hb0 dL_isSo_137 (by decide) ?_
              refine lv_istore (lv' := [(14, .int (0 : Int32)), (7, .int x_249), (6, .int x_246), (13, .int r_243), (12, .int (0 : Int32)), (0, .ref (ad 0)), (1, .int y1), (2, .ref (ad 158)), (3, .ref (ad 159)), (4, .ref (ad 160)), (5, .ref (ad 161)), (8, .int y8), (9, .int y9), (10, .int y10), (11, .int y11)]) hx hb0 dL_isSo_138 hl (by decide) rfl (fun ls hl => ?_)
              refine lv_iload hx hb0 dL_isSo_140 (lv_at hl 0 rfl) ?_
              refine lv_if_eq (tgt := 150) hx hb0 dL_isSo_142 (by decide) (fun c_251 => ?_) (fun c_251 => ?_)
              · refine lv_iload hx hb0 dL_isSo_150 (lv_at hl 11 rfl) ?_
                refine lv_istore (lv' := [(8, .int y8), (14, .int (0 : Int32)), (7, .int x_249), (6, .int x_246), (13, .int r_243), (12, .int (0 : Int32)), (0, .ref (ad 0)), (1, .int y1), (2, .ref (ad 158)), (3, .ref (ad 159)), (4, .ref (ad 160)), (5, .ref (ad 161)), (9, .int y9), (10, .int y10), (11, .int y11)]) hx hb0 dL_isSo_152 hl (by decide) rfl (fun ls hl => ?_)
                refine lv_iload hx hb0 dL_isSo_154 (lv_at hl 1 rfl) ?_
                refine lv_if_eq (tgt := 164) hx hb0 dL_isSo_156 (by decide) (fun c_252 => ?_) (fun c_252 => ?_)
                · refine lv_iload hx hb0 dL_isSo_164 (lv_at hl 12 rfl) ?_
                  refine lv_istore (lv' := [(9, .int y9), (8, .int y8), (14, .int (0 : Int32)), (7, .int x_249), (6, .int x_246), (13, .int r_243), (12, .int (0 : Int32)), (0, .ref (ad 0)), (1, .int y1), (2, .ref (ad 158)), (3, .ref (ad 159)), (4, .ref (ad 160)), (5, .ref (ad 161)), (10, .int y10), (11, .int y11)]) hx hb0 dL_isSo_166 hl (by decide) rfl (fun ls hl => ?_)
                  obtain ⟨x_253, ex_253⟩ : ∃ y : Int32, y = y11 + 1 := ⟨_, rfl⟩
                  have he := he x_253 ex_253
                  refine lv_iinc (v := x_253) (lv' := [(11, .int x_253), (9, .int y9), (8, .int y8), (14, .int (0 : Int32)), (7, .int x_249), (6, .int x_246), (13, .int r_243), (12, .int (0 : Int32)), (0, .ref (ad 0)), (1, .int y1), (2, .ref (ad 158)), (3, .ref (ad 159)), (4, .ref (ad 160)), (5, .ref (ad 161)), (10, .int y10)]) hx hb0 dL_isSo_168 hl (k := 14) rfl (by rw [ex_253]; rfl) (by decide) rfl (fun ls hl => ?_)
                  refine lv_goto (tgt := 21) hx hb0 dL_isSo_171 (by decide) ?_
                  exact ih y1 x_246 x_249 y8 y9 y10 x_253 h_244 he _ _ ls hP hD hS (lv_sub hl [8, 9, 10, 11, 12, 13, 5, 4, 2, 1, 14, 0] rfl)
                · exact absurd c_252 (by decide)
              · exact absurd c_251 (by decide)
            · exact absurd c_250 (by decide)
          · have he := he.1 c_248
            refine lv_iconst (v := (1 : Int32)) hx hb0 dL_isSo_105 (by decide) ?_
            refine lv_iload hx hb0 dL_isSo_106 (lv_at hl 13 rfl) ?_
            refine lv_ishl hx hb0 dL_isSo_108 ?_
            refine lv_goto (tgt := 113) hx hb0 dL_isSo_109 (by decide) ?_
            refine lv_ior hx hb0 dL_isSo_113 ?_
            refine lv_topi (fun x_254 ex_254 => ?_)
            have he := he x_254 ex_254
            refine lv_istore (lv' := [(7, .int x_254), (6, .int x_246), (13, .int r_243), (12, .int (0 : Int32)), (0, .ref (ad 0)), (1, .int y1), (2, .ref (ad 158)), (3, .ref (ad 159)), (4, .ref (ad 160)), (5, .ref (ad 161)), (8, .int y8), (9, .int y9), (10, .int y10), (11, .int y11)]) hx hb0 dL_isSo_114 hl (by decide) rfl (fun ls hl => ?_)
            refine lv_iload hx hb0 dL_isSo_116 (lv_at hl 3 rfl) ?_
            refine lv_if_eq (tgt := 137) hx hb0 dL_isSo_118 (by decide) (fun c_255 => ?_) (fun c_255 => ?_)
            · refine lv_iconst (v := (0 : Int32)) hx hb0 dL_isSo_137 (by decide) ?_
              refine lv_istore (lv' := [(14, .int (0 : Int32)), (7, .int x_254), (6, .int x_246), (13, .int r_243), (12, .int (0 : Int32)), (0, .ref (ad 0)), (1, .int y1), (2, .ref (ad 158)), (3, .ref (ad 159)), (4, .ref (ad 160)), (5, .ref (ad 161)), (8, .int y8), (9, .int y9), (10, .int y10), (11, .int y11)]) hx hb0 dL_isSo_138 hl (by decide) rfl (fun ls hl => ?_)
              refine lv_iload hx hb0 dL_isSo_140 (lv_at hl 0 rfl) ?_
              refine lv_if_eq (tgt := 150) hx hb0 dL_isSo_142 (by decide) (fun c_256 => ?_) (fun c_256 => ?_)
              · refine lv_iload hx hb0 dL_isSo_150 (lv_at hl 11 rfl) ?_
                refine lv_istore (lv' := [(8, .int y8), (14, .int (0 : Int32)), (7, .int x_254), (6, .int x_246), (13, .int r_243), (12, .int (0 : Int32)), (0, .ref (ad 0)), (1, .int y1), (2, .ref (ad 158)), (3, .ref (ad 159)), (4, .ref (ad 160)), (5, .ref (ad 161)), (9, .int y9), (10, .int y10), (11, .int y11)]) hx hb0 dL_isSo_152 hl (by decide) rfl (fun ls hl => ?_)
                refine lv_iload hx hb0 dL_isSo_154 (lv_at hl 1 rfl) ?_
                refine lv_if_eq (tgt := 164) hx hb0 dL_isSo_156 (by decide) (fun c_257 => ?_) (fun c_257 => ?_)
                · refine lv_iload hx hb0 dL_isSo_164 (lv_at hl 12 rfl) ?_
                  refine lv_istore (lv' := [(9, .int y9), (8, .int y8), (14, .int (0 : Int32)), (7, .int x_254), (6, .int x_246), (13, .int r_243), (12, .int (0 : Int32)), (0, .ref (ad 0)), (1, .int y1), (2, .ref (ad 158)), (3, .ref (ad 159)), (4, .ref (ad 160)), (5, .ref (ad 161)), (10, .int y10), (11, .int y11)]) hx hb0 dL_isSo_166 hl (by decide) rfl (fun ls hl => ?_)
                  obtain ⟨x_258, ex_258⟩ : ∃ y : Int32, y = y11 + 1 := ⟨_, rfl⟩
                  have he := he x_258 ex_258
                  refine lv_iinc (v := x_258) (lv' := [(11, .int x_258), (9, .int y9), (8, .int y8), (14, .int (0 : Int32)), (7, .int x_254), (6, .int x_246), (13, .int r_243), (12, .int (0 : Int32)), (0, .ref (ad 0)), (1, .int y1), (2, .ref (ad 158)), (3, .ref (ad 159)), (4, .ref (ad 160)), (5, .ref (ad 161)), (10, .int y10)]) hx hb0 dL_isSo_168 hl (k := 14) rfl (by rw [ex_258]; rfl) (by decide) rfl (fun ls hl => ?_)
                  refine lv_goto (tgt := 21) hx hb0 dL_isSo_171 (by decide) ?_
                  exact ih y1 x_246 x_254 y8 y9 y10 x_258 h_244 he _ _ ls hP hD hS (lv_sub hl [8, 9, 10, 11, 12, 13, 5, 4, 2, 1, 14, 0] rfl)
                · exact absurd c_257 (by decide)
              · exact absurd c_256 (by decide)
            · exact absurd c_255 (by decide)
        · exact absurd c_245 (by decide)
      · have he := he.2 c_241
        refine lv_iconst (v := (1 : Int32)) hx hb0 dL_isSo_44 (by decide) ?_
        refine lv_goto (tgt := 49) hx hb0 dL_isSo_45 (by decide) ?_
        refine lv_istore (lv' := [(12, .int (1 : Int32)), (0, .ref (ad 0)), (1, .int y1), (2, .ref (ad 158)), (3, .ref (ad 159)), (4, .ref (ad 160)), (5, .ref (ad 161)), (6, .int y6), (7, .int y7), (8, .int y8), (9, .int y9), (10, .int y10), (11, .int y11)]) hx hb0 dL_isSo_49 hl (by decide) rfl (fun ls hl => ?_)
        refine lv_aload hx hb0 dL_isSo_51 (lv_at hl 5 rfl) ?_
        refine lv_bipush (v := (7 : Int32)) hx hb0 dL_isSo_53 (by decide) ?_
        refine lv_iload hx hb0 dL_isSo_55 (lv_at hl 12 rfl) ?_
        refine lv_imul hx hb0 dL_isSo_57 ?_
        refine lv_iconst (v := (5 : Int32)) hx hb0 dL_isSo_58 (by decide) ?_
        refine lv_iadd hx hb0 dL_isSo_59 ?_
        obtain ⟨v_259, he⟩ := he
        refine gx_iald hx hb0 hK hP 160 0 (by decide) cE_t160 rfl v_259 dL_isSo_60 ?_
        refine lv_aload_n hx hb0 dL_isSo_61 rfl (lv_at hl 3 rfl) ?_
        refine lv_iconst (v := (4 : Int32)) hx hb0 dL_isSo_62 (by decide) ?_
        refine gx_ialdK hx hb0 hK hP 158 0 (by decide) cE_t158 rfl (vp_lit (4 : Int32) (by decide) (by decide)) 4 rfl dL_isSo_63 ?_
        refine lv_isub hx hb0 dL_isSo_64 ?_
        refine gx_si ⟨hx, hb0, hml, hown, hts⟩ (gKC_keep _ _) hk hK hP hD hS [.int ((h0 160 (((7 : Int32) * y11) + (5 : Int32)).toNatClampNeg) - (h0 158 4))] [] (c_L_size l dC dI P ad tb ((h0 160 (((7 : Int32) * y11) + (5 : Int32)).toNatClampNeg) - (h0 158 4)) h0 _ he) gm_L_size st_yL_size ml_RL_16 rfl rfl ⟨Nat.le_of_ble_eq_true rfl, Nat.le_of_ble_eq_true rfl⟩ rfl hl.1 rfl (Nat.le_of_ble_eq_true rfl) dL_isSo_65 ⟨Nat.zero_le _, Nat.zero_le _⟩ (fun r_260 h_261 he H locs hP hD hS => ?_)
        refine lv_istore (lv' := [(13, .int r_260), (12, .int (1 : Int32)), (0, .ref (ad 0)), (1, .int y1), (2, .ref (ad 158)), (3, .ref (ad 159)), (4, .ref (ad 160)), (5, .ref (ad 161)), (6, .int y6), (7, .int y7), (8, .int y8), (9, .int y9), (10, .int y10), (11, .int y11)]) hx hb0 dL_isSo_68 hl (by decide) rfl (fun ls hl => ?_)
        refine lv_iload hx hb0 dL_isSo_70 (lv_at hl 8 rfl) ?_
        refine lv_iload hx hb0 dL_isSo_72 (lv_at hl 1 rfl) ?_
        refine lv_if_eq (tgt := 84) hx hb0 dL_isSo_74 (by decide) (fun c_262 => ?_) (fun c_262 => ?_)
        · exact absurd c_262 (by decide)
        · refine lv_iconst (v := (1 : Int32)) hx hb0 dL_isSo_77 (by decide) ?_
          refine lv_iload hx hb0 dL_isSo_78 (lv_at hl 13 rfl) ?_
          refine lv_ishl hx hb0 dL_isSo_80 ?_
          refine lv_goto (tgt := 85) hx hb0 dL_isSo_81 (by decide) ?_
          refine lv_ior hx hb0 dL_isSo_85 ?_
          refine lv_topi (fun x_263 ex_263 => ?_)
          have he := he x_263 ex_263
          refine lv_istore (lv' := [(6, .int x_263), (13, .int r_260), (12, .int (1 : Int32)), (0, .ref (ad 0)), (1, .int y1), (2, .ref (ad 158)), (3, .ref (ad 159)), (4, .ref (ad 160)), (5, .ref (ad 161)), (7, .int y7), (8, .int y8), (9, .int y9), (10, .int y10), (11, .int y11)]) hx hb0 dL_isSo_86 hl (by decide) rfl (fun ls hl => ?_)
          refine lv_iload hx hb0 dL_isSo_88 (lv_at hl 9 rfl) ?_
          refine lv_aload hx hb0 dL_isSo_90 (lv_at hl 7 rfl) ?_
          refine lv_bipush (v := (7 : Int32)) hx hb0 dL_isSo_92 (by decide) ?_
          refine lv_iload hx hb0 dL_isSo_94 (lv_at hl 13 rfl) ?_
          refine lv_imul hx hb0 dL_isSo_96 ?_
          refine lv_bipush (v := (6 : Int32)) hx hb0 dL_isSo_97 (by decide) ?_
          refine lv_iadd hx hb0 dL_isSo_99 ?_
          obtain ⟨v_264, he⟩ := he
          refine gx_iald hx hb0 hK hP 160 0 (by decide) cE_t160 rfl v_264 dL_isSo_100 ?_
          refine lv_iconst (v := (2 : Int32)) hx hb0 dL_isSo_101 (by decide) ?_
          refine lv_icmp_ne (tgt := 112) hx hb0 dL_isSo_102 (by decide) (fun c_265 => ?_) (fun c_265 => ?_)
          · have he := he.2 c_265
            refine lv_iconst (v := (0 : Int32)) hx hb0 dL_isSo_112 (by decide) ?_
            refine lv_ior hx hb0 dL_isSo_113 ?_
            refine lv_topi (fun x_266 ex_266 => ?_)
            have he := he x_266 ex_266
            refine lv_istore (lv' := [(7, .int x_266), (6, .int x_263), (13, .int r_260), (12, .int (1 : Int32)), (0, .ref (ad 0)), (1, .int y1), (2, .ref (ad 158)), (3, .ref (ad 159)), (4, .ref (ad 160)), (5, .ref (ad 161)), (8, .int y8), (9, .int y9), (10, .int y10), (11, .int y11)]) hx hb0 dL_isSo_114 hl (by decide) rfl (fun ls hl => ?_)
            refine lv_iload hx hb0 dL_isSo_116 (lv_at hl 3 rfl) ?_
            refine lv_if_eq (tgt := 137) hx hb0 dL_isSo_118 (by decide) (fun c_267 => ?_) (fun c_267 => ?_)
            · exact absurd c_267 (by decide)
            · refine lv_iload hx hb0 dL_isSo_121 (lv_at hl 10 rfl) ?_
              refine lv_if_lt (tgt := 133) hx hb0 dL_isSo_123 (by decide) (fun c_268 => ?_) (fun c_268 => ?_)
              · have he := he.1 c_268
                refine lv_iconst (v := (1 : Int32)) hx hb0 dL_isSo_133 (by decide) ?_
                refine lv_goto (tgt := 138) hx hb0 dL_isSo_134 (by decide) ?_
                refine lv_istore (lv' := [(14, .int (1 : Int32)), (7, .int x_266), (6, .int x_263), (13, .int r_260), (12, .int (1 : Int32)), (0, .ref (ad 0)), (1, .int y1), (2, .ref (ad 158)), (3, .ref (ad 159)), (4, .ref (ad 160)), (5, .ref (ad 161)), (8, .int y8), (9, .int y9), (10, .int y10), (11, .int y11)]) hx hb0 dL_isSo_138 hl (by decide) rfl (fun ls hl => ?_)
                refine lv_iload hx hb0 dL_isSo_140 (lv_at hl 0 rfl) ?_
                refine lv_if_eq (tgt := 150) hx hb0 dL_isSo_142 (by decide) (fun c_269 => ?_) (fun c_269 => ?_)
                · exact absurd c_269 (by decide)
                · refine lv_iload hx hb0 dL_isSo_145 (lv_at hl 14 rfl) ?_
                  refine lv_goto (tgt := 152) hx hb0 dL_isSo_147 (by decide) ?_
                  refine lv_istore (lv' := [(8, .int y11), (14, .int (1 : Int32)), (7, .int x_266), (6, .int x_263), (13, .int r_260), (12, .int (1 : Int32)), (0, .ref (ad 0)), (1, .int y1), (2, .ref (ad 158)), (3, .ref (ad 159)), (4, .ref (ad 160)), (5, .ref (ad 161)), (9, .int y9), (10, .int y10), (11, .int y11)]) hx hb0 dL_isSo_152 hl (by decide) rfl (fun ls hl => ?_)
                  refine lv_iload hx hb0 dL_isSo_154 (lv_at hl 1 rfl) ?_
                  refine lv_if_eq (tgt := 164) hx hb0 dL_isSo_156 (by decide) (fun c_270 => ?_) (fun c_270 => ?_)
                  · exact absurd c_270 (by decide)
                  · refine lv_iload hx hb0 dL_isSo_159 (lv_at hl 4 rfl) ?_
                    refine lv_goto (tgt := 166) hx hb0 dL_isSo_161 (by decide) ?_
                    refine lv_istore (lv' := [(9, .int r_260), (8, .int y11), (14, .int (1 : Int32)), (7, .int x_266), (6, .int x_263), (13, .int r_260), (12, .int (1 : Int32)), (0, .ref (ad 0)), (1, .int y1), (2, .ref (ad 158)), (3, .ref (ad 159)), (4, .ref (ad 160)), (5, .ref (ad 161)), (10, .int y10), (11, .int y11)]) hx hb0 dL_isSo_166 hl (by decide) rfl (fun ls hl => ?_)
                    obtain ⟨x_271, ex_271⟩ : ∃ y : Int32, y = y11 + 1 := ⟨_, rfl⟩
                    have he := he x_271 ex_271
                    refine lv_iinc (v := x_271) (lv' := [(11, .int x_271), (9, .int r_260), (8, .int y11), (14, .int (1 : Int32)), (7, .int x_266), (6, .int x_263), (13, .int r_260), (12, .int (1 : Int32)), (0, .ref (ad 0)), (1, .int y1), (2, .ref (ad 158)), (3, .ref (ad 159)), (4, .ref (ad 160)), (5, .ref (ad 161)), (10, .int y10)]) hx hb0 dL_isSo_168 hl (k := 14) rfl (by rw [ex_271]; rfl) (by decide) rfl (fun ls hl => ?_)
                    refine lv_goto (tgt := 21) hx hb0 dL_isSo_171 (by decide) ?_
                    exact ih y1 x_263 x_266 y11 r_260 y10 x_271 h_261 he _ _ ls hP hD hS (lv_sub hl [8, 9, 10, 11, 12, 13, 5, 4, 2, 1, 14, 0] rfl)
              · have he := he.2 c_268
                refine lv_iload hx hb0 dL_isSo_126 (lv_at hl 2 rfl) ?_
                refine lv_iload hx hb0 dL_isSo_128 (lv_at hl 11 rfl) ?_
                refine lv_icmp_ge (tgt := 137) hx hb0 dL_isSo_130 (by decide) (fun c_272 => ?_) (fun c_272 => ?_)
                · have he := he.1 c_272
                  refine lv_iconst (v := (0 : Int32)) hx hb0 dL_isSo_137 (by decide) ?_
                  refine lv_istore (lv' := [(14, .int (0 : Int32)), (7, .int x_266), (6, .int x_263), (13, .int r_260), (12, .int (1 : Int32)), (0, .ref (ad 0)), (1, .int y1), (2, .ref (ad 158)), (3, .ref (ad 159)), (4, .ref (ad 160)), (5, .ref (ad 161)), (8, .int y8), (9, .int y9), (10, .int y10), (11, .int y11)]) hx hb0 dL_isSo_138 hl (by decide) rfl (fun ls hl => ?_)
                  refine lv_iload hx hb0 dL_isSo_140 (lv_at hl 0 rfl) ?_
                  refine lv_if_eq (tgt := 150) hx hb0 dL_isSo_142 (by decide) (fun c_273 => ?_) (fun c_273 => ?_)
                  · refine lv_iload hx hb0 dL_isSo_150 (lv_at hl 11 rfl) ?_
                    refine lv_istore (lv' := [(8, .int y8), (14, .int (0 : Int32)), (7, .int x_266), (6, .int x_263), (13, .int r_260), (12, .int (1 : Int32)), (0, .ref (ad 0)), (1, .int y1), (2, .ref (ad 158)), (3, .ref (ad 159)), (4, .ref (ad 160)), (5, .ref (ad 161)), (9, .int y9), (10, .int y10), (11, .int y11)]) hx hb0 dL_isSo_152 hl (by decide) rfl (fun ls hl => ?_)
                    refine lv_iload hx hb0 dL_isSo_154 (lv_at hl 1 rfl) ?_
                    refine lv_if_eq (tgt := 164) hx hb0 dL_isSo_156 (by decide) (fun c_274 => ?_) (fun c_274 => ?_)
                    · refine lv_iload hx hb0 dL_isSo_164 (lv_at hl 12 rfl) ?_
                      refine lv_istore (lv' := [(9, .int y9), (8, .int y8), (14, .int (0 : Int32)), (7, .int x_266), (6, .int x_263), (13, .int r_260), (12, .int (1 : Int32)), (0, .ref (ad 0)), (1, .int y1), (2, .ref (ad 158)), (3, .ref (ad 159)), (4, .ref (ad 160)), (5, .ref (ad 161)), (10, .int y10), (11, .int y11)]) hx hb0 dL_isSo_166 hl (by decide) rfl (fun ls hl => ?_)
                      obtain ⟨x_275, ex_275⟩ : ∃ y : Int32, y = y11 + 1 := ⟨_, rfl⟩
                      have he := he x_275 ex_275
                      refine lv_iinc (v := x_275) (lv' := [(11, .int x_275), (9, .int y9), (8, .int y8), (14, .int (0 : Int32)), (7, .int x_266), (6, .int x_263), (13, .int r_260), (12, .int (1 : Int32)), (0, .ref (ad 0)), (1, .int y1), (2, .ref (ad 158)), (3, .ref (ad 159)), (4, .ref (ad 160)), (5, .ref (ad 161)), (10, .int y10)]) hx hb0 dL_isSo_168 hl (k := 14) rfl (by rw [ex_275]; rfl) (by decide) rfl (fun ls hl => ?_)
                      refine lv_goto (tgt := 21) hx hb0 dL_isSo_171 (by decide) ?_
                      exact ih y1 x_263 x_266 y8 y9 y10 x_275 h_261 he _ _ ls hP hD hS (lv_sub hl [8, 9, 10, 11, 12, 13, 5, 4, 2, 1, 14, 0] rfl)
                    · exact absurd c_274 (by decide)
                  · exact absurd c_273 (by decide)
                · have he := he.2 c_272
                  refine lv_iconst (v := (1 : Int32)) hx hb0 dL_isSo_133 (by decide) ?_
                  refine lv_goto (tgt := 138) hx hb0 dL_isSo_134 (by decide) ?_
                  refine lv_istore (lv' := [(14, .int (1 : Int32)), (7, .int x_266), (6, .int x_263), (13, .int r_260), (12, .int (1 : Int32)), (0, .ref (ad 0)), (1, .int y1), (2, .ref (ad 158)), (3, .ref (ad 159)), (4, .ref (ad 160)), (5, .ref (ad 161)), (8, .int y8), (9, .int y9), (10, .int y10), (11, .int y11)]) hx hb0 dL_isSo_138 hl (by decide) rfl (fun ls hl => ?_)
                  refine lv_iload hx hb0 dL_isSo_140 (lv_at hl 0 rfl) ?_
                  refine lv_if_eq (tgt := 150) hx hb0 dL_isSo_142 (by decide) (fun c_276 => ?_) (fun c_276 => ?_)
                  · exact absurd c_276 (by decide)
                  · refine lv_iload hx hb0 dL_isSo_145 (lv_at hl 14 rfl) ?_
                    refine lv_goto (tgt := 152) hx hb0 dL_isSo_147 (by decide) ?_
                    refine lv_istore (lv' := [(8, .int y11), (14, .int (1 : Int32)), (7, .int x_266), (6, .int x_263), (13, .int r_260), (12, .int (1 : Int32)), (0, .ref (ad 0)), (1, .int y1), (2, .ref (ad 158)), (3, .ref (ad 159)), (4, .ref (ad 160)), (5, .ref (ad 161)), (9, .int y9), (10, .int y10), (11, .int y11)]) hx hb0 dL_isSo_152 hl (by decide) rfl (fun ls hl => ?_)
                    refine lv_iload hx hb0 dL_isSo_154 (lv_at hl 1 rfl) ?_
                    refine lv_if_eq (tgt := 164) hx hb0 dL_isSo_156 (by decide) (fun c_277 => ?_) (fun c_277 => ?_)
                    · exact absurd c_277 (by decide)
                    · refine lv_iload hx hb0 dL_isSo_159 (lv_at hl 4 rfl) ?_
                      refine lv_goto (tgt := 166) hx hb0 dL_isSo_161 (by decide) ?_
                      refine lv_istore (lv' := [(9, .int r_260), (8, .int y11), (14, .int (1 : Int32)), (7, .int x_266), (6, .int x_263), (13, .int r_260), (12, .int (1 : Int32)), (0, .ref (ad 0)), (1, .int y1), (2, .ref (ad 158)), (3, .ref (ad 159)), (4, .ref (ad 160)), (5, .ref (ad 161)), (10, .int y10), (11, .int y11)]) hx hb0 dL_isSo_166 hl (by decide) rfl (fun ls hl => ?_)
                      obtain ⟨x_278, ex_278⟩ : ∃ y : Int32, y = y11 + 1 := ⟨_, rfl⟩
                      have he := he x_278 ex_278
                      refine lv_iinc (v := x_278) (lv' := [(11, .int x_278), (9, .int r_260), (8, .int y11), (14, .int (1 : Int32)), (7, .int x_266), (6, .int x_263), (13, .int r_260), (12, .int (1 : Int32)), (0, .ref (ad 0)), (1, .int y1), (2, .ref (ad 158)), (3, .ref (ad 159)), (4, .ref (ad 160)), (5, .ref (ad 161)), (10, .int y10)]) hx hb0 dL_isSo_168 hl (k := 14) rfl (by rw [ex_278]; rfl) (by decide) rfl (fun ls hl => ?_)
                      refine lv_goto (tgt := 21) hx hb0 dL_isSo_171 (by decide) ?_
                      exact ih y1 x_263 x_266 y11 r_260 y10 x_278 h_261 he _ _ ls hP hD hS (lv_sub hl [8, 9, 10, 11, 12, 13, 5, 4, 2, 1, 14, 0] rfl)
          · have he := he.1 c_265
            refine lv_iconst (v := (1 : Int32)) hx hb0 dL_isSo_105 (by decide) ?_
            refine lv_iload hx hb0 dL_isSo_106 (lv_at hl 13 rfl) ?_
            refine lv_ishl hx hb0 dL_isSo_108 ?_
            refine lv_goto (tgt := 113) hx hb0 dL_isSo_109 (by decide) ?_
            refine lv_ior hx hb0 dL_isSo_113 ?_
            refine lv_topi (fun x_279 ex_279 => ?_)
            have he := he x_279 ex_279
            refine lv_istore (lv' := [(7, .int x_279), (6, .int x_263), (13, .int r_260), (12, .int (1 : Int32)), (0, .ref (ad 0)), (1, .int y1), (2, .ref (ad 158)), (3, .ref (ad 159)), (4, .ref (ad 160)), (5, .ref (ad 161)), (8, .int y8), (9, .int y9), (10, .int y10), (11, .int y11)]) hx hb0 dL_isSo_114 hl (by decide) rfl (fun ls hl => ?_)
            refine lv_iload hx hb0 dL_isSo_116 (lv_at hl 3 rfl) ?_
            refine lv_if_eq (tgt := 137) hx hb0 dL_isSo_118 (by decide) (fun c_280 => ?_) (fun c_280 => ?_)
            · exact absurd c_280 (by decide)
            · refine lv_iload hx hb0 dL_isSo_121 (lv_at hl 10 rfl) ?_
              refine lv_if_lt (tgt := 133) hx hb0 dL_isSo_123 (by decide) (fun c_281 => ?_) (fun c_281 => ?_)
              · have he := he.1 c_281
                refine lv_iconst (v := (1 : Int32)) hx hb0 dL_isSo_133 (by decide) ?_
                refine lv_goto (tgt := 138) hx hb0 dL_isSo_134 (by decide) ?_
                refine lv_istore (lv' := [(14, .int (1 : Int32)), (7, .int x_279), (6, .int x_263), (13, .int r_260), (12, .int (1 : Int32)), (0, .ref (ad 0)), (1, .int y1), (2, .ref (ad 158)), (3, .ref (ad 159)), (4, .ref (ad 160)), (5, .ref (ad 161)), (8, .int y8), (9, .int y9), (10, .int y10), (11, .int y11)]) hx hb0 dL_isSo_138 hl (by decide) rfl (fun ls hl => ?_)
                refine lv_iload hx hb0 dL_isSo_140 (lv_at hl 0 rfl) ?_
                refine lv_if_eq (tgt := 150) hx hb0 dL_isSo_142 (by decide) (fun c_282 => ?_) (fun c_282 => ?_)
                · exact absurd c_282 (by decide)
                · refine lv_iload hx hb0 dL_isSo_145 (lv_at hl 14 rfl) ?_
                  refine lv_goto (tgt := 152) hx hb0 dL_isSo_147 (by decide) ?_
                  refine lv_istore (lv' := [(8, .int y11), (14, .int (1 : Int32)), (7, .int x_279), (6, .int x_263), (13, .int r_260), (12, .int (1 : Int32)), (0, .ref (ad 0)), (1, .int y1), (2, .ref (ad 158)), (3, .ref (ad 159)), (4, .ref (ad 160)), (5, .ref (ad 161)), (9, .int y9), (10, .int y10), (11, .int y11)]) hx hb0 dL_isSo_152 hl (by decide) rfl (fun ls hl => ?_)
                  refine lv_iload hx hb0 dL_isSo_154 (lv_at hl 1 rfl) ?_
                  refine lv_if_eq (tgt := 164) hx hb0 dL_isSo_156 (by decide) (fun c_283 => ?_) (fun c_283 => ?_)
                  · exact absurd c_283 (by decide)
                  · refine lv_iload hx hb0 dL_isSo_159 (lv_at hl 4 rfl) ?_
                    refine lv_goto (tgt := 166) hx hb0 dL_isSo_161 (by decide) ?_
                    refine lv_istore (lv' := [(9, .int r_260), (8, .int y11), (14, .int (1 : Int32)), (7, .int x_279), (6, .int x_263), (13, .int r_260), (12, .int (1 : Int32)), (0, .ref (ad 0)), (1, .int y1), (2, .ref (ad 158)), (3, .ref (ad 159)), (4, .ref (ad 160)), (5, .ref (ad 161)), (10, .int y10), (11, .int y11)]) hx hb0 dL_isSo_166 hl (by decide) rfl (fun ls hl => ?_)
                    obtain ⟨x_284, ex_284⟩ : ∃ y : Int32, y = y11 + 1 := ⟨_, rfl⟩
                    have he := he x_284 ex_284
                    refine lv_iinc (v := x_284) (lv' := [(11, .int x_284), (9, .int r_260), (8, .int y11), (14, .int (1 : Int32)), (7, .int x_279), (6, .int x_263), (13, .int r_260), (12, .int (1 : Int32)), (0, .ref (ad 0)), (1, .int y1), (2, .ref (ad 158)), (3, .ref (ad 159)), (4, .ref (ad 160)), (5, .ref (ad 161)), (10, .int y10)]) hx hb0 dL_isSo_168 hl (k := 14) rfl (by rw [ex_284]; rfl) (by decide) rfl (fun ls hl => ?_)
                    refine lv_goto (tgt := 21) hx hb0 dL_isSo_171 (by decide) ?_
                    exact ih y1 x_263 x_279 y11 r_260 y10 x_284 h_261 he _ _ ls hP hD hS (lv_sub hl [8, 9, 10, 11, 12, 13, 5, 4, 2, 1, 14, 0] rfl)
              · have he := he.2 c_281
                refine lv_iload hx hb0 dL_isSo_126 (lv_at hl 2 rfl) ?_
                refine lv_iload hx hb0 dL_isSo_128 (lv_at hl 11 rfl) ?_
                refine lv_icmp_ge (tgt := 137) hx hb0 dL_isSo_130 (by decide) (fun c_285 => ?_) (fun c_285 => ?_)
                · have he := he.1 c_285
                  refine lv_iconst (v := (0 : Int32)) hx hb0 dL_isSo_137 (by decide) ?_
                  refine lv_istore (lv' := [(14, .int (0 : Int32)), (7, .int x_279), (6, .int x_263), (13, .int r_260), (12, .int (1 : Int32)), (0, .ref (ad 0)), (1, .int y1), (2, .ref (ad 158)), (3, .ref (ad 159)), (4, .ref (ad 160)), (5, .ref (ad 161)), (8, .int y8), (9, .int y9), (10, .int y10), (11, .int y11)]) hx hb0 dL_isSo_138 hl (by decide) rfl (fun ls hl => ?_)
                  refine lv_iload hx hb0 dL_isSo_140 (lv_at hl 0 rfl) ?_
                  refine lv_if_eq (tgt := 150) hx hb0 dL_isSo_142 (by decide) (fun c_286 => ?_) (fun c_286 => ?_)
                  · refine lv_iload hx hb0 dL_isSo_150 (lv_at hl 11 rfl) ?_
                    refine lv_istore (lv' := [(8, .int y8), (14, .int (0 : Int32)), (7, .int x_279), (6, .int x_263), (13, .int r_260), (12, .int (1 : Int32)), (0, .ref (ad 0)), (1, .int y1), (2, .ref (ad 158)), (3, .ref (ad 159)), (4, .ref (ad 160)), (5, .ref (ad 161)), (9, .int y9), (10, .int y10), (11, .int y11)]) hx hb0 dL_isSo_152 hl (by decide) rfl (fun ls hl => ?_)
                    refine lv_iload hx hb0 dL_isSo_154 (lv_at hl 1 rfl) ?_
                    refine lv_if_eq (tgt := 164) hx hb0 dL_isSo_156 (by decide) (fun c_287 => ?_) (fun c_287 => ?_)
                    · refine lv_iload hx hb0 dL_isSo_164 (lv_at hl 12 rfl) ?_
                      refine lv_istore (lv' := [(9, .int y9), (8, .int y8), (14, .int (0 : Int32)), (7, .int x_279), (6, .int x_263), (13, .int r_260), (12, .int (1 : Int32)), (0, .ref (ad 0)), (1, .int y1), (2, .ref (ad 158)), (3, .ref (ad 159)), (4, .ref (ad 160)), (5, .ref (ad 161)), (10, .int y10), (11, .int y11)]) hx hb0 dL_isSo_166 hl (by decide) rfl (fun ls hl => ?_)
                      obtain ⟨x_288, ex_288⟩ : ∃ y : Int32, y = y11 + 1 := ⟨_, rfl⟩
                      have he := he x_288 ex_288
                      refine lv_iinc (v := x_288) (lv' := [(11, .int x_288), (9, .int y9), (8, .int y8), (14, .int (0 : Int32)), (7, .int x_279), (6, .int x_263), (13, .int r_260), (12, .int (1 : Int32)), (0, .ref (ad 0)), (1, .int y1), (2, .ref (ad 158)), (3, .ref (ad 159)), (4, .ref (ad 160)), (5, .ref (ad 161)), (10, .int y10)]) hx hb0 dL_isSo_168 hl (k := 14) rfl (by rw [ex_288]; rfl) (by decide) rfl (fun ls hl => ?_)
                      refine lv_goto (tgt := 21) hx hb0 dL_isSo_171 (by decide) ?_
                      exact ih y1 x_263 x_279 y8 y9 y10 x_288 h_261 he _ _ ls hP hD hS (lv_sub hl [8, 9, 10, 11, 12, 13, 5, 4, 2, 1, 14, 0] rfl)
                    · exact absurd c_287 (by decide)
                  · exact absurd c_286 (by decide)
                · have he := he.2 c_285
                  refine lv_iconst (v := (1 : Int32)) hx hb0 dL_isSo_133 (by decide) ?_
                  refine lv_goto (tgt := 138) hx hb0 dL_isSo_134 (by decide) ?_
                  refine lv_istore (lv' := [(14, .int (1 : Int32)), (7, .int x_279), (6, .int x_263), (13, .int r_260), (12, .int (1 : Int32)), (0, .ref (ad 0)), (1, .int y1), (2, .ref (ad 158)), (3, .ref (ad 159)), (4, .ref (ad 160)), (5, .ref (ad 161)), (8, .int y8), (9, .int y9), (10, .int y10), (11, .int y11)]) hx hb0 dL_isSo_138 hl (by decide) rfl (fun ls hl => ?_)
                  refine lv_iload hx hb0 dL_isSo_140 (lv_at hl 0 rfl) ?_
                  refine lv_if_eq (tgt := 150) hx hb0 dL_isSo_142 (by decide) (fun c_289 => ?_) (fun c_289 => ?_)
                  · exact absurd c_289 (by decide)
                  · refine lv_iload hx hb0 dL_isSo_145 (lv_at hl 14 rfl) ?_
                    refine lv_goto (tgt := 152) hx hb0 dL_isSo_147 (by decide) ?_
                    refine lv_istore (lv' := [(8, .int y11), (14, .int (1 : Int32)), (7, .int x_279), (6, .int x_263), (13, .int r_260), (12, .int (1 : Int32)), (0, .ref (ad 0)), (1, .int y1), (2, .ref (ad 158)), (3, .ref (ad 159)), (4, .ref (ad 160)), (5, .ref (ad 161)), (9, .int y9), (10, .int y10), (11, .int y11)]) hx hb0 dL_isSo_152 hl (by decide) rfl (fun ls hl => ?_)
                    refine lv_iload hx hb0 dL_isSo_154 (lv_at hl 1 rfl) ?_
                    refine lv_if_eq (tgt := 164) hx hb0 dL_isSo_156 (by decide) (fun c_290 => ?_) (fun c_290 => ?_)
                    · exact absurd c_290 (by decide)
                    · refine lv_iload hx hb0 dL_isSo_159 (lv_at hl 4 rfl) ?_
                      refine lv_goto (tgt := 166) hx hb0 dL_isSo_161 (by decide) ?_
                      refine lv_istore (lv' := [(9, .int r_260), (8, .int y11), (14, .int (1 : Int32)), (7, .int x_279), (6, .int x_263), (13, .int r_260), (12, .int (1 : Int32)), (0, .ref (ad 0)), (1, .int y1), (2, .ref (ad 158)), (3, .ref (ad 159)), (4, .ref (ad 160)), (5, .ref (ad 161)), (10, .int y10), (11, .int y11)]) hx hb0 dL_isSo_166 hl (by decide) rfl (fun ls hl => ?_)
                      obtain ⟨x_291, ex_291⟩ : ∃ y : Int32, y = y11 + 1 := ⟨_, rfl⟩
                      have he := he x_291 ex_291
                      refine lv_iinc (v := x_291) (lv' := [(11, .int x_291), (9, .int r_260), (8, .int y11), (14, .int (1 : Int32)), (7, .int x_279), (6, .int x_263), (13, .int r_260), (12, .int (1 : Int32)), (0, .ref (ad 0)), (1, .int y1), (2, .ref (ad 158)), (3, .ref (ad 159)), (4, .ref (ad 160)), (5, .ref (ad 161)), (10, .int y10)]) hx hb0 dL_isSo_168 hl (k := 14) rfl (by rw [ex_291]; rfl) (by decide) rfl (fun ls hl => ?_)
                      refine lv_goto (tgt := 21) hx hb0 dL_isSo_171 (by decide) ?_
                      exact ih y1 x_263 x_279 y11 r_260 y10 x_291 h_261 he _ _ ls hP hD hS (lv_sub hl [8, 9, 10, 11, 12, 13, 5, 4, 2, 1, 14, 0] rfl)
set_option maxHeartbeats 4000000 in
set_option maxRecDepth 100000 in
theorem c_L_isSo (l : Launch) (dC : Nat → ClassId) (dI : Nat → Nat → Nat) (P : gP) (ad : Nat → Nat) (tb : Nat → Nat) (x1 : Int32) (h0 : Hp) (Q : Int32 → Hp → Prop) (he : F_L_isSo x1 h0 Q) : Met l yL_isSo (Cond.code yL_isSo cL_isSo 15 (some .boolean) :: TB) rm_L_isSo (gPc (dC, dI) vwCl (tyC P) 162 (cE P ad) ad (gKC tb (gA 162 ad)) h0 [.ref (ad 0), .int x1, .ref (ad 158), .ref (ad 159), .ref (ad 160), .ref (ad 161)]) (gQi (dC, dI) vwCl (tyC P) 162 (cE P ad) ad Q) 0 0 (gA 162 ad) := by
  refine gx_start (by decide) (Nat.le_of_ble_eq_true rfl) (fun p e s m below meth c ls hx hb0 hr hlocks hml hown hts hK hk hP hD hS hl => ?_)
  have hl : lv_has ls 15 [(0, .ref (ad 0)), (1, .int x1), (2, .ref (ad 158)), (3, .ref (ad 159)), (4, .ref (ad 160)), (5, .ref (ad 161))] := hl
  have hown : s.vm.findClass RL = some m.cls := hown
  unfold F_L_isSo at he
  refine lv_iconst (v := (0 : Int32)) hx hb0 dL_isSo_0 (by decide) ?_
  refine lv_istore (lv' := [(6, .int (0 : Int32)), (0, .ref (ad 0)), (1, .int x1), (2, .ref (ad 158)), (3, .ref (ad 159)), (4, .ref (ad 160)), (5, .ref (ad 161))]) hx hb0 dL_isSo_1 hl (by decide) rfl (fun ls hl => ?_)
  refine lv_iconst (v := (0 : Int32)) hx hb0 dL_isSo_3 (by decide) ?_
  refine lv_istore (lv' := [(7, .int (0 : Int32)), (6, .int (0 : Int32)), (0, .ref (ad 0)), (1, .int x1), (2, .ref (ad 158)), (3, .ref (ad 159)), (4, .ref (ad 160)), (5, .ref (ad 161))]) hx hb0 dL_isSo_4 hl (by decide) rfl (fun ls hl => ?_)
  refine lv_bipush (v := (-6 : Int32)) hx hb0 dL_isSo_6 (by decide) ?_
  refine lv_istore (lv' := [(8, .int (-6 : Int32)), (7, .int (0 : Int32)), (6, .int (0 : Int32)), (0, .ref (ad 0)), (1, .int x1), (2, .ref (ad 158)), (3, .ref (ad 159)), (4, .ref (ad 160)), (5, .ref (ad 161))]) hx hb0 dL_isSo_8 hl (by decide) rfl (fun ls hl => ?_)
  refine lv_bipush (v := (-6 : Int32)) hx hb0 dL_isSo_10 (by decide) ?_
  refine lv_istore (lv' := [(9, .int (-6 : Int32)), (8, .int (-6 : Int32)), (7, .int (0 : Int32)), (6, .int (0 : Int32)), (0, .ref (ad 0)), (1, .int x1), (2, .ref (ad 158)), (3, .ref (ad 159)), (4, .ref (ad 160)), (5, .ref (ad 161))]) hx hb0 dL_isSo_12 hl (by decide) rfl (fun ls hl => ?_)
  refine lv_bipush (v := (-6 : Int32)) hx hb0 dL_isSo_14 (by decide) ?_
  refine lv_istore (lv' := [(10, .int (-6 : Int32)), (9, .int (-6 : Int32)), (8, .int (-6 : Int32)), (7, .int (0 : Int32)), (6, .int (0 : Int32)), (0, .ref (ad 0)), (1, .int x1), (2, .ref (ad 158)), (3, .ref (ad 159)), (4, .ref (ad 160)), (5, .ref (ad 161))]) hx hb0 dL_isSo_16 hl (by decide) rfl (fun ls hl => ?_)
  refine lv_iconst (v := (0 : Int32)) hx hb0 dL_isSo_18 (by decide) ?_
  refine lv_istore (lv' := [(11, .int (0 : Int32)), (10, .int (-6 : Int32)), (9, .int (-6 : Int32)), (8, .int (-6 : Int32)), (7, .int (0 : Int32)), (6, .int (0 : Int32)), (0, .ref (ad 0)), (1, .int x1), (2, .ref (ad 158)), (3, .ref (ad 159)), (4, .ref (ad 160)), (5, .ref (ad 161))]) hx hb0 dL_isSo_19 hl (by decide) rfl (fun ls hl => ?_)
  obtain ⟨n_292, he⟩ := he
  exact l_L_isSo_21 l dC dI P ad tb  hx hb0 hr hlocks hml hown hts hK hk Q n_292 x1 (0 : Int32) (0 : Int32) (-6 : Int32) (-6 : Int32) (-6 : Int32) (0 : Int32) h0 he _ _ ls hP hD hS (lv_sub hl [6, 7, 8, 9, 10, 11, 5, 4, 3, 2, 1, 0] rfl)
theorem gm_L_isSo : gMeth yL_isSo cL_isSo 15 (some .boolean) 6 := ⟨⟨by decide, by decide, by decide +kernel⟩, ini_RL, co_yL_isSo⟩
