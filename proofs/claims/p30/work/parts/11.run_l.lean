abbrev rm_L_isNavigator : Room := { frames := 6, cells := 0, slots := 0, locals := 124 }
set_option maxHeartbeats 4000000 in
set_option maxRecDepth 100000 in
theorem l_L_isNavigator_260 (l : Launch) (dC : Nat → ClassId) (dI : Nat → Nat → Nat) (P : gP) (ad : Nat → Nat) (tb : Nat → Nat) {p : Program} {e : Env} {s : State} {m : MethodId} {args : Array Value} {below : List Frame} {meth : Method} {c : Code} (hx : p.tables.exec = Jvm.exec) (hb0 : c.code = cL_isNavigator) (hr : meth.sig.returnType = (some .boolean)) (hlocks : meth.locks = false) (hml : c.maxLocals = 11) (hown : s.vm.findClass RL = some m.cls) (hts : ∀ w ∈ TB, w.before args s = true) (hK : va_K (dC, dI) vwCl (tyC P) s) (hk : (gKC tb (gA 162 ad)) s) (Q : Int32 → Hp → Prop) : ∀ (n : Nat) (y1 : Int32) (y2 : Int32) (y6 : Int32) (y7 : Int32) (y8 : Int32) (y9 : Int32) (y10 : Int32) (h0 : Hp), F_L_isNavigator_L260  n y1 y2 y6 y7 y8 y9 y10 h0 Q → ∀ (H : Heap) (locs : List Loc) (ls : Array Slot), va_P (dC, dI) vwCl (gW 162 (cE P ad) ad h0) H → va_D (gA 162 ad) (gW 162 (cE P ad) ad h0) → va_S (gA 162 ad) s.heap H locs → lv_has ls 11 [(0, .ref (ad 0)), (1, .int y1), (2, .int y2), (3, .ref (ad 158)), (4, .ref (ad 159)), (5, .ref (ad 160)), (6, .int y6), (7, .int y7), (8, .int y8), (9, .int y9), (10, .int y10)] → W p l e rm_L_isNavigator s m args below meth c H locs 0 0 (MQ below (gQi (dC, dI) vwCl (tyC P) 162 (cE P ad) ad Q) args s 0 0 (gA 162 ad)) (F0 m 260 ls []) := by
  intro n
  induction n with
  | zero =>
    intro y1 y2 y6 y7 y8 y9 y10 h0 he
    exact he.elim
  | succ n ih =>
    intro y1 y2 y6 y7 y8 y9 y10 h0 he H locs ls hP hD hS hl
    rw [F_L_isNavigator_L260] at he
    refine lv_iload hx hb0 dL_isNavigator_260 (lv_at hl 10 rfl) ?_
    refine lv_bipush (v := (7 : Int32)) hx hb0 dL_isNavigator_262 (by decide) ?_
    refine lv_icmp_ge (tgt := 300) hx hb0 dL_isNavigator_264 (by decide) (fun c_9 => ?_) (fun c_9 => ?_)
    · have he := he.1 c_9
      refine lv_iload_n hx hb0 dL_isNavigator_300 rfl (lv_at hl 1 rfl) ?_
      refine lv_iload_n hx hb0 dL_isNavigator_301 rfl (lv_at hl 2 rfl) ?_
      refine lv_aload_n hx hb0 dL_isNavigator_302 rfl (lv_at hl 3 rfl) ?_
      refine lv_aload hx hb0 dL_isNavigator_303 (lv_at hl 4 rfl) ?_
      refine lv_aload hx hb0 dL_isNavigator_305 (lv_at hl 5 rfl) ?_
      refine gx_si ⟨hx, hb0, hml, hown, hts⟩ (gKC_keep _ _) hk hK hP hD hS [.int y1, .int y2, .ref (ad 158), .ref (ad 159), .ref (ad 160)] [] (c_L_why l dC dI P ad tb y1 y2 h0 _ he) gm_L_why st_yL_why ml_RL_72 rfl rfl ⟨Nat.le_of_ble_eq_true rfl, Nat.le_of_ble_eq_true rfl⟩ rfl hl.1 rfl (Nat.le_of_ble_eq_true rfl) dL_isNavigator_307 ⟨Nat.zero_le _, Nat.zero_le _⟩ (fun r_10 h_11 he H locs hP hD hS => ?_)
      refine lv_istore (lv' := [(10, .int r_10), (0, .ref (ad 0)), (1, .int y1), (2, .int y2), (3, .ref (ad 158)), (4, .ref (ad 159)), (5, .ref (ad 160)), (6, .int y6), (7, .int y7), (8, .int y8), (9, .int y9)]) hx hb0 dL_isNavigator_310 hl (by decide) rfl (fun ls hl => ?_)
      refine lv_iload hx hb0 dL_isNavigator_312 (lv_at hl 9 rfl) ?_
      refine lv_if_eq (tgt := 365) hx hb0 dL_isNavigator_314 (by decide) (fun c_12 => ?_) (fun c_12 => ?_)
      · have he := he.1 c_12
        refine lv_iconst (v := (0 : Int32)) hx hb0 dL_isNavigator_365 (by decide) ?_
        refine lv_istore (lv' := [(8, .int (0 : Int32)), (10, .int r_10), (0, .ref (ad 0)), (1, .int y1), (2, .int y2), (3, .ref (ad 158)), (4, .ref (ad 159)), (5, .ref (ad 160)), (6, .int y6), (7, .int y7), (9, .int y9)]) hx hb0 dL_isNavigator_366 hl (by decide) rfl (fun ls hl => ?_)
        refine lv_iload hx hb0 dL_isNavigator_368 (lv_at hl 0 rfl) ?_
        refine lv_if_eq (tgt := 451) hx hb0 dL_isNavigator_370 (by decide) (fun c_13 => ?_) (fun c_13 => ?_)
        · refine lv_iconst (v := (0 : Int32)) hx hb0 dL_isNavigator_451 (by decide) ?_
          exact gx_zret hx hb0 hr (by decide) hlocks hK hP hD hS he dL_isNavigator_452
        · exact absurd c_13 (by decide)
      · have he := he.2 c_12
        refine lv_aload_n hx hb0 dL_isNavigator_317 rfl (lv_at hl 1 rfl) ?_
        refine lv_iload_n hx hb0 dL_isNavigator_318 rfl (lv_at hl 2 rfl) ?_
        refine lv_iload_n hx hb0 dL_isNavigator_319 rfl (lv_at hl 3 rfl) ?_
        refine gx_vi ⟨hx, hb0, hml, hown, hts⟩ (gKC_keep _ _) hk hK hP hD hS 0 [.int y1, .int y2] [] (c_X7_why l dC dI P ad tb y1 y2 h_11 _ he) gm_X7_why im_yX7_why se_yX7_why ml_RL_96 (by decide) (cE_t0 _) rfl rfl rfl ⟨Nat.le_of_ble_eq_true rfl, Nat.le_of_ble_eq_true rfl⟩ rfl hl.1 rfl (Nat.le_of_ble_eq_true rfl) dL_isNavigator_320 ⟨Nat.zero_le _, Nat.zero_le _⟩ (fun r_14 h_15 he H locs hP hD hS => ?_)
        refine lv_iload hx hb0 dL_isNavigator_323 (lv_at hl 0 rfl) ?_
        refine lv_icmp_ne (tgt := 365) hx hb0 dL_isNavigator_325 (by decide) (fun c_16 => ?_) (fun c_16 => ?_)
        · have he := he.2 c_16
          refine lv_iconst (v := (0 : Int32)) hx hb0 dL_isNavigator_365 (by decide) ?_
          refine lv_istore (lv' := [(8, .int (0 : Int32)), (10, .int r_10), (0, .ref (ad 0)), (1, .int y1), (2, .int y2), (3, .ref (ad 158)), (4, .ref (ad 159)), (5, .ref (ad 160)), (6, .int y6), (7, .int y7), (9, .int y9)]) hx hb0 dL_isNavigator_366 hl (by decide) rfl (fun ls hl => ?_)
          refine lv_iload hx hb0 dL_isNavigator_368 (lv_at hl 0 rfl) ?_
          refine lv_if_eq (tgt := 451) hx hb0 dL_isNavigator_370 (by decide) (fun c_17 => ?_) (fun c_17 => ?_)
          · refine lv_iconst (v := (0 : Int32)) hx hb0 dL_isNavigator_451 (by decide) ?_
            exact gx_zret hx hb0 hr (by decide) hlocks hK hP hD hS he dL_isNavigator_452
          · exact absurd c_17 (by decide)
        · have he := he.1 c_16
          refine lv_aload_n hx hb0 dL_isNavigator_328 rfl (lv_at hl 1 rfl) ?_
          refine lv_iload_n hx hb0 dL_isNavigator_329 rfl (lv_at hl 2 rfl) ?_
          refine lv_iload_n hx hb0 dL_isNavigator_330 rfl (lv_at hl 3 rfl) ?_
          refine gx_vi ⟨hx, hb0, hml, hown, hts⟩ (gKC_keep _ _) hk hK hP hD hS 0 [.int y1, .int y2] [] (c_X7_ifSighted l dC dI P ad tb y1 y2 h_15 _ he) gm_X7_ifSighted im_yX7_ifSighted se_yX7_ifSighted ml_RL_98 (by decide) (cE_t0 _) rfl rfl rfl ⟨Nat.le_of_ble_eq_true rfl, Nat.le_of_ble_eq_true rfl⟩ rfl hl.1 rfl (Nat.le_of_ble_eq_true rfl) dL_isNavigator_331 ⟨Nat.zero_le _, Nat.zero_le _⟩ (fun r_18 h_19 he H locs hP hD hS => ?_)
          refine lv_iload hx hb0 dL_isNavigator_334 (lv_at hl 0 rfl) ?_
          refine lv_if_le (tgt := 344) hx hb0 dL_isNavigator_336 (by decide) (fun c_20 => ?_) (fun c_20 => ?_)
          · have he := he.1 c_20
            refine lv_iload_n hx hb0 dL_isNavigator_344 rfl (lv_at hl 2 rfl) ?_
            refine lv_iload_n hx hb0 dL_isNavigator_345 rfl (lv_at hl 3 rfl) ?_
            refine lv_aload_n hx hb0 dL_isNavigator_346 rfl (lv_at hl 4 rfl) ?_
            refine lv_aload hx hb0 dL_isNavigator_347 (lv_at hl 5 rfl) ?_
            refine lv_aload hx hb0 dL_isNavigator_349 (lv_at hl 6 rfl) ?_
            refine gx_si ⟨hx, hb0, hml, hown, hts⟩ (gKC_keep _ _) hk hK hP hD hS [.int y1, .int y2, .ref (ad 158), .ref (ad 159), .ref (ad 160)] [.int r_18] (c_L_would l dC dI P ad tb y1 y2 h_19 _ he) gm_L_would st_yL_would ml_RL_76 rfl rfl ⟨Nat.le_of_ble_eq_true rfl, Nat.le_of_ble_eq_true rfl⟩ rfl hl.1 rfl (Nat.le_of_ble_eq_true rfl) dL_isNavigator_351 ⟨Nat.zero_le _, Nat.zero_le _⟩ (fun r_21 h_22 he H locs hP hD hS => ?_)
            refine lv_sipush (v := (5400 : Int32)) hx hb0 dL_isNavigator_354 (by decide) ?_
            refine lv_iadd hx hb0 dL_isNavigator_357 ?_
            refine lv_icmp_ne (tgt := 365) hx hb0 dL_isNavigator_358 (by decide) (fun c_23 => ?_) (fun c_23 => ?_)
            · have he := he.2 c_23
              refine lv_iconst (v := (0 : Int32)) hx hb0 dL_isNavigator_365 (by decide) ?_
              refine lv_istore (lv' := [(8, .int (0 : Int32)), (10, .int r_10), (0, .ref (ad 0)), (1, .int y1), (2, .int y2), (3, .ref (ad 158)), (4, .ref (ad 159)), (5, .ref (ad 160)), (6, .int y6), (7, .int y7), (9, .int y9)]) hx hb0 dL_isNavigator_366 hl (by decide) rfl (fun ls hl => ?_)
              refine lv_iload hx hb0 dL_isNavigator_368 (lv_at hl 0 rfl) ?_
              refine lv_if_eq (tgt := 451) hx hb0 dL_isNavigator_370 (by decide) (fun c_24 => ?_) (fun c_24 => ?_)
              · refine lv_iconst (v := (0 : Int32)) hx hb0 dL_isNavigator_451 (by decide) ?_
                exact gx_zret hx hb0 hr (by decide) hlocks hK hP hD hS he dL_isNavigator_452
              · exact absurd c_24 (by decide)
            · have he := he.1 c_23
              refine lv_iconst (v := (1 : Int32)) hx hb0 dL_isNavigator_361 (by decide) ?_
              refine lv_goto (tgt := 366) hx hb0 dL_isNavigator_362 (by decide) ?_
              refine lv_istore (lv' := [(8, .int (1 : Int32)), (10, .int r_10), (0, .ref (ad 0)), (1, .int y1), (2, .int y2), (3, .ref (ad 158)), (4, .ref (ad 159)), (5, .ref (ad 160)), (6, .int y6), (7, .int y7), (9, .int y9)]) hx hb0 dL_isNavigator_366 hl (by decide) rfl (fun ls hl => ?_)
              refine lv_iload hx hb0 dL_isNavigator_368 (lv_at hl 0 rfl) ?_
              refine lv_if_eq (tgt := 451) hx hb0 dL_isNavigator_370 (by decide) (fun c_25 => ?_) (fun c_25 => ?_)
              · exact absurd c_25 (by decide)
              · refine lv_aload_n hx hb0 dL_isNavigator_373 rfl (lv_at hl 2 rfl) ?_
                refine lv_iload_n hx hb0 dL_isNavigator_374 rfl (lv_at hl 4 rfl) ?_
                refine lv_iconst (v := (0 : Int32)) hx hb0 dL_isNavigator_375 (by decide) ?_
                refine gx_vi ⟨hx, hb0, hml, hown, hts⟩ (gKC_keep _ _) hk hK hP hD hS 0 [.int y2, .int (0 : Int32)] [] (c_X7_ofStar l dC dI P ad tb y2 (0 : Int32) h_22 _ he) gm_X7_ofStar im_yX7_ofStar se_yX7_ofStar ml_RL_101 (by decide) (cE_t0 _) rfl rfl rfl ⟨Nat.le_of_ble_eq_true rfl, Nat.le_of_ble_eq_true rfl⟩ rfl hl.1 rfl (Nat.le_of_ble_eq_true rfl) dL_isNavigator_376 ⟨Nat.zero_le _, Nat.zero_le _⟩ (fun r_26 h_27 he H locs hP hD hS => ?_)
                refine lv_iload_n hx hb0 dL_isNavigator_379 rfl (lv_at hl 4 rfl) ?_
                refine lv_aload hx hb0 dL_isNavigator_380 (lv_at hl 6 rfl) ?_
                refine gx_si ⟨hx, hb0, hml, hown, hts⟩ (gKC_keep _ _) hk hK hP hD hS [.int y2, .ref (ad 159)] [.int r_26] (c_L_declination l dC dI P ad tb y2 h_27 _ he) gm_L_declination st_yL_declination ml_RL_10 rfl rfl ⟨Nat.le_of_ble_eq_true rfl, Nat.le_of_ble_eq_true rfl⟩ rfl hl.1 rfl (Nat.le_of_ble_eq_true rfl) dL_isNavigator_382 ⟨Nat.zero_le _, Nat.zero_le _⟩ (fun r_28 h_29 he H locs hP hD hS => ?_)
                refine lv_sipush (v := (5400 : Int32)) hx hb0 dL_isNavigator_385 (by decide) ?_
                refine lv_iadd hx hb0 dL_isNavigator_388 ?_
                refine lv_icmp_ne (tgt := 451) hx hb0 dL_isNavigator_389 (by decide) (fun c_30 => ?_) (fun c_30 => ?_)
                · have he := he.2 c_30
                  refine lv_iconst (v := (0 : Int32)) hx hb0 dL_isNavigator_451 (by decide) ?_
                  exact gx_zret hx hb0 hr (by decide) hlocks hK hP hD hS he dL_isNavigator_452
                · have he := he.1 c_30
                  refine lv_aload_n hx hb0 dL_isNavigator_392 rfl (lv_at hl 2 rfl) ?_
                  refine lv_iload_n hx hb0 dL_isNavigator_393 rfl (lv_at hl 4 rfl) ?_
                  refine lv_iconst (v := (1 : Int32)) hx hb0 dL_isNavigator_394 (by decide) ?_
                  refine gx_vi ⟨hx, hb0, hml, hown, hts⟩ (gKC_keep _ _) hk hK hP hD hS 0 [.int y2, .int (1 : Int32)] [] (c_X7_ofStar l dC dI P ad tb y2 (1 : Int32) h_29 _ he) gm_X7_ofStar im_yX7_ofStar se_yX7_ofStar ml_RL_101 (by decide) (cE_t0 _) rfl rfl rfl ⟨Nat.le_of_ble_eq_true rfl, Nat.le_of_ble_eq_true rfl⟩ rfl hl.1 rfl (Nat.le_of_ble_eq_true rfl) dL_isNavigator_395 ⟨Nat.zero_le _, Nat.zero_le _⟩ (fun r_31 h_32 he H locs hP hD hS => ?_)
                  refine lv_aload hx hb0 dL_isNavigator_398 (lv_at hl 6 rfl) ?_
                  refine lv_iload_n hx hb0 dL_isNavigator_400 rfl (lv_at hl 4 rfl) ?_
                  obtain ⟨v_33, he⟩ := he
                  refine gx_iald hx hb0 hK hP 159 0 (by decide) cE_t159 rfl v_33 dL_isNavigator_401 ?_
                  refine lv_sipush (v := (9000 : Int32)) hx hb0 dL_isNavigator_402 (by decide) ?_
                  refine lv_icmp_le (tgt := 412) hx hb0 dL_isNavigator_405 (by decide) (fun c_34 => ?_) (fun c_34 => ?_)
                  · have he := he.1 c_34
                    refine lv_iconst (v := (0 : Int32)) hx hb0 dL_isNavigator_412 (by decide) ?_
                    refine lv_icmp_ne (tgt := 451) hx hb0 dL_isNavigator_413 (by decide) (fun c_35 => ?_) (fun c_35 => ?_)
                    · have he := he.2 c_35
                      refine lv_iconst (v := (0 : Int32)) hx hb0 dL_isNavigator_451 (by decide) ?_
                      exact gx_zret hx hb0 hr (by decide) hlocks hK hP hD hS he dL_isNavigator_452
                    · have he := he.1 c_35
                      refine lv_aload_n hx hb0 dL_isNavigator_416 rfl (lv_at hl 2 rfl) ?_
                      refine lv_iload_n hx hb0 dL_isNavigator_417 rfl (lv_at hl 4 rfl) ?_
                      refine lv_iconst (v := (2 : Int32)) hx hb0 dL_isNavigator_418 (by decide) ?_
                      refine gx_vi ⟨hx, hb0, hml, hown, hts⟩ (gKC_keep _ _) hk hK hP hD hS 0 [.int y2, .int (2 : Int32)] [] (c_X7_ofStar l dC dI P ad tb y2 (2 : Int32) h_32 _ he) gm_X7_ofStar im_yX7_ofStar se_yX7_ofStar ml_RL_101 (by decide) (cE_t0 _) rfl rfl rfl ⟨Nat.le_of_ble_eq_true rfl, Nat.le_of_ble_eq_true rfl⟩ rfl hl.1 rfl (Nat.le_of_ble_eq_true rfl) dL_isNavigator_419 ⟨Nat.zero_le _, Nat.zero_le _⟩ (fun r_36 h_37 he H locs hP hD hS => ?_)
                      refine lv_iload_n hx hb0 dL_isNavigator_422 rfl (lv_at hl 4 rfl) ?_
                      refine lv_aload_n hx hb0 dL_isNavigator_423 rfl (lv_at hl 5 rfl) ?_
                      refine lv_aload hx hb0 dL_isNavigator_424 (lv_at hl 6 rfl) ?_
                      refine gx_si ⟨hx, hb0, hml, hown, hts⟩ (gKC_keep _ _) hk hK hP hD hS [.int y2, .ref (ad 158), .ref (ad 159)] [.int r_36] (c_L_height l dC dI P ad tb y2 h_37 _ he) gm_L_height st_yL_height ml_RL_20 rfl rfl ⟨Nat.le_of_ble_eq_true rfl, Nat.le_of_ble_eq_true rfl⟩ rfl hl.1 rfl (Nat.le_of_ble_eq_true rfl) dL_isNavigator_426 ⟨Nat.zero_le _, Nat.zero_le _⟩ (fun r_38 h_39 he H locs hP hD hS => ?_)
                      refine lv_sipush (v := (5400 : Int32)) hx hb0 dL_isNavigator_429 (by decide) ?_
                      refine lv_iadd hx hb0 dL_isNavigator_432 ?_
                      refine lv_icmp_ne (tgt := 451) hx hb0 dL_isNavigator_433 (by decide) (fun c_40 => ?_) (fun c_40 => ?_)
                      · have he := he.2 c_40
                        refine lv_iconst (v := (0 : Int32)) hx hb0 dL_isNavigator_451 (by decide) ?_
                        exact gx_zret hx hb0 hr (by decide) hlocks hK hP hD hS he dL_isNavigator_452
                      · have he := he.1 c_40
                        refine lv_aload_n hx hb0 dL_isNavigator_436 rfl (lv_at hl 2 rfl) ?_
                        refine lv_iload_n hx hb0 dL_isNavigator_437 rfl (lv_at hl 4 rfl) ?_
                        refine lv_iconst (v := (3 : Int32)) hx hb0 dL_isNavigator_438 (by decide) ?_
                        refine gx_vi ⟨hx, hb0, hml, hown, hts⟩ (gKC_keep _ _) hk hK hP hD hS 0 [.int y2, .int (3 : Int32)] [] (c_X7_ofStar l dC dI P ad tb y2 (3 : Int32) h_39 _ he) gm_X7_ofStar im_yX7_ofStar se_yX7_ofStar ml_RL_101 (by decide) (cE_t0 _) rfl rfl rfl ⟨Nat.le_of_ble_eq_true rfl, Nat.le_of_ble_eq_true rfl⟩ rfl hl.1 rfl (Nat.le_of_ble_eq_true rfl) dL_isNavigator_439 ⟨Nat.zero_le _, Nat.zero_le _⟩ (fun r_41 h_42 he H locs hP hD hS => ?_)
                        refine lv_iload hx hb0 dL_isNavigator_442 (lv_at hl 10 rfl) ?_
                        refine lv_icmp_ne (tgt := 451) hx hb0 dL_isNavigator_444 (by decide) (fun c_43 => ?_) (fun c_43 => ?_)
                        · have he := he.2 c_43
                          refine lv_iconst (v := (0 : Int32)) hx hb0 dL_isNavigator_451 (by decide) ?_
                          exact gx_zret hx hb0 hr (by decide) hlocks hK hP hD hS he dL_isNavigator_452
                        · have he := he.1 c_43
                          refine lv_iconst (v := (1 : Int32)) hx hb0 dL_isNavigator_447 (by decide) ?_
                          refine lv_goto (tgt := 452) hx hb0 dL_isNavigator_448 (by decide) ?_
                          exact gx_zret hx hb0 hr (by decide) hlocks hK hP hD hS he dL_isNavigator_452
                  · have he := he.2 c_34
                    refine lv_iconst (v := (1 : Int32)) hx hb0 dL_isNavigator_408 (by decide) ?_
                    refine lv_goto (tgt := 413) hx hb0 dL_isNavigator_409 (by decide) ?_
                    refine lv_icmp_ne (tgt := 451) hx hb0 dL_isNavigator_413 (by decide) (fun c_44 => ?_) (fun c_44 => ?_)
                    · have he := he.2 c_44
                      refine lv_iconst (v := (0 : Int32)) hx hb0 dL_isNavigator_451 (by decide) ?_
                      exact gx_zret hx hb0 hr (by decide) hlocks hK hP hD hS he dL_isNavigator_452
                    · have he := he.1 c_44
                      refine lv_aload_n hx hb0 dL_isNavigator_416 rfl (lv_at hl 2 rfl) ?_
                      refine lv_iload_n hx hb0 dL_isNavigator_417 rfl (lv_at hl 4 rfl) ?_
                      refine lv_iconst (v := (2 : Int32)) hx hb0 dL_isNavigator_418 (by decide) ?_
                      refine gx_vi ⟨hx, hb0, hml, hown, hts⟩ (gKC_keep _ _) hk hK hP hD hS 0 [.int y2, .int (2 : Int32)] [] (c_X7_ofStar l dC dI P ad tb y2 (2 : Int32) h_32 _ he) gm_X7_ofStar im_yX7_ofStar se_yX7_ofStar ml_RL_101 (by decide) (cE_t0 _) rfl rfl rfl ⟨Nat.le_of_ble_eq_true rfl, Nat.le_of_ble_eq_true rfl⟩ rfl hl.1 rfl (Nat.le_of_ble_eq_true rfl) dL_isNavigator_419 ⟨Nat.zero_le _, Nat.zero_le _⟩ (fun r_45 h_46 he H locs hP hD hS => ?_)
                      refine lv_iload_n hx hb0 dL_isNavigator_422 rfl (lv_at hl 4 rfl) ?_
                      refine lv_aload_n hx hb0 dL_isNavigator_423 rfl (lv_at hl 5 rfl) ?_
                      refine lv_aload hx hb0 dL_isNavigator_424 (lv_at hl 6 rfl) ?_
                      refine gx_si ⟨hx, hb0, hml, hown, hts⟩ (gKC_keep _ _) hk hK hP hD hS [.int y2, .ref (ad 158), .ref (ad 159)] [.int r_45] (c_L_height l dC dI P ad tb y2 h_46 _ he) gm_L_height st_yL_height ml_RL_20 rfl rfl ⟨Nat.le_of_ble_eq_true rfl, Nat.le_of_ble_eq_true rfl⟩ rfl hl.1 rfl (Nat.le_of_ble_eq_true rfl) dL_isNavigator_426 ⟨Nat.zero_le _, Nat.zero_le _⟩ (fun r_47 h_48 he H locs hP hD hS => ?_)
                      refine lv_sipush (v := (5400 : Int32)) hx hb0 dL_isNavigator_429 (by decide) ?_
                      refine lv_iadd hx hb0 dL_isNavigator_432 ?_
                      refine lv_icmp_ne (tgt := 451) hx hb0 dL_isNavigator_433 (by decide) (fun c_49 => ?_) (fun c_49 => ?_)
                      · have he := he.2 c_49
                        refine lv_iconst (v := (0 : Int32)) hx hb0 dL_isNavigator_451 (by decide) ?_
                        exact gx_zret hx hb0 hr (by decide) hlocks hK hP hD hS he dL_isNavigator_452
                      · have he := he.1 c_49
                        refine lv_aload_n hx hb0 dL_isNavigator_436 rfl (lv_at hl 2 rfl) ?_
                        refine lv_iload_n hx hb0 dL_isNavigator_437 rfl (lv_at hl 4 rfl) ?_
                        refine lv_iconst (v := (3 : Int32)) hx hb0 dL_isNavigator_438 (by decide) ?_
                        refine gx_vi ⟨hx, hb0, hml, hown, hts⟩ (gKC_keep _ _) hk hK hP hD hS 0 [.int y2, .int (3 : Int32)] [] (c_X7_ofStar l dC dI P ad tb y2 (3 : Int32) h_48 _ he) gm_X7_ofStar im_yX7_ofStar se_yX7_ofStar ml_RL_101 (by decide) (cE_t0 _) rfl rfl rfl ⟨Nat.le_of_ble_eq_true rfl, Nat.le_of_ble_eq_true rfl⟩ rfl hl.1 rfl (Nat.le_of_ble_eq_true rfl) dL_isNavigator_439 ⟨Nat.zero_le _, Nat.zero_le _⟩ (fun r_50 h_51 he H locs hP hD hS => ?_)
                        refine lv_iload hx hb0 dL_isNavigator_442 (lv_at hl 10 rfl) ?_
                        refine lv_icmp_ne (tgt := 451) hx hb0 dL_isNavigator_444 (by decide) (fun c_52 => ?_) (fun c_52 => ?_)
                        · have he := he.2 c_52
                          refine lv_iconst (v := (0 : Int32)) hx hb0 dL_isNavigator_451 (by decide) ?_
                          exact gx_zret hx hb0 hr (by decide) hlocks hK hP hD hS he dL_isNavigator_452
                        · have he := he.1 c_52
                          refine lv_iconst (v := (1 : Int32)) hx hb0 dL_isNavigator_447 (by decide) ?_
                          refine lv_goto (tgt := 452) hx hb0 dL_isNavigator_448 (by decide) ?_
                          exact gx_zret hx hb0 hr (by decide) hlocks hK hP hD hS he dL_isNavigator_452
          · have he := he.2 c_20
            refine lv_bipush (v := (-5 : Int32)) hx hb0 dL_isNavigator_339 (by decide) ?_
            refine lv_goto (tgt := 358) hx hb0 dL_isNavigator_341 (by decide) ?_
            refine lv_icmp_ne (tgt := 365) hx hb0 dL_isNavigator_358 (by decide) (fun c_53 => ?_) (fun c_53 => ?_)
            · have he := he.2 c_53
              refine lv_iconst (v := (0 : Int32)) hx hb0 dL_isNavigator_365 (by decide) ?_
              refine lv_istore (lv' := [(8, .int (0 : Int32)), (10, .int r_10), (0, .ref (ad 0)), (1, .int y1), (2, .int y2), (3, .ref (ad 158)), (4, .ref (ad 159)), (5, .ref (ad 160)), (6, .int y6), (7, .int y7), (9, .int y9)]) hx hb0 dL_isNavigator_366 hl (by decide) rfl (fun ls hl => ?_)
              refine lv_iload hx hb0 dL_isNavigator_368 (lv_at hl 0 rfl) ?_
              refine lv_if_eq (tgt := 451) hx hb0 dL_isNavigator_370 (by decide) (fun c_54 => ?_) (fun c_54 => ?_)
              · refine lv_iconst (v := (0 : Int32)) hx hb0 dL_isNavigator_451 (by decide) ?_
                exact gx_zret hx hb0 hr (by decide) hlocks hK hP hD hS he dL_isNavigator_452
              · exact absurd c_54 (by decide)
            · have he := he.1 c_53
              refine lv_iconst (v := (1 : Int32)) hx hb0 dL_isNavigator_361 (by decide) ?_
              refine lv_goto (tgt := 366) hx hb0 dL_isNavigator_362 (by decide) ?_
              refine lv_istore (lv' := [(8, .int (1 : Int32)), (10, .int r_10), (0, .ref (ad 0)), (1, .int y1), (2, .int y2), (3, .ref (ad 158)), (4, .ref (ad 159)), (5, .ref (ad 160)), (6, .int y6), (7, .int y7), (9, .int y9)]) hx hb0 dL_isNavigator_366 hl (by decide) rfl (fun ls hl => ?_)
              refine lv_iload hx hb0 dL_isNavigator_368 (lv_at hl 0 rfl) ?_
              refine lv_if_eq (tgt := 451) hx hb0 dL_isNavigator_370 (by decide) (fun c_55 => ?_) (fun c_55 => ?_)
              · exact absurd c_55 (by decide)
              · refine lv_aload_n hx hb0 dL_isNavigator_373 rfl (lv_at hl 2 rfl) ?_
                refine lv_iload_n hx hb0 dL_isNavigator_374 rfl (lv_at hl 4 rfl) ?_
                refine lv_iconst (v := (0 : Int32)) hx hb0 dL_isNavigator_375 (by decide) ?_
                refine gx_vi ⟨hx, hb0, hml, hown, hts⟩ (gKC_keep _ _) hk hK hP hD hS 0 [.int y2, .int (0 : Int32)] [] (c_X7_ofStar l dC dI P ad tb y2 (0 : Int32) h_19 _ he) gm_X7_ofStar im_yX7_ofStar se_yX7_ofStar ml_RL_101 (by decide) (cE_t0 _) rfl rfl rfl ⟨Nat.le_of_ble_eq_true rfl, Nat.le_of_ble_eq_true rfl⟩ rfl hl.1 rfl (Nat.le_of_ble_eq_true rfl) dL_isNavigator_376 ⟨Nat.zero_le _, Nat.zero_le _⟩ (fun r_56 h_57 he H locs hP hD hS => ?_)
                refine lv_iload_n hx hb0 dL_isNavigator_379 rfl (lv_at hl 4 rfl) ?_
                refine lv_aload hx hb0 dL_isNavigator_380 (lv_at hl 6 rfl) ?_
                refine gx_si ⟨hx, hb0, hml, hown, hts⟩ (gKC_keep _ _) hk hK hP hD hS [.int y2, .ref (ad 159)] [.int r_56] (c_L_declination l dC dI P ad tb y2 h_57 _ he) gm_L_declination st_yL_declination ml_RL_10 rfl rfl ⟨Nat.le_of_ble_eq_true rfl, Nat.le_of_ble_eq_true rfl⟩ rfl hl.1 rfl (Nat.le_of_ble_eq_true rfl) dL_isNavigator_382 ⟨Nat.zero_le _, Nat.zero_le _⟩ (fun r_58 h_59 he H locs hP hD hS => ?_)
                refine lv_sipush (v := (5400 : Int32)) hx hb0 dL_isNavigator_385 (by decide) ?_
                refine lv_iadd hx hb0 dL_isNavigator_388 ?_
                refine lv_icmp_ne (tgt := 451) hx hb0 dL_isNavigator_389 (by decide) (fun c_60 => ?_) (fun c_60 => ?_)
                · have he := he.2 c_60
                  refine lv_iconst (v := (0 : Int32)) hx hb0 dL_isNavigator_451 (by decide) ?_
                  exact gx_zret hx hb0 hr (by decide) hlocks hK hP hD hS he dL_isNavigator_452
                · have he := he.1 c_60
                  refine lv_aload_n hx hb0 dL_isNavigator_392 rfl (lv_at hl 2 rfl) ?_
                  refine lv_iload_n hx hb0 dL_isNavigator_393 rfl (lv_at hl 4 rfl) ?_
                  refine lv_iconst (v := (1 : Int32)) hx hb0 dL_isNavigator_394 (by decide) ?_
                  refine gx_vi ⟨hx, hb0, hml, hown, hts⟩ (gKC_keep _ _) hk hK hP hD hS 0 [.int y2, .int (1 : Int32)] [] (c_X7_ofStar l dC dI P ad tb y2 (1 : Int32) h_59 _ he) gm_X7_ofStar im_yX7_ofStar se_yX7_ofStar ml_RL_101 (by decide) (cE_t0 _) rfl rfl rfl ⟨Nat.le_of_ble_eq_true rfl, Nat.le_of_ble_eq_true rfl⟩ rfl hl.1 rfl (Nat.le_of_ble_eq_true rfl) dL_isNavigator_395 ⟨Nat.zero_le _, Nat.zero_le _⟩ (fun r_61 h_62 he H locs hP hD hS => ?_)
                  refine lv_aload hx hb0 dL_isNavigator_398 (lv_at hl 6 rfl) ?_
                  refine lv_iload_n hx hb0 dL_isNavigator_400 rfl (lv_at hl 4 rfl) ?_
                  obtain ⟨v_63, he⟩ := he
                  refine gx_iald hx hb0 hK hP 159 0 (by decide) cE_t159 rfl v_63 dL_isNavigator_401 ?_
                  refine lv_sipush (v := (9000 : Int32)) hx hb0 dL_isNavigator_402 (by decide) ?_
                  refine lv_icmp_le (tgt := 412) hx hb0 dL_isNavigator_405 (by decide) (fun c_64 => ?_) (fun c_64 => ?_)
                  · have he := he.1 c_64
                    refine lv_iconst (v := (0 : Int32)) hx hb0 dL_isNavigator_412 (by decide) ?_
                    refine lv_icmp_ne (tgt := 451) hx hb0 dL_isNavigator_413 (by decide) (fun c_65 => ?_) (fun c_65 => ?_)
                    · have he := he.2 c_65
                      refine lv_iconst (v := (0 : Int32)) hx hb0 dL_isNavigator_451 (by decide) ?_
                      exact gx_zret hx hb0 hr (by decide) hlocks hK hP hD hS he dL_isNavigator_452
                    · have he := he.1 c_65
                      refine lv_aload_n hx hb0 dL_isNavigator_416 rfl (lv_at hl 2 rfl) ?_
                      refine lv_iload_n hx hb0 dL_isNavigator_417 rfl (lv_at hl 4 rfl) ?_
                      refine lv_iconst (v := (2 : Int32)) hx hb0 dL_isNavigator_418 (by decide) ?_
                      refine gx_vi ⟨hx, hb0, hml, hown, hts⟩ (gKC_keep _ _) hk hK hP hD hS 0 [.int y2, .int (2 : Int32)] [] (c_X7_ofStar l dC dI P ad tb y2 (2 : Int32) h_62 _ he) gm_X7_ofStar im_yX7_ofStar se_yX7_ofStar ml_RL_101 (by decide) (cE_t0 _) rfl rfl rfl ⟨Nat.le_of_ble_eq_true rfl, Nat.le_of_ble_eq_true rfl⟩ rfl hl.1 rfl (Nat.le_of_ble_eq_true rfl) dL_isNavigator_419 ⟨Nat.zero_le _, Nat.zero_le _⟩ (fun r_66 h_67 he H locs hP hD hS => ?_)
                      refine lv_iload_n hx hb0 dL_isNavigator_422 rfl (lv_at hl 4 rfl) ?_
                      refine lv_aload_n hx hb0 dL_isNavigator_423 rfl (lv_at hl 5 rfl) ?_
                      refine lv_aload hx hb0 dL_isNavigator_424 (lv_at hl 6 rfl) ?_
                      refine gx_si ⟨hx, hb0, hml, hown, hts⟩ (gKC_keep _ _) hk hK hP hD hS [.int y2, .ref (ad 158), .ref (ad 159)] [.int r_66] (c_L_height l dC dI P ad tb y2 h_67 _ he) gm_L_height st_yL_height ml_RL_20 rfl rfl ⟨Nat.le_of_ble_eq_true rfl, Nat.le_of_ble_eq_true rfl⟩ rfl hl.1 rfl (Nat.le_of_ble_eq_true rfl) dL_isNavigator_426 ⟨Nat.zero_le _, Nat.zero_le _⟩ (fun r_68 h_69 he H locs hP hD hS => ?_)
                      refine lv_sipush (v := (5400 : Int32)) hx hb0 dL_isNavigator_429 (by decide) ?_
                      refine lv_iadd hx hb0 dL_isNavigator_432 ?_
                      refine lv_icmp_ne (tgt := 451) hx hb0 dL_isNavigator_433 (by decide) (fun c_70 => ?_) (fun c_70 => ?_)
                      · have he := he.2 c_70
                        refine lv_iconst (v := (0 : Int32)) hx hb0 dL_isNavigator_451 (by decide) ?_
                        exact gx_zret hx hb0 hr (by decide) hlocks hK hP hD hS he dL_isNavigator_452
                      · have he := he.1 c_70
                        refine lv_aload_n hx hb0 dL_isNavigator_436 rfl (lv_at hl 2 rfl) ?_
                        refine lv_iload_n hx hb0 dL_isNavigator_437 rfl (lv_at hl 4 rfl) ?_
                        refine lv_iconst (v := (3 : Int32)) hx hb0 dL_isNavigator_438 (by decide) ?_
                        refine gx_vi ⟨hx, hb0, hml, hown, hts⟩ (gKC_keep _ _) hk hK hP hD hS 0 [.int y2, .int (3 : Int32)] [] (c_X7_ofStar l dC dI P ad tb y2 (3 : Int32) h_69 _ he) gm_X7_ofStar im_yX7_ofStar se_yX7_ofStar ml_RL_101 (by decide) (cE_t0 _) rfl rfl rfl ⟨Nat.le_of_ble_eq_true rfl, Nat.le_of_ble_eq_true rfl⟩ rfl hl.1 rfl (Nat.le_of_ble_eq_true rfl) dL_isNavigator_439 ⟨Nat.zero_le _, Nat.zero_le _⟩ (fun r_71 h_72 he H locs hP hD hS => ?_)
                        refine lv_iload hx hb0 dL_isNavigator_442 (lv_at hl 10 rfl) ?_
                        refine lv_icmp_ne (tgt := 451) hx hb0 dL_isNavigator_444 (by decide) (fun c_73 => ?_) (fun c_73 => ?_)
                        · have he := he.2 c_73
                          refine lv_iconst (v := (0 : Int32)) hx hb0 dL_isNavigator_451 (by decide) ?_
                          exact gx_zret hx hb0 hr (by decide) hlocks hK hP hD hS he dL_isNavigator_452
                        · have he := he.1 c_73
                          refine lv_iconst (v := (1 : Int32)) hx hb0 dL_isNavigator_447 (by decide) ?_
                          refine lv_goto (tgt := 452) hx hb0 dL_isNavigator_448 (by decide) ?_
                          exact gx_zret hx hb0 hr (by decide) hlocks hK hP hD hS he dL_isNavigator_452
                  · have he := he.2 c_64
                    refine lv_iconst (v := (1 : Int32)) hx hb0 dL_isNavigator_408 (by decide) ?_
                    refine lv_goto (tgt := 413) hx hb0 dL_isNavigator_409 (by decide) ?_
                    refine lv_icmp_ne (tgt := 451) hx hb0 dL_isNavigator_413 (by decide) (fun c_74 => ?_) (fun c_74 => ?_)
                    · have he := he.2 c_74
                      refine lv_iconst (v := (0 : Int32)) hx hb0 dL_isNavigator_451 (by decide) ?_
                      exact gx_zret hx hb0 hr (by decide) hlocks hK hP hD hS he dL_isNavigator_452
                    · have he := he.1 c_74
                      refine lv_aload_n hx hb0 dL_isNavigator_416 rfl (lv_at hl 2 rfl) ?_
                      refine lv_iload_n hx hb0 dL_isNavigator_417 rfl (lv_at hl 4 rfl) ?_
                      refine lv_iconst (v := (2 : Int32)) hx hb0 dL_isNavigator_418 (by decide) ?_
                      refine gx_vi ⟨hx, hb0, hml, hown, hts⟩ (gKC_keep _ _) hk hK hP hD hS 0 [.int y2, .int (2 : Int32)] [] (c_X7_ofStar l dC dI P ad tb y2 (2 : Int32) h_62 _ he) gm_X7_ofStar im_yX7_ofStar se_yX7_ofStar ml_RL_101 (by decide) (cE_t0 _) rfl rfl rfl ⟨Nat.le_of_ble_eq_true rfl, Nat.le_of_ble_eq_true rfl⟩ rfl hl.1 rfl (Nat.le_of_ble_eq_true rfl) dL_isNavigator_419 ⟨Nat.zero_le _, Nat.zero_le _⟩ (fun r_75 h_76 he H locs hP hD hS => ?_)
                      refine lv_iload_n hx hb0 dL_isNavigator_422 rfl (lv_at hl 4 rfl) ?_
                      refine lv_aload_n hx hb0 dL_isNavigator_423 rfl (lv_at hl 5 rfl) ?_
                      refine lv_aload hx hb0 dL_isNavigator_424 (lv_at hl 6 rfl) ?_
                      refine gx_si ⟨hx, hb0, hml, hown, hts⟩ (gKC_keep _ _) hk hK hP hD hS [.int y2, .ref (ad 158), .ref (ad 159)] [.int r_75] (c_L_height l dC dI P ad tb y2 h_76 _ he) gm_L_height st_yL_height ml_RL_20 rfl rfl ⟨Nat.le_of_ble_eq_true rfl, Nat.le_of_ble_eq_true rfl⟩ rfl hl.1 rfl (Nat.le_of_ble_eq_true rfl) dL_isNavigator_426 ⟨Nat.zero_le _, Nat.zero_le _⟩ (fun r_77 h_78 he H locs hP hD hS => ?_)
                      refine lv_sipush (v := (5400 : Int32)) hx hb0 dL_isNavigator_429 (by decide) ?_
                      refine lv_iadd hx hb0 dL_isNavigator_432 ?_
                      refine lv_icmp_ne (tgt := 451) hx hb0 dL_isNavigator_433 (by decide) (fun c_79 => ?_) (fun c_79 => ?_)
                      · have he := he.2 c_79
                        refine lv_iconst (v := (0 : Int32)) hx hb0 dL_isNavigator_451 (by decide) ?_
                        exact gx_zret hx hb0 hr (by decide) hlocks hK hP hD hS he dL_isNavigator_452
                      · have he := he.1 c_79
                        refine lv_aload_n hx hb0 dL_isNavigator_436 rfl (lv_at hl 2 rfl) ?_
                        refine lv_iload_n hx hb0 dL_isNavigator_437 rfl (lv_at hl 4 rfl) ?_
                        refine lv_iconst (v := (3 : Int32)) hx hb0 dL_isNavigator_438 (by decide) ?_
                        refine gx_vi ⟨hx, hb0, hml, hown, hts⟩ (gKC_keep _ _) hk hK hP hD hS 0 [.int y2, .int (3 : Int32)] [] (c_X7_ofStar l dC dI P ad tb y2 (3 : Int32) h_78 _ he) gm_X7_ofStar im_yX7_ofStar se_yX7_ofStar ml_RL_101 (by decide) (cE_t0 _) rfl rfl rfl ⟨Nat.le_of_ble_eq_true rfl, Nat.le_of_ble_eq_true rfl⟩ rfl hl.1 rfl (Nat.le_of_ble_eq_true rfl) dL_isNavigator_439 ⟨Nat.zero_le _, Nat.zero_le _⟩ (fun r_80 h_81 he H locs hP hD hS => ?_)
                        refine lv_iload hx hb0 dL_isNavigator_442 (lv_at hl 10 rfl) ?_
                        refine lv_icmp_ne (tgt := 451) hx hb0 dL_isNavigator_444 (by decide) (fun c_82 => ?_) (fun c_82 => ?_)
                        · have he := he.2 c_82
                          refine lv_iconst (v := (0 : Int32)) hx hb0 dL_isNavigator_451 (by decide) ?_
                          exact gx_zret hx hb0 hr (by decide) hlocks hK hP hD hS he dL_isNavigator_452
                        · have he := he.1 c_82
                          refine lv_iconst (v := (1 : Int32)) hx hb0 dL_isNavigator_447 (by decide) ?_
                          refine lv_goto (tgt := 452) hx hb0 dL_isNavigator_448 (by decide) ?_
                          exact gx_zret hx hb0 hr (by decide) hlocks hK hP hD hS he dL_isNavigator_452
    · have he := he.2 c_9
      refine lv_iload hx hb0 dL_isNavigator_267 (lv_at hl 9 rfl) ?_
      refine lv_iload hx hb0 dL_isNavigator_269 (lv_at hl 10 rfl) ?_
      refine lv_iload_n hx hb0 dL_isNavigator_271 rfl (lv_at hl 2 rfl) ?_
      refine lv_aload_n hx hb0 dL_isNavigator_272 rfl (lv_at hl 3 rfl) ?_
      refine lv_aload hx hb0 dL_isNavigator_273 (lv_at hl 4 rfl) ?_
      refine lv_aload hx hb0 dL_isNavigator_275 (lv_at hl 5 rfl) ?_
      refine gx_si ⟨hx, hb0, hml, hown, hts⟩ (gKC_keep _ _) hk hK hP hD hS [.int y10, .int y2, .ref (ad 158), .ref (ad 159), .ref (ad 160)] [.int y9] (c_L_why l dC dI P ad tb y10 y2 h0 _ he) gm_L_why st_yL_why ml_RL_72 rfl rfl ⟨Nat.le_of_ble_eq_true rfl, Nat.le_of_ble_eq_true rfl⟩ rfl hl.1 rfl (Nat.le_of_ble_eq_true rfl) dL_isNavigator_277 ⟨Nat.zero_le _, Nat.zero_le _⟩ (fun r_83 h_84 he H locs hP hD hS => ?_)
      refine lv_if_ne (tgt := 290) hx hb0 dL_isNavigator_280 (by decide) (fun c_85 => ?_) (fun c_85 => ?_)
      · have he := he.2 c_85
        refine lv_iconst (v := (0 : Int32)) hx hb0 dL_isNavigator_290 (by decide) ?_
        refine lv_ior hx hb0 dL_isNavigator_291 ?_
        refine lv_topi (fun x_86 ex_86 => ?_)
        have he := he x_86 ex_86
        refine lv_istore (lv' := [(9, .int x_86), (0, .ref (ad 0)), (1, .int y1), (2, .int y2), (3, .ref (ad 158)), (4, .ref (ad 159)), (5, .ref (ad 160)), (6, .int y6), (7, .int y7), (8, .int y8), (10, .int y10)]) hx hb0 dL_isNavigator_292 hl (by decide) rfl (fun ls hl => ?_)
        obtain ⟨x_87, ex_87⟩ : ∃ y : Int32, y = y10 + 1 := ⟨_, rfl⟩
        have he := he x_87 ex_87
        refine lv_iinc (v := x_87) (lv' := [(10, .int x_87), (9, .int x_86), (0, .ref (ad 0)), (1, .int y1), (2, .int y2), (3, .ref (ad 158)), (4, .ref (ad 159)), (5, .ref (ad 160)), (6, .int y6), (7, .int y7), (8, .int y8)]) hx hb0 dL_isNavigator_294 hl (k := 10) rfl (by rw [ex_87]; rfl) (by decide) rfl (fun ls hl => ?_)
        refine lv_goto (tgt := 260) hx hb0 dL_isNavigator_297 (by decide) ?_
        exact ih y1 y2 y6 y7 y8 x_86 x_87 h_84 he _ _ ls hP hD hS (lv_sub hl [2, 3, 4, 5, 6, 7, 8, 9, 10, 1, 0] rfl)
      · have he := he.1 c_85
        refine lv_iconst (v := (1 : Int32)) hx hb0 dL_isNavigator_283 (by decide) ?_
        refine lv_iload hx hb0 dL_isNavigator_284 (lv_at hl 10 rfl) ?_
        refine lv_ishl hx hb0 dL_isNavigator_286 ?_
        refine lv_goto (tgt := 291) hx hb0 dL_isNavigator_287 (by decide) ?_
        refine lv_ior hx hb0 dL_isNavigator_291 ?_
        refine lv_topi (fun x_88 ex_88 => ?_)
        have he := he x_88 ex_88
        refine lv_istore (lv' := [(9, .int x_88), (0, .ref (ad 0)), (1, .int y1), (2, .int y2), (3, .ref (ad 158)), (4, .ref (ad 159)), (5, .ref (ad 160)), (6, .int y6), (7, .int y7), (8, .int y8), (10, .int y10)]) hx hb0 dL_isNavigator_292 hl (by decide) rfl (fun ls hl => ?_)
        obtain ⟨x_89, ex_89⟩ : ∃ y : Int32, y = y10 + 1 := ⟨_, rfl⟩
        have he := he x_89 ex_89
        refine lv_iinc (v := x_89) (lv' := [(10, .int x_89), (9, .int x_88), (0, .ref (ad 0)), (1, .int y1), (2, .int y2), (3, .ref (ad 158)), (4, .ref (ad 159)), (5, .ref (ad 160)), (6, .int y6), (7, .int y7), (8, .int y8)]) hx hb0 dL_isNavigator_294 hl (k := 10) rfl (by rw [ex_89]; rfl) (by decide) rfl (fun ls hl => ?_)
        refine lv_goto (tgt := 260) hx hb0 dL_isNavigator_297 (by decide) ?_
        exact ih y1 y2 y6 y7 y8 x_88 x_89 h_84 he _ _ ls hP hD hS (lv_sub hl [2, 3, 4, 5, 6, 7, 8, 9, 10, 1, 0] rfl)
set_option maxHeartbeats 4000000 in
set_option maxRecDepth 100000 in
theorem c_L_isNavigator (l : Launch) (dC : Nat → ClassId) (dI : Nat → Nat → Nat) (P : gP) (ad : Nat → Nat) (tb : Nat → Nat) (x1 : Int32) (x2 : Int32) (h0 : Hp) (Q : Int32 → Hp → Prop) (he : F_L_isNavigator x1 x2 h0 Q) : Met l yL_isNavigator (Cond.code yL_isNavigator cL_isNavigator 11 (some .boolean) :: TB) rm_L_isNavigator (gPc (dC, dI) vwCl (tyC P) 162 (cE P ad) ad (gKC tb (gA 162 ad)) h0 [.ref (ad 0), .int x1, .int x2, .ref (ad 158), .ref (ad 159), .ref (ad 160)]) (gQi (dC, dI) vwCl (tyC P) 162 (cE P ad) ad Q) 0 0 (gA 162 ad) := by
  refine gx_start (by decide) (Nat.le_of_ble_eq_true rfl) (fun p e s m below meth c ls hx hb0 hr hlocks hml hown hts hK hk hP hD hS hl => ?_)
  have hl : lv_has ls 11 [(0, .ref (ad 0)), (1, .int x1), (2, .int x2), (3, .ref (ad 158)), (4, .ref (ad 159)), (5, .ref (ad 160))] := hl
  have hown : s.vm.findClass RL = some m.cls := hown
  unfold F_L_isNavigator at he
  refine lv_bipush (v := (7 : Int32)) hx hb0 dL_isNavigator_0 (by decide) ?_
  refine lv_iload_n hx hb0 dL_isNavigator_2 rfl (lv_at hl 1 rfl) ?_
  refine lv_imul hx hb0 dL_isNavigator_3 ?_
  refine lv_topi (fun x_1 ex_1 => ?_)
  have he := he x_1 ex_1
  refine lv_istore (lv' := [(6, .int x_1), (0, .ref (ad 0)), (1, .int x1), (2, .int x2), (3, .ref (ad 158)), (4, .ref (ad 159)), (5, .ref (ad 160))]) hx hb0 dL_isNavigator_4 hl (by decide) rfl (fun ls hl => ?_)
  refine lv_iload_n hx hb0 dL_isNavigator_6 rfl (lv_at hl 2 rfl) ?_
  refine lv_aload hx hb0 dL_isNavigator_7 (lv_at hl 6 rfl) ?_
  refine gx_si ⟨hx, hb0, hml, hown, hts⟩ (gKC_keep _ _) hk hK hP hD hS [.int x1, .ref (ad 160)] [] (c_L_median l dC dI P ad tb x1 h0 _ he) gm_L_median st_yL_median ml_RL_34 rfl rfl ⟨Nat.le_of_ble_eq_true rfl, Nat.le_of_ble_eq_true rfl⟩ rfl hl.1 rfl (Nat.le_of_ble_eq_true rfl) dL_isNavigator_9 ⟨Nat.zero_le _, Nat.zero_le _⟩ (fun r_2 h_3 he H locs hP hD hS => ?_)
  refine lv_istore (lv' := [(7, .int r_2), (6, .int x_1), (0, .ref (ad 0)), (1, .int x1), (2, .int x2), (3, .ref (ad 158)), (4, .ref (ad 159)), (5, .ref (ad 160))]) hx hb0 dL_isNavigator_12 hl (by decide) rfl (fun ls hl => ?_)
  refine lv_aload_n hx hb0 dL_isNavigator_14 rfl (lv_at hl 2 rfl) ?_
  refine lv_iload_n hx hb0 dL_isNavigator_15 rfl (lv_at hl 3 rfl) ?_
  refine lv_iconst (v := (0 : Int32)) hx hb0 dL_isNavigator_16 (by decide) ?_
  refine gx_vi ⟨hx, hb0, hml, hown, hts⟩ (gKC_keep _ _) hk hK hP hD hS 0 [.int x1, .int (0 : Int32)] [] (c_X7_of l dC dI P ad tb x1 (0 : Int32) h_3 _ he) gm_X7_of im_yX7_of se_yX7_of ml_RL_91 (by decide) (cE_t0 _) rfl rfl rfl ⟨Nat.le_of_ble_eq_true rfl, Nat.le_of_ble_eq_true rfl⟩ rfl hl.1 rfl (Nat.le_of_ble_eq_true rfl) dL_isNavigator_17 ⟨Nat.zero_le _, Nat.zero_le _⟩ (fun r_4 h_5 he H locs hP hD hS => ?_)
  refine lv_aload hx hb0 dL_isNavigator_20 (lv_at hl 7 rfl) ?_
  refine lv_iload hx hb0 dL_isNavigator_22 (lv_at hl 1 rfl) ?_
  obtain ⟨v_6, he⟩ := he
  refine gx_iald hx hb0 hK hP 160 0 (by decide) cE_t160 rfl v_6 dL_isNavigator_24 ?_
  refine lv_icmp_ne (tgt := 202) hx hb0 dL_isNavigator_25 (by decide) (fun c_7 => ?_) (fun c_7 => ?_)
  · have he := he.2 c_7
    refine lv_iconst (v := (0 : Int32)) hx hb0 dL_isNavigator_202 (by decide) ?_
    refine lv_istore (lv' := [(8, .int (0 : Int32)), (7, .int r_2), (6, .int x_1), (0, .ref (ad 0)), (1, .int x1), (2, .int x2), (3, .ref (ad 158)), (4, .ref (ad 159)), (5, .ref (ad 160))]) hx hb0 dL_isNavigator_203 hl (by decide) rfl (fun ls hl => ?_)
    refine lv_iload_n hx hb0 dL_isNavigator_205 rfl (lv_at hl 5 rfl) ?_
    refine lv_aload_n hx hb0 dL_isNavigator_206 rfl (lv_at hl 6 rfl) ?_
    refine lv_bipush (v := (12 : Int32)) hx hb0 dL_isNavigator_207 (by decide) ?_
    refine gx_ialdK hx hb0 hK hP 158 0 (by decide) cE_t158 rfl (vp_lit (12 : Int32) (by decide) (by decide)) 12 rfl dL_isNavigator_209 ?_
    refine lv_icmp_lt (tgt := 254) hx hb0 dL_isNavigator_210 (by decide) (fun c_8 => ?_) (fun c_8 => ?_)
    · have he := he.1 c_8
      refine lv_iconst (v := (0 : Int32)) hx hb0 dL_isNavigator_254 (by decide) ?_
      refine lv_istore (lv' := [(9, .int (0 : Int32)), (8, .int (0 : Int32)), (7, .int r_2), (6, .int x_1), (0, .ref (ad 0)), (1, .int x1), (2, .int x2), (3, .ref (ad 158)), (4, .ref (ad 159)), (5, .ref (ad 160))]) hx hb0 dL_isNavigator_255 hl (by decide) rfl (fun ls hl => ?_)
      refine lv_iconst (v := (0 : Int32)) hx hb0 dL_isNavigator_257 (by decide) ?_
      refine lv_istore (lv' := [(10, .int (0 : Int32)), (9, .int (0 : Int32)), (8, .int (0 : Int32)), (7, .int r_2), (6, .int x_1), (0, .ref (ad 0)), (1, .int x1), (2, .int x2), (3, .ref (ad 158)), (4, .ref (ad 159)), (5, .ref (ad 160))]) hx hb0 dL_isNavigator_258 hl (by decide) rfl (fun ls hl => ?_)
      obtain ⟨n_90, he⟩ := he
      exact l_L_isNavigator_260 l dC dI P ad tb  hx hb0 hr hlocks hml hown hts hK hk Q n_90 x1 x2 x_1 r_2 (0 : Int32) (0 : Int32) (0 : Int32) h_5 he _ _ ls hP hD hS (lv_sub hl [5, 6, 7, 8, 9, 10, 4, 3, 2, 1, 0] rfl)
    · have he := he.2 c_8
      refine lv_iload hx hb0 dL_isNavigator_213 (lv_at hl 0 rfl) ?_
      refine lv_if_eq (tgt := 252) hx hb0 dL_isNavigator_215 (by decide) (fun c_91 => ?_) (fun c_91 => ?_)
      · refine lv_iconst (v := (0 : Int32)) hx hb0 dL_isNavigator_252 (by decide) ?_
        exact gx_zret hx hb0 hr (by decide) hlocks hK hP hD hS he dL_isNavigator_253
      · exact absurd c_91 (by decide)
  · have he := he.1 c_7
    refine lv_aload_n hx hb0 dL_isNavigator_28 rfl (lv_at hl 2 rfl) ?_
    refine lv_iload_n hx hb0 dL_isNavigator_29 rfl (lv_at hl 3 rfl) ?_
    refine lv_iconst (v := (1 : Int32)) hx hb0 dL_isNavigator_30 (by decide) ?_
    refine gx_vi ⟨hx, hb0, hml, hown, hts⟩ (gKC_keep _ _) hk hK hP hD hS 0 [.int x1, .int (1 : Int32)] [] (c_X7_of l dC dI P ad tb x1 (1 : Int32) h_5 _ he) gm_X7_of im_yX7_of se_yX7_of ml_RL_91 (by decide) (cE_t0 _) rfl rfl rfl ⟨Nat.le_of_ble_eq_true rfl, Nat.le_of_ble_eq_true rfl⟩ rfl hl.1 rfl (Nat.le_of_ble_eq_true rfl) dL_isNavigator_31 ⟨Nat.zero_le _, Nat.zero_le _⟩ (fun r_92 h_93 he H locs hP hD hS => ?_)
    refine lv_aload hx hb0 dL_isNavigator_34 (lv_at hl 7 rfl) ?_
    refine lv_iload hx hb0 dL_isNavigator_36 (lv_at hl 1 rfl) ?_
    refine lv_iconst (v := (1 : Int32)) hx hb0 dL_isNavigator_38 (by decide) ?_
    refine lv_iadd hx hb0 dL_isNavigator_39 ?_
    obtain ⟨v_94, he⟩ := he
    refine gx_iald hx hb0 hK hP 160 0 (by decide) cE_t160 rfl v_94 dL_isNavigator_40 ?_
    refine lv_bipush (v := (60 : Int32)) hx hb0 dL_isNavigator_41 (by decide) ?_
    refine lv_iadd hx hb0 dL_isNavigator_43 ?_
    refine lv_icmp_ne (tgt := 202) hx hb0 dL_isNavigator_44 (by decide) (fun c_95 => ?_) (fun c_95 => ?_)
    · have he := he.2 c_95
      refine lv_iconst (v := (0 : Int32)) hx hb0 dL_isNavigator_202 (by decide) ?_
      refine lv_istore (lv' := [(8, .int (0 : Int32)), (7, .int r_2), (6, .int x_1), (0, .ref (ad 0)), (1, .int x1), (2, .int x2), (3, .ref (ad 158)), (4, .ref (ad 159)), (5, .ref (ad 160))]) hx hb0 dL_isNavigator_203 hl (by decide) rfl (fun ls hl => ?_)
      refine lv_iload_n hx hb0 dL_isNavigator_205 rfl (lv_at hl 5 rfl) ?_
      refine lv_aload_n hx hb0 dL_isNavigator_206 rfl (lv_at hl 6 rfl) ?_
      refine lv_bipush (v := (12 : Int32)) hx hb0 dL_isNavigator_207 (by decide) ?_
      refine gx_ialdK hx hb0 hK hP 158 0 (by decide) cE_t158 rfl (vp_lit (12 : Int32) (by decide) (by decide)) 12 rfl dL_isNavigator_209 ?_
      refine lv_icmp_lt (tgt := 254) hx hb0 dL_isNavigator_210 (by decide) (fun c_96 => ?_) (fun c_96 => ?_)
      · have he := he.1 c_96
        refine lv_iconst (v := (0 : Int32)) hx hb0 dL_isNavigator_254 (by decide) ?_
        refine lv_istore (lv' := [(9, .int (0 : Int32)), (8, .int (0 : Int32)), (7, .int r_2), (6, .int x_1), (0, .ref (ad 0)), (1, .int x1), (2, .int x2), (3, .ref (ad 158)), (4, .ref (ad 159)), (5, .ref (ad 160))]) hx hb0 dL_isNavigator_255 hl (by decide) rfl (fun ls hl => ?_)
        refine lv_iconst (v := (0 : Int32)) hx hb0 dL_isNavigator_257 (by decide) ?_
        refine lv_istore (lv' := [(10, .int (0 : Int32)), (9, .int (0 : Int32)), (8, .int (0 : Int32)), (7, .int r_2), (6, .int x_1), (0, .ref (ad 0)), (1, .int x1), (2, .int x2), (3, .ref (ad 158)), (4, .ref (ad 159)), (5, .ref (ad 160))]) hx hb0 dL_isNavigator_258 hl (by decide) rfl (fun ls hl => ?_)
        obtain ⟨n_97, he⟩ := he
        exact l_L_isNavigator_260 l dC dI P ad tb  hx hb0 hr hlocks hml hown hts hK hk Q n_97 x1 x2 x_1 r_2 (0 : Int32) (0 : Int32) (0 : Int32) h_93 he _ _ ls hP hD hS (lv_sub hl [5, 6, 7, 8, 9, 10, 4, 3, 2, 1, 0] rfl)
      · have he := he.2 c_96
        refine lv_iload hx hb0 dL_isNavigator_213 (lv_at hl 0 rfl) ?_
        refine lv_if_eq (tgt := 252) hx hb0 dL_isNavigator_215 (by decide) (fun c_98 => ?_) (fun c_98 => ?_)
        · refine lv_iconst (v := (0 : Int32)) hx hb0 dL_isNavigator_252 (by decide) ?_
          exact gx_zret hx hb0 hr (by decide) hlocks hK hP hD hS he dL_isNavigator_253
        · exact absurd c_98 (by decide)
    · have he := he.1 c_95
      refine lv_aload_n hx hb0 dL_isNavigator_47 rfl (lv_at hl 2 rfl) ?_
      refine lv_iload_n hx hb0 dL_isNavigator_48 rfl (lv_at hl 3 rfl) ?_
      refine lv_iconst (v := (2 : Int32)) hx hb0 dL_isNavigator_49 (by decide) ?_
      refine gx_vi ⟨hx, hb0, hml, hown, hts⟩ (gKC_keep _ _) hk hK hP hD hS 0 [.int x1, .int (2 : Int32)] [] (c_X7_of l dC dI P ad tb x1 (2 : Int32) h_93 _ he) gm_X7_of im_yX7_of se_yX7_of ml_RL_91 (by decide) (cE_t0 _) rfl rfl rfl ⟨Nat.le_of_ble_eq_true rfl, Nat.le_of_ble_eq_true rfl⟩ rfl hl.1 rfl (Nat.le_of_ble_eq_true rfl) dL_isNavigator_50 ⟨Nat.zero_le _, Nat.zero_le _⟩ (fun r_99 h_100 he H locs hP hD hS => ?_)
      refine lv_aload hx hb0 dL_isNavigator_53 (lv_at hl 7 rfl) ?_
      refine lv_iload hx hb0 dL_isNavigator_55 (lv_at hl 1 rfl) ?_
      refine lv_iconst (v := (2 : Int32)) hx hb0 dL_isNavigator_57 (by decide) ?_
      refine lv_iadd hx hb0 dL_isNavigator_58 ?_
      obtain ⟨v_101, he⟩ := he
      refine gx_iald hx hb0 hK hP 160 0 (by decide) cE_t160 rfl v_101 dL_isNavigator_59 ?_
      refine lv_icmp_ne (tgt := 202) hx hb0 dL_isNavigator_60 (by decide) (fun c_102 => ?_) (fun c_102 => ?_)
      · have he := he.2 c_102
        refine lv_iconst (v := (0 : Int32)) hx hb0 dL_isNavigator_202 (by decide) ?_
        refine lv_istore (lv' := [(8, .int (0 : Int32)), (7, .int r_2), (6, .int x_1), (0, .ref (ad 0)), (1, .int x1), (2, .int x2), (3, .ref (ad 158)), (4, .ref (ad 159)), (5, .ref (ad 160))]) hx hb0 dL_isNavigator_203 hl (by decide) rfl (fun ls hl => ?_)
        refine lv_iload_n hx hb0 dL_isNavigator_205 rfl (lv_at hl 5 rfl) ?_
        refine lv_aload_n hx hb0 dL_isNavigator_206 rfl (lv_at hl 6 rfl) ?_
        refine lv_bipush (v := (12 : Int32)) hx hb0 dL_isNavigator_207 (by decide) ?_
        refine gx_ialdK hx hb0 hK hP 158 0 (by decide) cE_t158 rfl (vp_lit (12 : Int32) (by decide) (by decide)) 12 rfl dL_isNavigator_209 ?_
        refine lv_icmp_lt (tgt := 254) hx hb0 dL_isNavigator_210 (by decide) (fun c_103 => ?_) (fun c_103 => ?_)
        · have he := he.1 c_103
          refine lv_iconst (v := (0 : Int32)) hx hb0 dL_isNavigator_254 (by decide) ?_
          refine lv_istore (lv' := [(9, .int (0 : Int32)), (8, .int (0 : Int32)), (7, .int r_2), (6, .int x_1), (0, .ref (ad 0)), (1, .int x1), (2, .int x2), (3, .ref (ad 158)), (4, .ref (ad 159)), (5, .ref (ad 160))]) hx hb0 dL_isNavigator_255 hl (by decide) rfl (fun ls hl => ?_)
          refine lv_iconst (v := (0 : Int32)) hx hb0 dL_isNavigator_257 (by decide) ?_
          refine lv_istore (lv' := [(10, .int (0 : Int32)), (9, .int (0 : Int32)), (8, .int (0 : Int32)), (7, .int r_2), (6, .int x_1), (0, .ref (ad 0)), (1, .int x1), (2, .int x2), (3, .ref (ad 158)), (4, .ref (ad 159)), (5, .ref (ad 160))]) hx hb0 dL_isNavigator_258 hl (by decide) rfl (fun ls hl => ?_)
          obtain ⟨n_104, he⟩ := he
          exact l_L_isNavigator_260 l dC dI P ad tb  hx hb0 hr hlocks hml hown hts hK hk Q n_104 x1 x2 x_1 r_2 (0 : Int32) (0 : Int32) (0 : Int32) h_100 he _ _ ls hP hD hS (lv_sub hl [5, 6, 7, 8, 9, 10, 4, 3, 2, 1, 0] rfl)
        · have he := he.2 c_103
          refine lv_iload hx hb0 dL_isNavigator_213 (lv_at hl 0 rfl) ?_
          refine lv_if_eq (tgt := 252) hx hb0 dL_isNavigator_215 (by decide) (fun c_105 => ?_) (fun c_105 => ?_)
          · refine lv_iconst (v := (0 : Int32)) hx hb0 dL_isNavigator_252 (by decide) ?_
            exact gx_zret hx hb0 hr (by decide) hlocks hK hP hD hS he dL_isNavigator_253
          · exact absurd c_105 (by decide)
      · have he := he.1 c_102
        refine lv_aload_n hx hb0 dL_isNavigator_63 rfl (lv_at hl 2 rfl) ?_
        refine lv_iload_n hx hb0 dL_isNavigator_64 rfl (lv_at hl 3 rfl) ?_
        refine lv_iconst (v := (3 : Int32)) hx hb0 dL_isNavigator_65 (by decide) ?_
        refine gx_vi ⟨hx, hb0, hml, hown, hts⟩ (gKC_keep _ _) hk hK hP hD hS 0 [.int x1, .int (3 : Int32)] [] (c_X7_of l dC dI P ad tb x1 (3 : Int32) h_100 _ he) gm_X7_of im_yX7_of se_yX7_of ml_RL_91 (by decide) (cE_t0 _) rfl rfl rfl ⟨Nat.le_of_ble_eq_true rfl, Nat.le_of_ble_eq_true rfl⟩ rfl hl.1 rfl (Nat.le_of_ble_eq_true rfl) dL_isNavigator_66 ⟨Nat.zero_le _, Nat.zero_le _⟩ (fun r_106 h_107 he H locs hP hD hS => ?_)
        refine lv_aload hx hb0 dL_isNavigator_69 (lv_at hl 7 rfl) ?_
        refine lv_iload hx hb0 dL_isNavigator_71 (lv_at hl 1 rfl) ?_
        refine lv_iconst (v := (3 : Int32)) hx hb0 dL_isNavigator_73 (by decide) ?_
        refine lv_iadd hx hb0 dL_isNavigator_74 ?_
        obtain ⟨v_108, he⟩ := he
        refine gx_iald hx hb0 hK hP 160 0 (by decide) cE_t160 rfl v_108 dL_isNavigator_75 ?_
        refine lv_icmp_ne (tgt := 202) hx hb0 dL_isNavigator_76 (by decide) (fun c_109 => ?_) (fun c_109 => ?_)
        · have he := he.2 c_109
          refine lv_iconst (v := (0 : Int32)) hx hb0 dL_isNavigator_202 (by decide) ?_
          refine lv_istore (lv' := [(8, .int (0 : Int32)), (7, .int r_2), (6, .int x_1), (0, .ref (ad 0)), (1, .int x1), (2, .int x2), (3, .ref (ad 158)), (4, .ref (ad 159)), (5, .ref (ad 160))]) hx hb0 dL_isNavigator_203 hl (by decide) rfl (fun ls hl => ?_)
          refine lv_iload_n hx hb0 dL_isNavigator_205 rfl (lv_at hl 5 rfl) ?_
          refine lv_aload_n hx hb0 dL_isNavigator_206 rfl (lv_at hl 6 rfl) ?_
          refine lv_bipush (v := (12 : Int32)) hx hb0 dL_isNavigator_207 (by decide) ?_
          refine gx_ialdK hx hb0 hK hP 158 0 (by decide) cE_t158 rfl (vp_lit (12 : Int32) (by decide) (by decide)) 12 rfl dL_isNavigator_209 ?_
          refine lv_icmp_lt (tgt := 254) hx hb0 dL_isNavigator_210 (by decide) (fun c_110 => ?_) (fun c_110 => ?_)
          · have he := he.1 c_110
            refine lv_iconst (v := (0 : Int32)) hx hb0 dL_isNavigator_254 (by decide) ?_
            refine lv_istore (lv' := [(9, .int (0 : Int32)), (8, .int (0 : Int32)), (7, .int r_2), (6, .int x_1), (0, .ref (ad 0)), (1, .int x1), (2, .int x2), (3, .ref (ad 158)), (4, .ref (ad 159)), (5, .ref (ad 160))]) hx hb0 dL_isNavigator_255 hl (by decide) rfl (fun ls hl => ?_)
            refine lv_iconst (v := (0 : Int32)) hx hb0 dL_isNavigator_257 (by decide) ?_
            refine lv_istore (lv' := [(10, .int (0 : Int32)), (9, .int (0 : Int32)), (8, .int (0 : Int32)), (7, .int r_2), (6, .int x_1), (0, .ref (ad 0)), (1, .int x1), (2, .int x2), (3, .ref (ad 158)), (4, .ref (ad 159)), (5, .ref (ad 160))]) hx hb0 dL_isNavigator_258 hl (by decide) rfl (fun ls hl => ?_)
            obtain ⟨n_111, he⟩ := he
            exact l_L_isNavigator_260 l dC dI P ad tb  hx hb0 hr hlocks hml hown hts hK hk Q n_111 x1 x2 x_1 r_2 (0 : Int32) (0 : Int32) (0 : Int32) h_107 he _ _ ls hP hD hS (lv_sub hl [5, 6, 7, 8, 9, 10, 4, 3, 2, 1, 0] rfl)
          · have he := he.2 c_110
            refine lv_iload hx hb0 dL_isNavigator_213 (lv_at hl 0 rfl) ?_
            refine lv_if_eq (tgt := 252) hx hb0 dL_isNavigator_215 (by decide) (fun c_112 => ?_) (fun c_112 => ?_)
            · refine lv_iconst (v := (0 : Int32)) hx hb0 dL_isNavigator_252 (by decide) ?_
              exact gx_zret hx hb0 hr (by decide) hlocks hK hP hD hS he dL_isNavigator_253
            · exact absurd c_112 (by decide)
        · have he := he.1 c_109
          refine lv_aload_n hx hb0 dL_isNavigator_79 rfl (lv_at hl 2 rfl) ?_
          refine lv_iload_n hx hb0 dL_isNavigator_80 rfl (lv_at hl 3 rfl) ?_
          refine lv_iconst (v := (4 : Int32)) hx hb0 dL_isNavigator_81 (by decide) ?_
          refine gx_vi ⟨hx, hb0, hml, hown, hts⟩ (gKC_keep _ _) hk hK hP hD hS 0 [.int x1, .int (4 : Int32)] [] (c_X7_of l dC dI P ad tb x1 (4 : Int32) h_107 _ he) gm_X7_of im_yX7_of se_yX7_of ml_RL_91 (by decide) (cE_t0 _) rfl rfl rfl ⟨Nat.le_of_ble_eq_true rfl, Nat.le_of_ble_eq_true rfl⟩ rfl hl.1 rfl (Nat.le_of_ble_eq_true rfl) dL_isNavigator_82 ⟨Nat.zero_le _, Nat.zero_le _⟩ (fun r_113 h_114 he H locs hP hD hS => ?_)
          refine lv_aload hx hb0 dL_isNavigator_85 (lv_at hl 7 rfl) ?_
          refine lv_iload hx hb0 dL_isNavigator_87 (lv_at hl 1 rfl) ?_
          refine lv_iconst (v := (4 : Int32)) hx hb0 dL_isNavigator_89 (by decide) ?_
          refine lv_iadd hx hb0 dL_isNavigator_90 ?_
          obtain ⟨v_115, he⟩ := he
          refine gx_iald hx hb0 hK hP 160 0 (by decide) cE_t160 rfl v_115 dL_isNavigator_91 ?_
          refine lv_icmp_ne (tgt := 202) hx hb0 dL_isNavigator_92 (by decide) (fun c_116 => ?_) (fun c_116 => ?_)
          · have he := he.2 c_116
            refine lv_iconst (v := (0 : Int32)) hx hb0 dL_isNavigator_202 (by decide) ?_
            refine lv_istore (lv' := [(8, .int (0 : Int32)), (7, .int r_2), (6, .int x_1), (0, .ref (ad 0)), (1, .int x1), (2, .int x2), (3, .ref (ad 158)), (4, .ref (ad 159)), (5, .ref (ad 160))]) hx hb0 dL_isNavigator_203 hl (by decide) rfl (fun ls hl => ?_)
            refine lv_iload_n hx hb0 dL_isNavigator_205 rfl (lv_at hl 5 rfl) ?_
            refine lv_aload_n hx hb0 dL_isNavigator_206 rfl (lv_at hl 6 rfl) ?_
            refine lv_bipush (v := (12 : Int32)) hx hb0 dL_isNavigator_207 (by decide) ?_
            refine gx_ialdK hx hb0 hK hP 158 0 (by decide) cE_t158 rfl (vp_lit (12 : Int32) (by decide) (by decide)) 12 rfl dL_isNavigator_209 ?_
            refine lv_icmp_lt (tgt := 254) hx hb0 dL_isNavigator_210 (by decide) (fun c_117 => ?_) (fun c_117 => ?_)
            · have he := he.1 c_117
              refine lv_iconst (v := (0 : Int32)) hx hb0 dL_isNavigator_254 (by decide) ?_
              refine lv_istore (lv' := [(9, .int (0 : Int32)), (8, .int (0 : Int32)), (7, .int r_2), (6, .int x_1), (0, .ref (ad 0)), (1, .int x1), (2, .int x2), (3, .ref (ad 158)), (4, .ref (ad 159)), (5, .ref (ad 160))]) hx hb0 dL_isNavigator_255 hl (by decide) rfl (fun ls hl => ?_)
              refine lv_iconst (v := (0 : Int32)) hx hb0 dL_isNavigator_257 (by decide) ?_
              refine lv_istore (lv' := [(10, .int (0 : Int32)), (9, .int (0 : Int32)), (8, .int (0 : Int32)), (7, .int r_2), (6, .int x_1), (0, .ref (ad 0)), (1, .int x1), (2, .int x2), (3, .ref (ad 158)), (4, .ref (ad 159)), (5, .ref (ad 160))]) hx hb0 dL_isNavigator_258 hl (by decide) rfl (fun ls hl => ?_)
              obtain ⟨n_118, he⟩ := he
              exact l_L_isNavigator_260 l dC dI P ad tb  hx hb0 hr hlocks hml hown hts hK hk Q n_118 x1 x2 x_1 r_2 (0 : Int32) (0 : Int32) (0 : Int32) h_114 he _ _ ls hP hD hS (lv_sub hl [5, 6, 7, 8, 9, 10, 4, 3, 2, 1, 0] rfl)
            · have he := he.2 c_117
              refine lv_iload hx hb0 dL_isNavigator_213 (lv_at hl 0 rfl) ?_
              refine lv_if_eq (tgt := 252) hx hb0 dL_isNavigator_215 (by decide) (fun c_119 => ?_) (fun c_119 => ?_)
              · refine lv_iconst (v := (0 : Int32)) hx hb0 dL_isNavigator_252 (by decide) ?_
                exact gx_zret hx hb0 hr (by decide) hlocks hK hP hD hS he dL_isNavigator_253
              · exact absurd c_119 (by decide)
          · have he := he.1 c_116
            refine lv_aload_n hx hb0 dL_isNavigator_95 rfl (lv_at hl 2 rfl) ?_
            refine lv_iload_n hx hb0 dL_isNavigator_96 rfl (lv_at hl 3 rfl) ?_
            refine lv_iconst (v := (5 : Int32)) hx hb0 dL_isNavigator_97 (by decide) ?_
            refine gx_vi ⟨hx, hb0, hml, hown, hts⟩ (gKC_keep _ _) hk hK hP hD hS 0 [.int x1, .int (5 : Int32)] [] (c_X7_of l dC dI P ad tb x1 (5 : Int32) h_114 _ he) gm_X7_of im_yX7_of se_yX7_of ml_RL_91 (by decide) (cE_t0 _) rfl rfl rfl ⟨Nat.le_of_ble_eq_true rfl, Nat.le_of_ble_eq_true rfl⟩ rfl hl.1 rfl (Nat.le_of_ble_eq_true rfl) dL_isNavigator_98 ⟨Nat.zero_le _, Nat.zero_le _⟩ (fun r_120 h_121 he H locs hP hD hS => ?_)
            refine lv_aload hx hb0 dL_isNavigator_101 (lv_at hl 7 rfl) ?_
            refine lv_iload hx hb0 dL_isNavigator_103 (lv_at hl 1 rfl) ?_
            refine lv_iconst (v := (5 : Int32)) hx hb0 dL_isNavigator_105 (by decide) ?_
            refine lv_iadd hx hb0 dL_isNavigator_106 ?_
            obtain ⟨v_122, he⟩ := he
            refine gx_iald hx hb0 hK hP 160 0 (by decide) cE_t160 rfl v_122 dL_isNavigator_107 ?_
            refine lv_sipush (v := (9999 : Int32)) hx hb0 dL_isNavigator_108 (by decide) ?_
            refine lv_icmp_ne (tgt := 119) hx hb0 dL_isNavigator_111 (by decide) (fun c_123 => ?_) (fun c_123 => ?_)
            · have he := he.2 c_123
              refine lv_aload hx hb0 dL_isNavigator_119 (lv_at hl 7 rfl) ?_
              refine lv_iload hx hb0 dL_isNavigator_121 (lv_at hl 1 rfl) ?_
              refine lv_iconst (v := (5 : Int32)) hx hb0 dL_isNavigator_123 (by decide) ?_
              refine lv_iadd hx hb0 dL_isNavigator_124 ?_
              obtain ⟨v_124, he⟩ := he
              refine gx_iald hx hb0 hK hP 160 0 (by decide) cE_t160 rfl v_124 dL_isNavigator_125 ?_
              refine lv_sipush (v := (5400 : Int32)) hx hb0 dL_isNavigator_126 (by decide) ?_
              refine lv_iadd hx hb0 dL_isNavigator_129 ?_
              refine lv_icmp_ne (tgt := 202) hx hb0 dL_isNavigator_130 (by decide) (fun c_125 => ?_) (fun c_125 => ?_)
              · have he := he.2 c_125
                refine lv_iconst (v := (0 : Int32)) hx hb0 dL_isNavigator_202 (by decide) ?_
                refine lv_istore (lv' := [(8, .int (0 : Int32)), (7, .int r_2), (6, .int x_1), (0, .ref (ad 0)), (1, .int x1), (2, .int x2), (3, .ref (ad 158)), (4, .ref (ad 159)), (5, .ref (ad 160))]) hx hb0 dL_isNavigator_203 hl (by decide) rfl (fun ls hl => ?_)
                refine lv_iload_n hx hb0 dL_isNavigator_205 rfl (lv_at hl 5 rfl) ?_
                refine lv_aload_n hx hb0 dL_isNavigator_206 rfl (lv_at hl 6 rfl) ?_
                refine lv_bipush (v := (12 : Int32)) hx hb0 dL_isNavigator_207 (by decide) ?_
                refine gx_ialdK hx hb0 hK hP 158 0 (by decide) cE_t158 rfl (vp_lit (12 : Int32) (by decide) (by decide)) 12 rfl dL_isNavigator_209 ?_
                refine lv_icmp_lt (tgt := 254) hx hb0 dL_isNavigator_210 (by decide) (fun c_126 => ?_) (fun c_126 => ?_)
                · have he := he.1 c_126
                  refine lv_iconst (v := (0 : Int32)) hx hb0 dL_isNavigator_254 (by decide) ?_
                  refine lv_istore (lv' := [(9, .int (0 : Int32)), (8, .int (0 : Int32)), (7, .int r_2), (6, .int x_1), (0, .ref (ad 0)), (1, .int x1), (2, .int x2), (3, .ref (ad 158)), (4, .ref (ad 159)), (5, .ref (ad 160))]) hx hb0 dL_isNavigator_255 hl (by decide) rfl (fun ls hl => ?_)
                  refine lv_iconst (v := (0 : Int32)) hx hb0 dL_isNavigator_257 (by decide) ?_
                  refine lv_istore (lv' := [(10, .int (0 : Int32)), (9, .int (0 : Int32)), (8, .int (0 : Int32)), (7, .int r_2), (6, .int x_1), (0, .ref (ad 0)), (1, .int x1), (2, .int x2), (3, .ref (ad 158)), (4, .ref (ad 159)), (5, .ref (ad 160))]) hx hb0 dL_isNavigator_258 hl (by decide) rfl (fun ls hl => ?_)
                  obtain ⟨n_127, he⟩ := he
                  exact l_L_isNavigator_260 l dC dI P ad tb  hx hb0 hr hlocks hml hown hts hK hk Q n_127 x1 x2 x_1 r_2 (0 : Int32) (0 : Int32) (0 : Int32) h_121 he _ _ ls hP hD hS (lv_sub hl [5, 6, 7, 8, 9, 10, 4, 3, 2, 1, 0] rfl)
                · have he := he.2 c_126
                  refine lv_iload hx hb0 dL_isNavigator_213 (lv_at hl 0 rfl) ?_
                  refine lv_if_eq (tgt := 252) hx hb0 dL_isNavigator_215 (by decide) (fun c_128 => ?_) (fun c_128 => ?_)
                  · refine lv_iconst (v := (0 : Int32)) hx hb0 dL_isNavigator_252 (by decide) ?_
                    exact gx_zret hx hb0 hr (by decide) hlocks hK hP hD hS he dL_isNavigator_253
                  · exact absurd c_128 (by decide)
              · have he := he.1 c_125
                refine lv_aload_n hx hb0 dL_isNavigator_133 rfl (lv_at hl 2 rfl) ?_
                refine lv_iload_n hx hb0 dL_isNavigator_134 rfl (lv_at hl 3 rfl) ?_
                refine lv_bipush (v := (6 : Int32)) hx hb0 dL_isNavigator_135 (by decide) ?_
                refine gx_vi ⟨hx, hb0, hml, hown, hts⟩ (gKC_keep _ _) hk hK hP hD hS 0 [.int x1, .int (6 : Int32)] [] (c_X7_of l dC dI P ad tb x1 (6 : Int32) h_121 _ he) gm_X7_of im_yX7_of se_yX7_of ml_RL_91 (by decide) (cE_t0 _) rfl rfl rfl ⟨Nat.le_of_ble_eq_true rfl, Nat.le_of_ble_eq_true rfl⟩ rfl hl.1 rfl (Nat.le_of_ble_eq_true rfl) dL_isNavigator_137 ⟨Nat.zero_le _, Nat.zero_le _⟩ (fun r_129 h_130 he H locs hP hD hS => ?_)
                refine lv_aload hx hb0 dL_isNavigator_140 (lv_at hl 7 rfl) ?_
                refine lv_iload hx hb0 dL_isNavigator_142 (lv_at hl 1 rfl) ?_
                refine lv_bipush (v := (6 : Int32)) hx hb0 dL_isNavigator_144 (by decide) ?_
                refine lv_iadd hx hb0 dL_isNavigator_146 ?_
                obtain ⟨v_131, he⟩ := he
                refine gx_iald hx hb0 hK hP 160 0 (by decide) cE_t160 rfl v_131 dL_isNavigator_147 ?_
                refine lv_icmp_ne (tgt := 202) hx hb0 dL_isNavigator_148 (by decide) (fun c_132 => ?_) (fun c_132 => ?_)
                · have he := he.2 c_132
                  refine lv_iconst (v := (0 : Int32)) hx hb0 dL_isNavigator_202 (by decide) ?_
                  refine lv_istore (lv' := [(8, .int (0 : Int32)), (7, .int r_2), (6, .int x_1), (0, .ref (ad 0)), (1, .int x1), (2, .int x2), (3, .ref (ad 158)), (4, .ref (ad 159)), (5, .ref (ad 160))]) hx hb0 dL_isNavigator_203 hl (by decide) rfl (fun ls hl => ?_)
                  refine lv_iload_n hx hb0 dL_isNavigator_205 rfl (lv_at hl 5 rfl) ?_
                  refine lv_aload_n hx hb0 dL_isNavigator_206 rfl (lv_at hl 6 rfl) ?_
                  refine lv_bipush (v := (12 : Int32)) hx hb0 dL_isNavigator_207 (by decide) ?_
                  refine gx_ialdK hx hb0 hK hP 158 0 (by decide) cE_t158 rfl (vp_lit (12 : Int32) (by decide) (by decide)) 12 rfl dL_isNavigator_209 ?_
                  refine lv_icmp_lt (tgt := 254) hx hb0 dL_isNavigator_210 (by decide) (fun c_133 => ?_) (fun c_133 => ?_)
                  · have he := he.1 c_133
                    refine lv_iconst (v := (0 : Int32)) hx hb0 dL_isNavigator_254 (by decide) ?_
                    refine lv_istore (lv' := [(9, .int (0 : Int32)), (8, .int (0 : Int32)), (7, .int r_2), (6, .int x_1), (0, .ref (ad 0)), (1, .int x1), (2, .int x2), (3, .ref (ad 158)), (4, .ref (ad 159)), (5, .ref (ad 160))]) hx hb0 dL_isNavigator_255 hl (by decide) rfl (fun ls hl => ?_)
                    refine lv_iconst (v := (0 : Int32)) hx hb0 dL_isNavigator_257 (by decide) ?_
                    refine lv_istore (lv' := [(10, .int (0 : Int32)), (9, .int (0 : Int32)), (8, .int (0 : Int32)), (7, .int r_2), (6, .int x_1), (0, .ref (ad 0)), (1, .int x1), (2, .int x2), (3, .ref (ad 158)), (4, .ref (ad 159)), (5, .ref (ad 160))]) hx hb0 dL_isNavigator_258 hl (by decide) rfl (fun ls hl => ?_)
                    obtain ⟨n_134, he⟩ := he
                    exact l_L_isNavigator_260 l dC dI P ad tb  hx hb0 hr hlocks hml hown hts hK hk Q n_134 x1 x2 x_1 r_2 (0 : Int32) (0 : Int32) (0 : Int32) h_130 he _ _ ls hP hD hS (lv_sub hl [5, 6, 7, 8, 9, 10, 4, 3, 2, 1, 0] rfl)
                  · have he := he.2 c_133
                    refine lv_iload hx hb0 dL_isNavigator_213 (lv_at hl 0 rfl) ?_
                    refine lv_if_eq (tgt := 252) hx hb0 dL_isNavigator_215 (by decide) (fun c_135 => ?_) (fun c_135 => ?_)
                    · refine lv_iconst (v := (0 : Int32)) hx hb0 dL_isNavigator_252 (by decide) ?_
                      exact gx_zret hx hb0 hr (by decide) hlocks hK hP hD hS he dL_isNavigator_253
                    · exact absurd c_135 (by decide)
                · have he := he.1 c_132
                  refine lv_aload_n hx hb0 dL_isNavigator_151 rfl (lv_at hl 2 rfl) ?_
                  refine lv_iload_n hx hb0 dL_isNavigator_152 rfl (lv_at hl 3 rfl) ?_
                  refine lv_bipush (v := (7 : Int32)) hx hb0 dL_isNavigator_153 (by decide) ?_
                  refine gx_vi ⟨hx, hb0, hml, hown, hts⟩ (gKC_keep _ _) hk hK hP hD hS 0 [.int x1, .int (7 : Int32)] [] (c_X7_of l dC dI P ad tb x1 (7 : Int32) h_130 _ he) gm_X7_of im_yX7_of se_yX7_of ml_RL_91 (by decide) (cE_t0 _) rfl rfl rfl ⟨Nat.le_of_ble_eq_true rfl, Nat.le_of_ble_eq_true rfl⟩ rfl hl.1 rfl (Nat.le_of_ble_eq_true rfl) dL_isNavigator_155 ⟨Nat.zero_le _, Nat.zero_le _⟩ (fun r_136 h_137 he H locs hP hD hS => ?_)
                  refine lv_iload_n hx hb0 dL_isNavigator_158 rfl (lv_at hl 3 rfl) ?_
                  refine lv_aload hx hb0 dL_isNavigator_159 (lv_at hl 7 rfl) ?_
                  refine gx_si ⟨hx, hb0, hml, hown, hts⟩ (gKC_keep _ _) hk hK hP hD hS [.int x1, .ref (ad 160)] [.int r_136] (c_L_error l dC dI P ad tb x1 h_137 _ he) gm_L_error st_yL_error ml_RL_24 rfl rfl ⟨Nat.le_of_ble_eq_true rfl, Nat.le_of_ble_eq_true rfl⟩ rfl hl.1 rfl (Nat.le_of_ble_eq_true rfl) dL_isNavigator_161 ⟨Nat.zero_le _, Nat.zero_le _⟩ (fun r_138 h_139 he H locs hP hD hS => ?_)
                  refine lv_sipush (v := (999 : Int32)) hx hb0 dL_isNavigator_164 (by decide) ?_
                  refine lv_iadd hx hb0 dL_isNavigator_167 ?_
                  refine lv_icmp_ne (tgt := 202) hx hb0 dL_isNavigator_168 (by decide) (fun c_140 => ?_) (fun c_140 => ?_)
                  · have he := he.2 c_140
                    refine lv_iconst (v := (0 : Int32)) hx hb0 dL_isNavigator_202 (by decide) ?_
                    refine lv_istore (lv' := [(8, .int (0 : Int32)), (7, .int r_2), (6, .int x_1), (0, .ref (ad 0)), (1, .int x1), (2, .int x2), (3, .ref (ad 158)), (4, .ref (ad 159)), (5, .ref (ad 160))]) hx hb0 dL_isNavigator_203 hl (by decide) rfl (fun ls hl => ?_)
                    refine lv_iload_n hx hb0 dL_isNavigator_205 rfl (lv_at hl 5 rfl) ?_
                    refine lv_aload_n hx hb0 dL_isNavigator_206 rfl (lv_at hl 6 rfl) ?_
                    refine lv_bipush (v := (12 : Int32)) hx hb0 dL_isNavigator_207 (by decide) ?_
                    refine gx_ialdK hx hb0 hK hP 158 0 (by decide) cE_t158 rfl (vp_lit (12 : Int32) (by decide) (by decide)) 12 rfl dL_isNavigator_209 ?_
                    refine lv_icmp_lt (tgt := 254) hx hb0 dL_isNavigator_210 (by decide) (fun c_141 => ?_) (fun c_141 => ?_)
                    · have he := he.1 c_141
                      refine lv_iconst (v := (0 : Int32)) hx hb0 dL_isNavigator_254 (by decide) ?_
                      refine lv_istore (lv' := [(9, .int (0 : Int32)), (8, .int (0 : Int32)), (7, .int r_2), (6, .int x_1), (0, .ref (ad 0)), (1, .int x1), (2, .int x2), (3, .ref (ad 158)), (4, .ref (ad 159)), (5, .ref (ad 160))]) hx hb0 dL_isNavigator_255 hl (by decide) rfl (fun ls hl => ?_)
                      refine lv_iconst (v := (0 : Int32)) hx hb0 dL_isNavigator_257 (by decide) ?_
                      refine lv_istore (lv' := [(10, .int (0 : Int32)), (9, .int (0 : Int32)), (8, .int (0 : Int32)), (7, .int r_2), (6, .int x_1), (0, .ref (ad 0)), (1, .int x1), (2, .int x2), (3, .ref (ad 158)), (4, .ref (ad 159)), (5, .ref (ad 160))]) hx hb0 dL_isNavigator_258 hl (by decide) rfl (fun ls hl => ?_)
                      obtain ⟨n_142, he⟩ := he
                      exact l_L_isNavigator_260 l dC dI P ad tb  hx hb0 hr hlocks hml hown hts hK hk Q n_142 x1 x2 x_1 r_2 (0 : Int32) (0 : Int32) (0 : Int32) h_139 he _ _ ls hP hD hS (lv_sub hl [5, 6, 7, 8, 9, 10, 4, 3, 2, 1, 0] rfl)
                    · have he := he.2 c_141
                      refine lv_iload hx hb0 dL_isNavigator_213 (lv_at hl 0 rfl) ?_
                      refine lv_if_eq (tgt := 252) hx hb0 dL_isNavigator_215 (by decide) (fun c_143 => ?_) (fun c_143 => ?_)
                      · refine lv_iconst (v := (0 : Int32)) hx hb0 dL_isNavigator_252 (by decide) ?_
                        exact gx_zret hx hb0 hr (by decide) hlocks hK hP hD hS he dL_isNavigator_253
                      · exact absurd c_143 (by decide)
                  · have he := he.1 c_140
                    refine lv_aload_n hx hb0 dL_isNavigator_171 rfl (lv_at hl 2 rfl) ?_
                    refine lv_iload_n hx hb0 dL_isNavigator_172 rfl (lv_at hl 3 rfl) ?_
                    refine gx_vi ⟨hx, hb0, hml, hown, hts⟩ (gKC_keep _ _) hk hK hP hD hS 0 [.int x1] [] (c_X7_median l dC dI P ad tb x1 h_139 _ he) gm_X7_median im_yX7_median se_yX7_median ml_RL_94 (by decide) (cE_t0 _) rfl rfl rfl ⟨Nat.le_of_ble_eq_true rfl, Nat.le_of_ble_eq_true rfl⟩ rfl hl.1 rfl (Nat.le_of_ble_eq_true rfl) dL_isNavigator_173 ⟨Nat.zero_le _, Nat.zero_le _⟩ (fun r_144 h_145 he H locs hP hD hS => ?_)
                    refine lv_iload hx hb0 dL_isNavigator_176 (lv_at hl 0 rfl) ?_
                    refine lv_sipush (v := (9999 : Int32)) hx hb0 dL_isNavigator_178 (by decide) ?_
                    refine lv_icmp_ne (tgt := 189) hx hb0 dL_isNavigator_181 (by decide) (fun c_146 => ?_) (fun c_146 => ?_)
                    · have he := he.2 c_146
                      refine lv_iload hx hb0 dL_isNavigator_189 (lv_at hl 0 rfl) ?_
                      refine lv_sipush (v := (5400 : Int32)) hx hb0 dL_isNavigator_191 (by decide) ?_
                      refine lv_iadd hx hb0 dL_isNavigator_194 ?_
                      refine lv_icmp_ne (tgt := 202) hx hb0 dL_isNavigator_195 (by decide) (fun c_147 => ?_) (fun c_147 => ?_)
                      · have he := he.2 c_147
                        refine lv_iconst (v := (0 : Int32)) hx hb0 dL_isNavigator_202 (by decide) ?_
                        refine lv_istore (lv' := [(8, .int (0 : Int32)), (7, .int r_2), (6, .int x_1), (0, .ref (ad 0)), (1, .int x1), (2, .int x2), (3, .ref (ad 158)), (4, .ref (ad 159)), (5, .ref (ad 160))]) hx hb0 dL_isNavigator_203 hl (by decide) rfl (fun ls hl => ?_)
                        refine lv_iload_n hx hb0 dL_isNavigator_205 rfl (lv_at hl 5 rfl) ?_
                        refine lv_aload_n hx hb0 dL_isNavigator_206 rfl (lv_at hl 6 rfl) ?_
                        refine lv_bipush (v := (12 : Int32)) hx hb0 dL_isNavigator_207 (by decide) ?_
                        refine gx_ialdK hx hb0 hK hP 158 0 (by decide) cE_t158 rfl (vp_lit (12 : Int32) (by decide) (by decide)) 12 rfl dL_isNavigator_209 ?_
                        refine lv_icmp_lt (tgt := 254) hx hb0 dL_isNavigator_210 (by decide) (fun c_148 => ?_) (fun c_148 => ?_)
                        · have he := he.1 c_148
                          refine lv_iconst (v := (0 : Int32)) hx hb0 dL_isNavigator_254 (by decide) ?_
                          refine lv_istore (lv' := [(9, .int (0 : Int32)), (8, .int (0 : Int32)), (7, .int r_2), (6, .int x_1), (0, .ref (ad 0)), (1, .int x1), (2, .int x2), (3, .ref (ad 158)), (4, .ref (ad 159)), (5, .ref (ad 160))]) hx hb0 dL_isNavigator_255 hl (by decide) rfl (fun ls hl => ?_)
                          refine lv_iconst (v := (0 : Int32)) hx hb0 dL_isNavigator_257 (by decide) ?_
                          refine lv_istore (lv' := [(10, .int (0 : Int32)), (9, .int (0 : Int32)), (8, .int (0 : Int32)), (7, .int r_2), (6, .int x_1), (0, .ref (ad 0)), (1, .int x1), (2, .int x2), (3, .ref (ad 158)), (4, .ref (ad 159)), (5, .ref (ad 160))]) hx hb0 dL_isNavigator_258 hl (by decide) rfl (fun ls hl => ?_)
                          obtain ⟨n_149, he⟩ := he
                          exact l_L_isNavigator_260 l dC dI P ad tb  hx hb0 hr hlocks hml hown hts hK hk Q n_149 x1 x2 x_1 r_2 (0 : Int32) (0 : Int32) (0 : Int32) h_145 he _ _ ls hP hD hS (lv_sub hl [5, 6, 7, 8, 9, 10, 4, 3, 2, 1, 0] rfl)
                        · have he := he.2 c_148
                          refine lv_iload hx hb0 dL_isNavigator_213 (lv_at hl 0 rfl) ?_
                          refine lv_if_eq (tgt := 252) hx hb0 dL_isNavigator_215 (by decide) (fun c_150 => ?_) (fun c_150 => ?_)
                          · refine lv_iconst (v := (0 : Int32)) hx hb0 dL_isNavigator_252 (by decide) ?_
                            exact gx_zret hx hb0 hr (by decide) hlocks hK hP hD hS he dL_isNavigator_253
                          · exact absurd c_150 (by decide)
                      · have he := he.1 c_147
                        refine lv_iconst (v := (1 : Int32)) hx hb0 dL_isNavigator_198 (by decide) ?_
                        refine lv_goto (tgt := 203) hx hb0 dL_isNavigator_199 (by decide) ?_
                        refine lv_istore (lv' := [(8, .int (1 : Int32)), (7, .int r_2), (6, .int x_1), (0, .ref (ad 0)), (1, .int x1), (2, .int x2), (3, .ref (ad 158)), (4, .ref (ad 159)), (5, .ref (ad 160))]) hx hb0 dL_isNavigator_203 hl (by decide) rfl (fun ls hl => ?_)
                        refine lv_iload_n hx hb0 dL_isNavigator_205 rfl (lv_at hl 5 rfl) ?_
                        refine lv_aload_n hx hb0 dL_isNavigator_206 rfl (lv_at hl 6 rfl) ?_
                        refine lv_bipush (v := (12 : Int32)) hx hb0 dL_isNavigator_207 (by decide) ?_
                        refine gx_ialdK hx hb0 hK hP 158 0 (by decide) cE_t158 rfl (vp_lit (12 : Int32) (by decide) (by decide)) 12 rfl dL_isNavigator_209 ?_
                        refine lv_icmp_lt (tgt := 254) hx hb0 dL_isNavigator_210 (by decide) (fun c_151 => ?_) (fun c_151 => ?_)
                        · have he := he.1 c_151
                          refine lv_iconst (v := (0 : Int32)) hx hb0 dL_isNavigator_254 (by decide) ?_
                          refine lv_istore (lv' := [(9, .int (0 : Int32)), (8, .int (1 : Int32)), (7, .int r_2), (6, .int x_1), (0, .ref (ad 0)), (1, .int x1), (2, .int x2), (3, .ref (ad 158)), (4, .ref (ad 159)), (5, .ref (ad 160))]) hx hb0 dL_isNavigator_255 hl (by decide) rfl (fun ls hl => ?_)
                          refine lv_iconst (v := (0 : Int32)) hx hb0 dL_isNavigator_257 (by decide) ?_
                          refine lv_istore (lv' := [(10, .int (0 : Int32)), (9, .int (0 : Int32)), (8, .int (1 : Int32)), (7, .int r_2), (6, .int x_1), (0, .ref (ad 0)), (1, .int x1), (2, .int x2), (3, .ref (ad 158)), (4, .ref (ad 159)), (5, .ref (ad 160))]) hx hb0 dL_isNavigator_258 hl (by decide) rfl (fun ls hl => ?_)
                          obtain ⟨n_152, he⟩ := he
                          exact l_L_isNavigator_260 l dC dI P ad tb  hx hb0 hr hlocks hml hown hts hK hk Q n_152 x1 x2 x_1 r_2 (1 : Int32) (0 : Int32) (0 : Int32) h_145 he _ _ ls hP hD hS (lv_sub hl [5, 6, 7, 8, 9, 10, 4, 3, 2, 1, 0] rfl)
                        · have he := he.2 c_151
                          refine lv_iload hx hb0 dL_isNavigator_213 (lv_at hl 0 rfl) ?_
                          refine lv_if_eq (tgt := 252) hx hb0 dL_isNavigator_215 (by decide) (fun c_153 => ?_) (fun c_153 => ?_)
                          · exact absurd c_153 (by decide)
                          · refine lv_aload_n hx hb0 dL_isNavigator_218 rfl (lv_at hl 3 rfl) ?_
                            refine lv_iload_n hx hb0 dL_isNavigator_219 rfl (lv_at hl 4 rfl) ?_
                            refine lv_iload_n hx hb0 dL_isNavigator_220 rfl (lv_at hl 5 rfl) ?_
                            refine gx_vi ⟨hx, hb0, hml, hown, hts⟩ (gKC_keep _ _) hk hK hP hD hS 0 [.int x1, .int x2] [] (c_X7_why l dC dI P ad tb x1 x2 h_145 _ he) gm_X7_why im_yX7_why se_yX7_why ml_RL_96 (by decide) (cE_t0 _) rfl rfl rfl ⟨Nat.le_of_ble_eq_true rfl, Nat.le_of_ble_eq_true rfl⟩ rfl hl.1 rfl (Nat.le_of_ble_eq_true rfl) dL_isNavigator_221 ⟨Nat.zero_le _, Nat.zero_le _⟩ (fun r_154 h_155 he H locs hP hD hS => ?_)
                            refine lv_iconst (v := (-1 : Int32)) hx hb0 dL_isNavigator_224 (by decide) ?_
                            refine lv_icmp_ne (tgt := 252) hx hb0 dL_isNavigator_225 (by decide) (fun c_156 => ?_) (fun c_156 => ?_)
                            · have he := he.2 c_156
                              refine lv_iconst (v := (0 : Int32)) hx hb0 dL_isNavigator_252 (by decide) ?_
                              exact gx_zret hx hb0 hr (by decide) hlocks hK hP hD hS he dL_isNavigator_253
                            · have he := he.1 c_156
                              refine lv_aload_n hx hb0 dL_isNavigator_228 rfl (lv_at hl 3 rfl) ?_
                              refine lv_iload_n hx hb0 dL_isNavigator_229 rfl (lv_at hl 4 rfl) ?_
                              refine lv_iload_n hx hb0 dL_isNavigator_230 rfl (lv_at hl 5 rfl) ?_
                              refine gx_vi ⟨hx, hb0, hml, hown, hts⟩ (gKC_keep _ _) hk hK hP hD hS 0 [.int x1, .int x2] [] (c_X7_ifSighted l dC dI P ad tb x1 x2 h_155 _ he) gm_X7_ifSighted im_yX7_ifSighted se_yX7_ifSighted ml_RL_98 (by decide) (cE_t0 _) rfl rfl rfl ⟨Nat.le_of_ble_eq_true rfl, Nat.le_of_ble_eq_true rfl⟩ rfl hl.1 rfl (Nat.le_of_ble_eq_true rfl) dL_isNavigator_231 ⟨Nat.zero_le _, Nat.zero_le _⟩ (fun r_157 h_158 he H locs hP hD hS => ?_)
                              refine lv_iconst (v := (-1 : Int32)) hx hb0 dL_isNavigator_234 (by decide) ?_
                              refine lv_icmp_ne (tgt := 252) hx hb0 dL_isNavigator_235 (by decide) (fun c_159 => ?_) (fun c_159 => ?_)
                              · have he := he.2 c_159
                                refine lv_iconst (v := (0 : Int32)) hx hb0 dL_isNavigator_252 (by decide) ?_
                                exact gx_zret hx hb0 hr (by decide) hlocks hK hP hD hS he dL_isNavigator_253
                              · have he := he.1 c_159
                                refine lv_aload_n hx hb0 dL_isNavigator_238 rfl (lv_at hl 3 rfl) ?_
                                refine lv_iload_n hx hb0 dL_isNavigator_239 rfl (lv_at hl 5 rfl) ?_
                                refine lv_iconst (v := (0 : Int32)) hx hb0 dL_isNavigator_240 (by decide) ?_
                                refine gx_vi ⟨hx, hb0, hml, hown, hts⟩ (gKC_keep _ _) hk hK hP hD hS 0 [.int x2, .int (0 : Int32)] [] (c_X7_ofStar l dC dI P ad tb x2 (0 : Int32) h_158 _ he) gm_X7_ofStar im_yX7_ofStar se_yX7_ofStar ml_RL_101 (by decide) (cE_t0 _) rfl rfl rfl ⟨Nat.le_of_ble_eq_true rfl, Nat.le_of_ble_eq_true rfl⟩ rfl hl.1 rfl (Nat.le_of_ble_eq_true rfl) dL_isNavigator_241 ⟨Nat.zero_le _, Nat.zero_le _⟩ (fun r_160 h_161 he H locs hP hD hS => ?_)
                                refine lv_iconst (v := (-1 : Int32)) hx hb0 dL_isNavigator_244 (by decide) ?_
                                refine lv_icmp_ne (tgt := 252) hx hb0 dL_isNavigator_245 (by decide) (fun c_162 => ?_) (fun c_162 => ?_)
                                · have he := he.2 c_162
                                  refine lv_iconst (v := (0 : Int32)) hx hb0 dL_isNavigator_252 (by decide) ?_
                                  exact gx_zret hx hb0 hr (by decide) hlocks hK hP hD hS he dL_isNavigator_253
                                · have he := he.1 c_162
                                  refine lv_iconst (v := (1 : Int32)) hx hb0 dL_isNavigator_248 (by decide) ?_
                                  refine lv_goto (tgt := 253) hx hb0 dL_isNavigator_249 (by decide) ?_
                                  exact gx_zret hx hb0 hr (by decide) hlocks hK hP hD hS he dL_isNavigator_253
                    · have he := he.1 c_146
                      refine lv_bipush (v := (-5 : Int32)) hx hb0 dL_isNavigator_184 (by decide) ?_
                      refine lv_goto (tgt := 195) hx hb0 dL_isNavigator_186 (by decide) ?_
                      refine lv_icmp_ne (tgt := 202) hx hb0 dL_isNavigator_195 (by decide) (fun c_163 => ?_) (fun c_163 => ?_)
                      · have he := he.2 c_163
                        refine lv_iconst (v := (0 : Int32)) hx hb0 dL_isNavigator_202 (by decide) ?_
                        refine lv_istore (lv' := [(8, .int (0 : Int32)), (7, .int r_2), (6, .int x_1), (0, .ref (ad 0)), (1, .int x1), (2, .int x2), (3, .ref (ad 158)), (4, .ref (ad 159)), (5, .ref (ad 160))]) hx hb0 dL_isNavigator_203 hl (by decide) rfl (fun ls hl => ?_)
                        refine lv_iload_n hx hb0 dL_isNavigator_205 rfl (lv_at hl 5 rfl) ?_
                        refine lv_aload_n hx hb0 dL_isNavigator_206 rfl (lv_at hl 6 rfl) ?_
                        refine lv_bipush (v := (12 : Int32)) hx hb0 dL_isNavigator_207 (by decide) ?_
                        refine gx_ialdK hx hb0 hK hP 158 0 (by decide) cE_t158 rfl (vp_lit (12 : Int32) (by decide) (by decide)) 12 rfl dL_isNavigator_209 ?_
                        refine lv_icmp_lt (tgt := 254) hx hb0 dL_isNavigator_210 (by decide) (fun c_164 => ?_) (fun c_164 => ?_)
                        · have he := he.1 c_164
                          refine lv_iconst (v := (0 : Int32)) hx hb0 dL_isNavigator_254 (by decide) ?_
                          refine lv_istore (lv' := [(9, .int (0 : Int32)), (8, .int (0 : Int32)), (7, .int r_2), (6, .int x_1), (0, .ref (ad 0)), (1, .int x1), (2, .int x2), (3, .ref (ad 158)), (4, .ref (ad 159)), (5, .ref (ad 160))]) hx hb0 dL_isNavigator_255 hl (by decide) rfl (fun ls hl => ?_)
                          refine lv_iconst (v := (0 : Int32)) hx hb0 dL_isNavigator_257 (by decide) ?_
                          refine lv_istore (lv' := [(10, .int (0 : Int32)), (9, .int (0 : Int32)), (8, .int (0 : Int32)), (7, .int r_2), (6, .int x_1), (0, .ref (ad 0)), (1, .int x1), (2, .int x2), (3, .ref (ad 158)), (4, .ref (ad 159)), (5, .ref (ad 160))]) hx hb0 dL_isNavigator_258 hl (by decide) rfl (fun ls hl => ?_)
                          obtain ⟨n_165, he⟩ := he
                          exact l_L_isNavigator_260 l dC dI P ad tb  hx hb0 hr hlocks hml hown hts hK hk Q n_165 x1 x2 x_1 r_2 (0 : Int32) (0 : Int32) (0 : Int32) h_145 he _ _ ls hP hD hS (lv_sub hl [5, 6, 7, 8, 9, 10, 4, 3, 2, 1, 0] rfl)
                        · have he := he.2 c_164
                          refine lv_iload hx hb0 dL_isNavigator_213 (lv_at hl 0 rfl) ?_
                          refine lv_if_eq (tgt := 252) hx hb0 dL_isNavigator_215 (by decide) (fun c_166 => ?_) (fun c_166 => ?_)
                          · refine lv_iconst (v := (0 : Int32)) hx hb0 dL_isNavigator_252 (by decide) ?_
                            exact gx_zret hx hb0 hr (by decide) hlocks hK hP hD hS he dL_isNavigator_253
                          · exact absurd c_166 (by decide)
                      · have he := he.1 c_163
                        refine lv_iconst (v := (1 : Int32)) hx hb0 dL_isNavigator_198 (by decide) ?_
                        refine lv_goto (tgt := 203) hx hb0 dL_isNavigator_199 (by decide) ?_
                        refine lv_istore (lv' := [(8, .int (1 : Int32)), (7, .int r_2), (6, .int x_1), (0, .ref (ad 0)), (1, .int x1), (2, .int x2), (3, .ref (ad 158)), (4, .ref (ad 159)), (5, .ref (ad 160))]) hx hb0 dL_isNavigator_203 hl (by decide) rfl (fun ls hl => ?_)
                        refine lv_iload_n hx hb0 dL_isNavigator_205 rfl (lv_at hl 5 rfl) ?_
                        refine lv_aload_n hx hb0 dL_isNavigator_206 rfl (lv_at hl 6 rfl) ?_
                        refine lv_bipush (v := (12 : Int32)) hx hb0 dL_isNavigator_207 (by decide) ?_
                        refine gx_ialdK hx hb0 hK hP 158 0 (by decide) cE_t158 rfl (vp_lit (12 : Int32) (by decide) (by decide)) 12 rfl dL_isNavigator_209 ?_
                        refine lv_icmp_lt (tgt := 254) hx hb0 dL_isNavigator_210 (by decide) (fun c_167 => ?_) (fun c_167 => ?_)
                        · have he := he.1 c_167
                          refine lv_iconst (v := (0 : Int32)) hx hb0 dL_isNavigator_254 (by decide) ?_
                          refine lv_istore (lv' := [(9, .int (0 : Int32)), (8, .int (1 : Int32)), (7, .int r_2), (6, .int x_1), (0, .ref (ad 0)), (1, .int x1), (2, .int x2), (3, .ref (ad 158)), (4, .ref (ad 159)), (5, .ref (ad 160))]) hx hb0 dL_isNavigator_255 hl (by decide) rfl (fun ls hl => ?_)
                          refine lv_iconst (v := (0 : Int32)) hx hb0 dL_isNavigator_257 (by decide) ?_
                          refine lv_istore (lv' := [(10, .int (0 : Int32)), (9, .int (0 : Int32)), (8, .int (1 : Int32)), (7, .int r_2), (6, .int x_1), (0, .ref (ad 0)), (1, .int x1), (2, .int x2), (3, .ref (ad 158)), (4, .ref (ad 159)), (5, .ref (ad 160))]) hx hb0 dL_isNavigator_258 hl (by decide) rfl (fun ls hl => ?_)
                          obtain ⟨n_168, he⟩ := he
                          exact l_L_isNavigator_260 l dC dI P ad tb  hx hb0 hr hlocks hml hown hts hK hk Q n_168 x1 x2 x_1 r_2 (1 : Int32) (0 : Int32) (0 : Int32) h_145 he _ _ ls hP hD hS (lv_sub hl [5, 6, 7, 8, 9, 10, 4, 3, 2, 1, 0] rfl)
                        · have he := he.2 c_167
                          refine lv_iload hx hb0 dL_isNavigator_213 (lv_at hl 0 rfl) ?_
                          refine lv_if_eq (tgt := 252) hx hb0 dL_isNavigator_215 (by decide) (fun c_169 => ?_) (fun c_169 => ?_)
                          · exact absurd c_169 (by decide)
                          · refine lv_aload_n hx hb0 dL_isNavigator_218 rfl (lv_at hl 3 rfl) ?_
                            refine lv_iload_n hx hb0 dL_isNavigator_219 rfl (lv_at hl 4 rfl) ?_
                            refine lv_iload_n hx hb0 dL_isNavigator_220 rfl (lv_at hl 5 rfl) ?_
                            refine gx_vi ⟨hx, hb0, hml, hown, hts⟩ (gKC_keep _ _) hk hK hP hD hS 0 [.int x1, .int x2] [] (c_X7_why l dC dI P ad tb x1 x2 h_145 _ he) gm_X7_why im_yX7_why se_yX7_why ml_RL_96 (by decide) (cE_t0 _) rfl rfl rfl ⟨Nat.le_of_ble_eq_true rfl, Nat.le_of_ble_eq_true rfl⟩ rfl hl.1 rfl (Nat.le_of_ble_eq_true rfl) dL_isNavigator_221 ⟨Nat.zero_le _, Nat.zero_le _⟩ (fun r_170 h_171 he H locs hP hD hS => ?_)
                            refine lv_iconst (v := (-1 : Int32)) hx hb0 dL_isNavigator_224 (by decide) ?_
                            refine lv_icmp_ne (tgt := 252) hx hb0 dL_isNavigator_225 (by decide) (fun c_172 => ?_) (fun c_172 => ?_)
                            · have he := he.2 c_172
                              refine lv_iconst (v := (0 : Int32)) hx hb0 dL_isNavigator_252 (by decide) ?_
                              exact gx_zret hx hb0 hr (by decide) hlocks hK hP hD hS he dL_isNavigator_253
                            · have he := he.1 c_172
                              refine lv_aload_n hx hb0 dL_isNavigator_228 rfl (lv_at hl 3 rfl) ?_
                              refine lv_iload_n hx hb0 dL_isNavigator_229 rfl (lv_at hl 4 rfl) ?_
                              refine lv_iload_n hx hb0 dL_isNavigator_230 rfl (lv_at hl 5 rfl) ?_
                              refine gx_vi ⟨hx, hb0, hml, hown, hts⟩ (gKC_keep _ _) hk hK hP hD hS 0 [.int x1, .int x2] [] (c_X7_ifSighted l dC dI P ad tb x1 x2 h_171 _ he) gm_X7_ifSighted im_yX7_ifSighted se_yX7_ifSighted ml_RL_98 (by decide) (cE_t0 _) rfl rfl rfl ⟨Nat.le_of_ble_eq_true rfl, Nat.le_of_ble_eq_true rfl⟩ rfl hl.1 rfl (Nat.le_of_ble_eq_true rfl) dL_isNavigator_231 ⟨Nat.zero_le _, Nat.zero_le _⟩ (fun r_173 h_174 he H locs hP hD hS => ?_)
                              refine lv_iconst (v := (-1 : Int32)) hx hb0 dL_isNavigator_234 (by decide) ?_
                              refine lv_icmp_ne (tgt := 252) hx hb0 dL_isNavigator_235 (by decide) (fun c_175 => ?_) (fun c_175 => ?_)
                              · have he := he.2 c_175
                                refine lv_iconst (v := (0 : Int32)) hx hb0 dL_isNavigator_252 (by decide) ?_
                                exact gx_zret hx hb0 hr (by decide) hlocks hK hP hD hS he dL_isNavigator_253
                              · have he := he.1 c_175
                                refine lv_aload_n hx hb0 dL_isNavigator_238 rfl (lv_at hl 3 rfl) ?_
                                refine lv_iload_n hx hb0 dL_isNavigator_239 rfl (lv_at hl 5 rfl) ?_
                                refine lv_iconst (v := (0 : Int32)) hx hb0 dL_isNavigator_240 (by decide) ?_
                                refine gx_vi ⟨hx, hb0, hml, hown, hts⟩ (gKC_keep _ _) hk hK hP hD hS 0 [.int x2, .int (0 : Int32)] [] (c_X7_ofStar l dC dI P ad tb x2 (0 : Int32) h_174 _ he) gm_X7_ofStar im_yX7_ofStar se_yX7_ofStar ml_RL_101 (by decide) (cE_t0 _) rfl rfl rfl ⟨Nat.le_of_ble_eq_true rfl, Nat.le_of_ble_eq_true rfl⟩ rfl hl.1 rfl (Nat.le_of_ble_eq_true rfl) dL_isNavigator_241 ⟨Nat.zero_le _, Nat.zero_le _⟩ (fun r_176 h_177 he H locs hP hD hS => ?_)
                                refine lv_iconst (v := (-1 : Int32)) hx hb0 dL_isNavigator_244 (by decide) ?_
                                refine lv_icmp_ne (tgt := 252) hx hb0 dL_isNavigator_245 (by decide) (fun c_178 => ?_) (fun c_178 => ?_)
                                · have he := he.2 c_178
                                  refine lv_iconst (v := (0 : Int32)) hx hb0 dL_isNavigator_252 (by decide) ?_
                                  exact gx_zret hx hb0 hr (by decide) hlocks hK hP hD hS he dL_isNavigator_253
                                · have he := he.1 c_178
                                  refine lv_iconst (v := (1 : Int32)) hx hb0 dL_isNavigator_248 (by decide) ?_
                                  refine lv_goto (tgt := 253) hx hb0 dL_isNavigator_249 (by decide) ?_
                                  exact gx_zret hx hb0 hr (by decide) hlocks hK hP hD hS he dL_isNavigator_253
            · have he := he.1 c_123
              refine lv_bipush (v := (-6 : Int32)) hx hb0 dL_isNavigator_114 (by decide) ?_
              refine lv_goto (tgt := 130) hx hb0 dL_isNavigator_116 (by decide) ?_
              refine lv_icmp_ne (tgt := 202) hx hb0 dL_isNavigator_130 (by decide) (fun c_179 => ?_) (fun c_179 => ?_)
              · have he := he.2 c_179
                refine lv_iconst (v := (0 : Int32)) hx hb0 dL_isNavigator_202 (by decide) ?_
                refine lv_istore (lv' := [(8, .int (0 : Int32)), (7, .int r_2), (6, .int x_1), (0, .ref (ad 0)), (1, .int x1), (2, .int x2), (3, .ref (ad 158)), (4, .ref (ad 159)), (5, .ref (ad 160))]) hx hb0 dL_isNavigator_203 hl (by decide) rfl (fun ls hl => ?_)
                refine lv_iload_n hx hb0 dL_isNavigator_205 rfl (lv_at hl 5 rfl) ?_
                refine lv_aload_n hx hb0 dL_isNavigator_206 rfl (lv_at hl 6 rfl) ?_
                refine lv_bipush (v := (12 : Int32)) hx hb0 dL_isNavigator_207 (by decide) ?_
                refine gx_ialdK hx hb0 hK hP 158 0 (by decide) cE_t158 rfl (vp_lit (12 : Int32) (by decide) (by decide)) 12 rfl dL_isNavigator_209 ?_
                refine lv_icmp_lt (tgt := 254) hx hb0 dL_isNavigator_210 (by decide) (fun c_180 => ?_) (fun c_180 => ?_)
                · have he := he.1 c_180
                  refine lv_iconst (v := (0 : Int32)) hx hb0 dL_isNavigator_254 (by decide) ?_
                  refine lv_istore (lv' := [(9, .int (0 : Int32)), (8, .int (0 : Int32)), (7, .int r_2), (6, .int x_1), (0, .ref (ad 0)), (1, .int x1), (2, .int x2), (3, .ref (ad 158)), (4, .ref (ad 159)), (5, .ref (ad 160))]) hx hb0 dL_isNavigator_255 hl (by decide) rfl (fun ls hl => ?_)
                  refine lv_iconst (v := (0 : Int32)) hx hb0 dL_isNavigator_257 (by decide) ?_
                  refine lv_istore (lv' := [(10, .int (0 : Int32)), (9, .int (0 : Int32)), (8, .int (0 : Int32)), (7, .int r_2), (6, .int x_1), (0, .ref (ad 0)), (1, .int x1), (2, .int x2), (3, .ref (ad 158)), (4, .ref (ad 159)), (5, .ref (ad 160))]) hx hb0 dL_isNavigator_258 hl (by decide) rfl (fun ls hl => ?_)
                  obtain ⟨n_181, he⟩ := he
                  exact l_L_isNavigator_260 l dC dI P ad tb  hx hb0 hr hlocks hml hown hts hK hk Q n_181 x1 x2 x_1 r_2 (0 : Int32) (0 : Int32) (0 : Int32) h_121 he _ _ ls hP hD hS (lv_sub hl [5, 6, 7, 8, 9, 10, 4, 3, 2, 1, 0] rfl)
                · have he := he.2 c_180
                  refine lv_iload hx hb0 dL_isNavigator_213 (lv_at hl 0 rfl) ?_
                  refine lv_if_eq (tgt := 252) hx hb0 dL_isNavigator_215 (by decide) (fun c_182 => ?_) (fun c_182 => ?_)
                  · refine lv_iconst (v := (0 : Int32)) hx hb0 dL_isNavigator_252 (by decide) ?_
                    exact gx_zret hx hb0 hr (by decide) hlocks hK hP hD hS he dL_isNavigator_253
                  · exact absurd c_182 (by decide)
              · have he := he.1 c_179
                refine lv_aload_n hx hb0 dL_isNavigator_133 rfl (lv_at hl 2 rfl) ?_
                refine lv_iload_n hx hb0 dL_isNavigator_134 rfl (lv_at hl 3 rfl) ?_
                refine lv_bipush (v := (6 : Int32)) hx hb0 dL_isNavigator_135 (by decide) ?_
                refine gx_vi ⟨hx, hb0, hml, hown, hts⟩ (gKC_keep _ _) hk hK hP hD hS 0 [.int x1, .int (6 : Int32)] [] (c_X7_of l dC dI P ad tb x1 (6 : Int32) h_121 _ he) gm_X7_of im_yX7_of se_yX7_of ml_RL_91 (by decide) (cE_t0 _) rfl rfl rfl ⟨Nat.le_of_ble_eq_true rfl, Nat.le_of_ble_eq_true rfl⟩ rfl hl.1 rfl (Nat.le_of_ble_eq_true rfl) dL_isNavigator_137 ⟨Nat.zero_le _, Nat.zero_le _⟩ (fun r_183 h_184 he H locs hP hD hS => ?_)
                refine lv_aload hx hb0 dL_isNavigator_140 (lv_at hl 7 rfl) ?_
                refine lv_iload hx hb0 dL_isNavigator_142 (lv_at hl 1 rfl) ?_
                refine lv_bipush (v := (6 : Int32)) hx hb0 dL_isNavigator_144 (by decide) ?_
                refine lv_iadd hx hb0 dL_isNavigator_146 ?_
                obtain ⟨v_185, he⟩ := he
                refine gx_iald hx hb0 hK hP 160 0 (by decide) cE_t160 rfl v_185 dL_isNavigator_147 ?_
                refine lv_icmp_ne (tgt := 202) hx hb0 dL_isNavigator_148 (by decide) (fun c_186 => ?_) (fun c_186 => ?_)
                · have he := he.2 c_186
                  refine lv_iconst (v := (0 : Int32)) hx hb0 dL_isNavigator_202 (by decide) ?_
                  refine lv_istore (lv' := [(8, .int (0 : Int32)), (7, .int r_2), (6, .int x_1), (0, .ref (ad 0)), (1, .int x1), (2, .int x2), (3, .ref (ad 158)), (4, .ref (ad 159)), (5, .ref (ad 160))]) hx hb0 dL_isNavigator_203 hl (by decide) rfl (fun ls hl => ?_)
                  refine lv_iload_n hx hb0 dL_isNavigator_205 rfl (lv_at hl 5 rfl) ?_
                  refine lv_aload_n hx hb0 dL_isNavigator_206 rfl (lv_at hl 6 rfl) ?_
                  refine lv_bipush (v := (12 : Int32)) hx hb0 dL_isNavigator_207 (by decide) ?_
                  refine gx_ialdK hx hb0 hK hP 158 0 (by decide) cE_t158 rfl (vp_lit (12 : Int32) (by decide) (by decide)) 12 rfl dL_isNavigator_209 ?_
                  refine lv_icmp_lt (tgt := 254) hx hb0 dL_isNavigator_210 (by decide) (fun c_187 => ?_) (fun c_187 => ?_)
                  · have he := he.1 c_187
                    refine lv_iconst (v := (0 : Int32)) hx hb0 dL_isNavigator_254 (by decide) ?_
                    refine lv_istore (lv' := [(9, .int (0 : Int32)), (8, .int (0 : Int32)), (7, .int r_2), (6, .int x_1), (0, .ref (ad 0)), (1, .int x1), (2, .int x2), (3, .ref (ad 158)), (4, .ref (ad 159)), (5, .ref (ad 160))]) hx hb0 dL_isNavigator_255 hl (by decide) rfl (fun ls hl => ?_)
                    refine lv_iconst (v := (0 : Int32)) hx hb0 dL_isNavigator_257 (by decide) ?_
                    refine lv_istore (lv' := [(10, .int (0 : Int32)), (9, .int (0 : Int32)), (8, .int (0 : Int32)), (7, .int r_2), (6, .int x_1), (0, .ref (ad 0)), (1, .int x1), (2, .int x2), (3, .ref (ad 158)), (4, .ref (ad 159)), (5, .ref (ad 160))]) hx hb0 dL_isNavigator_258 hl (by decide) rfl (fun ls hl => ?_)
                    obtain ⟨n_188, he⟩ := he
                    exact l_L_isNavigator_260 l dC dI P ad tb  hx hb0 hr hlocks hml hown hts hK hk Q n_188 x1 x2 x_1 r_2 (0 : Int32) (0 : Int32) (0 : Int32) h_184 he _ _ ls hP hD hS (lv_sub hl [5, 6, 7, 8, 9, 10, 4, 3, 2, 1, 0] rfl)
                  · have he := he.2 c_187
                    refine lv_iload hx hb0 dL_isNavigator_213 (lv_at hl 0 rfl) ?_
                    refine lv_if_eq (tgt := 252) hx hb0 dL_isNavigator_215 (by decide) (fun c_189 => ?_) (fun c_189 => ?_)
                    · refine lv_iconst (v := (0 : Int32)) hx hb0 dL_isNavigator_252 (by decide) ?_
                      exact gx_zret hx hb0 hr (by decide) hlocks hK hP hD hS he dL_isNavigator_253
                    · exact absurd c_189 (by decide)
                · have he := he.1 c_186
                  refine lv_aload_n hx hb0 dL_isNavigator_151 rfl (lv_at hl 2 rfl) ?_
                  refine lv_iload_n hx hb0 dL_isNavigator_152 rfl (lv_at hl 3 rfl) ?_
                  refine lv_bipush (v := (7 : Int32)) hx hb0 dL_isNavigator_153 (by decide) ?_
                  refine gx_vi ⟨hx, hb0, hml, hown, hts⟩ (gKC_keep _ _) hk hK hP hD hS 0 [.int x1, .int (7 : Int32)] [] (c_X7_of l dC dI P ad tb x1 (7 : Int32) h_184 _ he) gm_X7_of im_yX7_of se_yX7_of ml_RL_91 (by decide) (cE_t0 _) rfl rfl rfl ⟨Nat.le_of_ble_eq_true rfl, Nat.le_of_ble_eq_true rfl⟩ rfl hl.1 rfl (Nat.le_of_ble_eq_true rfl) dL_isNavigator_155 ⟨Nat.zero_le _, Nat.zero_le _⟩ (fun r_190 h_191 he H locs hP hD hS => ?_)
                  refine lv_iload_n hx hb0 dL_isNavigator_158 rfl (lv_at hl 3 rfl) ?_
                  refine lv_aload hx hb0 dL_isNavigator_159 (lv_at hl 7 rfl) ?_
                  refine gx_si ⟨hx, hb0, hml, hown, hts⟩ (gKC_keep _ _) hk hK hP hD hS [.int x1, .ref (ad 160)] [.int r_190] (c_L_error l dC dI P ad tb x1 h_191 _ he) gm_L_error st_yL_error ml_RL_24 rfl rfl ⟨Nat.le_of_ble_eq_true rfl, Nat.le_of_ble_eq_true rfl⟩ rfl hl.1 rfl (Nat.le_of_ble_eq_true rfl) dL_isNavigator_161 ⟨Nat.zero_le _, Nat.zero_le _⟩ (fun r_192 h_193 he H locs hP hD hS => ?_)
                  refine lv_sipush (v := (999 : Int32)) hx hb0 dL_isNavigator_164 (by decide) ?_
                  refine lv_iadd hx hb0 dL_isNavigator_167 ?_
                  refine lv_icmp_ne (tgt := 202) hx hb0 dL_isNavigator_168 (by decide) (fun c_194 => ?_) (fun c_194 => ?_)
                  · have he := he.2 c_194
                    refine lv_iconst (v := (0 : Int32)) hx hb0 dL_isNavigator_202 (by decide) ?_
                    refine lv_istore (lv' := [(8, .int (0 : Int32)), (7, .int r_2), (6, .int x_1), (0, .ref (ad 0)), (1, .int x1), (2, .int x2), (3, .ref (ad 158)), (4, .ref (ad 159)), (5, .ref (ad 160))]) hx hb0 dL_isNavigator_203 hl (by decide) rfl (fun ls hl => ?_)
                    refine lv_iload_n hx hb0 dL_isNavigator_205 rfl (lv_at hl 5 rfl) ?_
                    refine lv_aload_n hx hb0 dL_isNavigator_206 rfl (lv_at hl 6 rfl) ?_
                    refine lv_bipush (v := (12 : Int32)) hx hb0 dL_isNavigator_207 (by decide) ?_
                    refine gx_ialdK hx hb0 hK hP 158 0 (by decide) cE_t158 rfl (vp_lit (12 : Int32) (by decide) (by decide)) 12 rfl dL_isNavigator_209 ?_
                    refine lv_icmp_lt (tgt := 254) hx hb0 dL_isNavigator_210 (by decide) (fun c_195 => ?_) (fun c_195 => ?_)
                    · have he := he.1 c_195
                      refine lv_iconst (v := (0 : Int32)) hx hb0 dL_isNavigator_254 (by decide) ?_
                      refine lv_istore (lv' := [(9, .int (0 : Int32)), (8, .int (0 : Int32)), (7, .int r_2), (6, .int x_1), (0, .ref (ad 0)), (1, .int x1), (2, .int x2), (3, .ref (ad 158)), (4, .ref (ad 159)), (5, .ref (ad 160))]) hx hb0 dL_isNavigator_255 hl (by decide) rfl (fun ls hl => ?_)
                      refine lv_iconst (v := (0 : Int32)) hx hb0 dL_isNavigator_257 (by decide) ?_
                      refine lv_istore (lv' := [(10, .int (0 : Int32)), (9, .int (0 : Int32)), (8, .int (0 : Int32)), (7, .int r_2), (6, .int x_1), (0, .ref (ad 0)), (1, .int x1), (2, .int x2), (3, .ref (ad 158)), (4, .ref (ad 159)), (5, .ref (ad 160))]) hx hb0 dL_isNavigator_258 hl (by decide) rfl (fun ls hl => ?_)
                      obtain ⟨n_196, he⟩ := he
                      exact l_L_isNavigator_260 l dC dI P ad tb  hx hb0 hr hlocks hml hown hts hK hk Q n_196 x1 x2 x_1 r_2 (0 : Int32) (0 : Int32) (0 : Int32) h_193 he _ _ ls hP hD hS (lv_sub hl [5, 6, 7, 8, 9, 10, 4, 3, 2, 1, 0] rfl)
                    · have he := he.2 c_195
                      refine lv_iload hx hb0 dL_isNavigator_213 (lv_at hl 0 rfl) ?_
                      refine lv_if_eq (tgt := 252) hx hb0 dL_isNavigator_215 (by decide) (fun c_197 => ?_) (fun c_197 => ?_)
                      · refine lv_iconst (v := (0 : Int32)) hx hb0 dL_isNavigator_252 (by decide) ?_
                        exact gx_zret hx hb0 hr (by decide) hlocks hK hP hD hS he dL_isNavigator_253
                      · exact absurd c_197 (by decide)
                  · have he := he.1 c_194
                    refine lv_aload_n hx hb0 dL_isNavigator_171 rfl (lv_at hl 2 rfl) ?_
                    refine lv_iload_n hx hb0 dL_isNavigator_172 rfl (lv_at hl 3 rfl) ?_
                    refine gx_vi ⟨hx, hb0, hml, hown, hts⟩ (gKC_keep _ _) hk hK hP hD hS 0 [.int x1] [] (c_X7_median l dC dI P ad tb x1 h_193 _ he) gm_X7_median im_yX7_median se_yX7_median ml_RL_94 (by decide) (cE_t0 _) rfl rfl rfl ⟨Nat.le_of_ble_eq_true rfl, Nat.le_of_ble_eq_true rfl⟩ rfl hl.1 rfl (Nat.le_of_ble_eq_true rfl) dL_isNavigator_173 ⟨Nat.zero_le _, Nat.zero_le _⟩ (fun r_198 h_199 he H locs hP hD hS => ?_)
                    refine lv_iload hx hb0 dL_isNavigator_176 (lv_at hl 0 rfl) ?_
                    refine lv_sipush (v := (9999 : Int32)) hx hb0 dL_isNavigator_178 (by decide) ?_
                    refine lv_icmp_ne (tgt := 189) hx hb0 dL_isNavigator_181 (by decide) (fun c_200 => ?_) (fun c_200 => ?_)
                    · have he := he.2 c_200
                      refine lv_iload hx hb0 dL_isNavigator_189 (lv_at hl 0 rfl) ?_
                      refine lv_sipush (v := (5400 : Int32)) hx hb0 dL_isNavigator_191 (by decide) ?_
                      refine lv_iadd hx hb0 dL_isNavigator_194 ?_
                      refine lv_icmp_ne (tgt := 202) hx hb0 dL_isNavigator_195 (by decide) (fun c_201 => ?_) (fun c_201 => ?_)
                      · have he := he.2 c_201
                        refine lv_iconst (v := (0 : Int32)) hx hb0 dL_isNavigator_202 (by decide) ?_
                        refine lv_istore (lv' := [(8, .int (0 : Int32)), (7, .int r_2), (6, .int x_1), (0, .ref (ad 0)), (1, .int x1), (2, .int x2), (3, .ref (ad 158)), (4, .ref (ad 159)), (5, .ref (ad 160))]) hx hb0 dL_isNavigator_203 hl (by decide) rfl (fun ls hl => ?_)
                        refine lv_iload_n hx hb0 dL_isNavigator_205 rfl (lv_at hl 5 rfl) ?_
                        refine lv_aload_n hx hb0 dL_isNavigator_206 rfl (lv_at hl 6 rfl) ?_
                        refine lv_bipush (v := (12 : Int32)) hx hb0 dL_isNavigator_207 (by decide) ?_
                        refine gx_ialdK hx hb0 hK hP 158 0 (by decide) cE_t158 rfl (vp_lit (12 : Int32) (by decide) (by decide)) 12 rfl dL_isNavigator_209 ?_
                        refine lv_icmp_lt (tgt := 254) hx hb0 dL_isNavigator_210 (by decide) (fun c_202 => ?_) (fun c_202 => ?_)
                        · have he := he.1 c_202
                          refine lv_iconst (v := (0 : Int32)) hx hb0 dL_isNavigator_254 (by decide) ?_
                          refine lv_istore (lv' := [(9, .int (0 : Int32)), (8, .int (0 : Int32)), (7, .int r_2), (6, .int x_1), (0, .ref (ad 0)), (1, .int x1), (2, .int x2), (3, .ref (ad 158)), (4, .ref (ad 159)), (5, .ref (ad 160))]) hx hb0 dL_isNavigator_255 hl (by decide) rfl (fun ls hl => ?_)
                          refine lv_iconst (v := (0 : Int32)) hx hb0 dL_isNavigator_257 (by decide) ?_
                          refine lv_istore (lv' := [(10, .int (0 : Int32)), (9, .int (0 : Int32)), (8, .int (0 : Int32)), (7, .int r_2), (6, .int x_1), (0, .ref (ad 0)), (1, .int x1), (2, .int x2), (3, .ref (ad 158)), (4, .ref (ad 159)), (5, .ref (ad 160))]) hx hb0 dL_isNavigator_258 hl (by decide) rfl (fun ls hl => ?_)
                          obtain ⟨n_203, he⟩ := he
                          exact l_L_isNavigator_260 l dC dI P ad tb  hx hb0 hr hlocks hml hown hts hK hk Q n_203 x1 x2 x_1 r_2 (0 : Int32) (0 : Int32) (0 : Int32) h_199 he _ _ ls hP hD hS (lv_sub hl [5, 6, 7, 8, 9, 10, 4, 3, 2, 1, 0] rfl)
                        · have he := he.2 c_202
                          refine lv_iload hx hb0 dL_isNavigator_213 (lv_at hl 0 rfl) ?_
                          refine lv_if_eq (tgt := 252) hx hb0 dL_isNavigator_215 (by decide) (fun c_204 => ?_) (fun c_204 => ?_)
                          · refine lv_iconst (v := (0 : Int32)) hx hb0 dL_isNavigator_252 (by decide) ?_
                            exact gx_zret hx hb0 hr (by decide) hlocks hK hP hD hS he dL_isNavigator_253
                          · exact absurd c_204 (by decide)
                      · have he := he.1 c_201
                        refine lv_iconst (v := (1 : Int32)) hx hb0 dL_isNavigator_198 (by decide) ?_
                        refine lv_goto (tgt := 203) hx hb0 dL_isNavigator_199 (by decide) ?_
                        refine lv_istore (lv' := [(8, .int (1 : Int32)), (7, .int r_2), (6, .int x_1), (0, .ref (ad 0)), (1, .int x1), (2, .int x2), (3, .ref (ad 158)), (4, .ref (ad 159)), (5, .ref (ad 160))]) hx hb0 dL_isNavigator_203 hl (by decide) rfl (fun ls hl => ?_)
                        refine lv_iload_n hx hb0 dL_isNavigator_205 rfl (lv_at hl 5 rfl) ?_
                        refine lv_aload_n hx hb0 dL_isNavigator_206 rfl (lv_at hl 6 rfl) ?_
                        refine lv_bipush (v := (12 : Int32)) hx hb0 dL_isNavigator_207 (by decide) ?_
                        refine gx_ialdK hx hb0 hK hP 158 0 (by decide) cE_t158 rfl (vp_lit (12 : Int32) (by decide) (by decide)) 12 rfl dL_isNavigator_209 ?_
                        refine lv_icmp_lt (tgt := 254) hx hb0 dL_isNavigator_210 (by decide) (fun c_205 => ?_) (fun c_205 => ?_)
                        · have he := he.1 c_205
                          refine lv_iconst (v := (0 : Int32)) hx hb0 dL_isNavigator_254 (by decide) ?_
                          refine lv_istore (lv' := [(9, .int (0 : Int32)), (8, .int (1 : Int32)), (7, .int r_2), (6, .int x_1), (0, .ref (ad 0)), (1, .int x1), (2, .int x2), (3, .ref (ad 158)), (4, .ref (ad 159)), (5, .ref (ad 160))]) hx hb0 dL_isNavigator_255 hl (by decide) rfl (fun ls hl => ?_)
                          refine lv_iconst (v := (0 : Int32)) hx hb0 dL_isNavigator_257 (by decide) ?_
                          refine lv_istore (lv' := [(10, .int (0 : Int32)), (9, .int (0 : Int32)), (8, .int (1 : Int32)), (7, .int r_2), (6, .int x_1), (0, .ref (ad 0)), (1, .int x1), (2, .int x2), (3, .ref (ad 158)), (4, .ref (ad 159)), (5, .ref (ad 160))]) hx hb0 dL_isNavigator_258 hl (by decide) rfl (fun ls hl => ?_)
                          obtain ⟨n_206, he⟩ := he
                          exact l_L_isNavigator_260 l dC dI P ad tb  hx hb0 hr hlocks hml hown hts hK hk Q n_206 x1 x2 x_1 r_2 (1 : Int32) (0 : Int32) (0 : Int32) h_199 he _ _ ls hP hD hS (lv_sub hl [5, 6, 7, 8, 9, 10, 4, 3, 2, 1, 0] rfl)
                        · have he := he.2 c_205
                          refine lv_iload hx hb0 dL_isNavigator_213 (lv_at hl 0 rfl) ?_
                          refine lv_if_eq (tgt := 252) hx hb0 dL_isNavigator_215 (by decide) (fun c_207 => ?_) (fun c_207 => ?_)
                          · exact absurd c_207 (by decide)
                          · refine lv_aload_n hx hb0 dL_isNavigator_218 rfl (lv_at hl 3 rfl) ?_
                            refine lv_iload_n hx hb0 dL_isNavigator_219 rfl (lv_at hl 4 rfl) ?_
                            refine lv_iload_n hx hb0 dL_isNavigator_220 rfl (lv_at hl 5 rfl) ?_
                            refine gx_vi ⟨hx, hb0, hml, hown, hts⟩ (gKC_keep _ _) hk hK hP hD hS 0 [.int x1, .int x2] [] (c_X7_why l dC dI P ad tb x1 x2 h_199 _ he) gm_X7_why im_yX7_why se_yX7_why ml_RL_96 (by decide) (cE_t0 _) rfl rfl rfl ⟨Nat.le_of_ble_eq_true rfl, Nat.le_of_ble_eq_true rfl⟩ rfl hl.1 rfl (Nat.le_of_ble_eq_true rfl) dL_isNavigator_221 ⟨Nat.zero_le _, Nat.zero_le _⟩ (fun r_208 h_209 he H locs hP hD hS => ?_)
                            refine lv_iconst (v := (-1 : Int32)) hx hb0 dL_isNavigator_224 (by decide) ?_
                            refine lv_icmp_ne (tgt := 252) hx hb0 dL_isNavigator_225 (by decide) (fun c_210 => ?_) (fun c_210 => ?_)
                            · have he := he.2 c_210
                              refine lv_iconst (v := (0 : Int32)) hx hb0 dL_isNavigator_252 (by decide) ?_
                              exact gx_zret hx hb0 hr (by decide) hlocks hK hP hD hS he dL_isNavigator_253
                            · have he := he.1 c_210
                              refine lv_aload_n hx hb0 dL_isNavigator_228 rfl (lv_at hl 3 rfl) ?_
                              refine lv_iload_n hx hb0 dL_isNavigator_229 rfl (lv_at hl 4 rfl) ?_
                              refine lv_iload_n hx hb0 dL_isNavigator_230 rfl (lv_at hl 5 rfl) ?_
                              refine gx_vi ⟨hx, hb0, hml, hown, hts⟩ (gKC_keep _ _) hk hK hP hD hS 0 [.int x1, .int x2] [] (c_X7_ifSighted l dC dI P ad tb x1 x2 h_209 _ he) gm_X7_ifSighted im_yX7_ifSighted se_yX7_ifSighted ml_RL_98 (by decide) (cE_t0 _) rfl rfl rfl ⟨Nat.le_of_ble_eq_true rfl, Nat.le_of_ble_eq_true rfl⟩ rfl hl.1 rfl (Nat.le_of_ble_eq_true rfl) dL_isNavigator_231 ⟨Nat.zero_le _, Nat.zero_le _⟩ (fun r_211 h_212 he H locs hP hD hS => ?_)
                              refine lv_iconst (v := (-1 : Int32)) hx hb0 dL_isNavigator_234 (by decide) ?_
                              refine lv_icmp_ne (tgt := 252) hx hb0 dL_isNavigator_235 (by decide) (fun c_213 => ?_) (fun c_213 => ?_)
                              · have he := he.2 c_213
                                refine lv_iconst (v := (0 : Int32)) hx hb0 dL_isNavigator_252 (by decide) ?_
                                exact gx_zret hx hb0 hr (by decide) hlocks hK hP hD hS he dL_isNavigator_253
                              · have he := he.1 c_213
                                refine lv_aload_n hx hb0 dL_isNavigator_238 rfl (lv_at hl 3 rfl) ?_
                                refine lv_iload_n hx hb0 dL_isNavigator_239 rfl (lv_at hl 5 rfl) ?_
                                refine lv_iconst (v := (0 : Int32)) hx hb0 dL_isNavigator_240 (by decide) ?_
                                refine gx_vi ⟨hx, hb0, hml, hown, hts⟩ (gKC_keep _ _) hk hK hP hD hS 0 [.int x2, .int (0 : Int32)] [] (c_X7_ofStar l dC dI P ad tb x2 (0 : Int32) h_212 _ he) gm_X7_ofStar im_yX7_ofStar se_yX7_ofStar ml_RL_101 (by decide) (cE_t0 _) rfl rfl rfl ⟨Nat.le_of_ble_eq_true rfl, Nat.le_of_ble_eq_true rfl⟩ rfl hl.1 rfl (Nat.le_of_ble_eq_true rfl) dL_isNavigator_241 ⟨Nat.zero_le _, Nat.zero_le _⟩ (fun r_214 h_215 he H locs hP hD hS => ?_)
                                refine lv_iconst (v := (-1 : Int32)) hx hb0 dL_isNavigator_244 (by decide) ?_
                                refine lv_icmp_ne (tgt := 252) hx hb0 dL_isNavigator_245 (by decide) (fun c_216 => ?_) (fun c_216 => ?_)
                                · have he := he.2 c_216
                                  refine lv_iconst (v := (0 : Int32)) hx hb0 dL_isNavigator_252 (by decide) ?_
                                  exact gx_zret hx hb0 hr (by decide) hlocks hK hP hD hS he dL_isNavigator_253
                                · have he := he.1 c_216
                                  refine lv_iconst (v := (1 : Int32)) hx hb0 dL_isNavigator_248 (by decide) ?_
                                  refine lv_goto (tgt := 253) hx hb0 dL_isNavigator_249 (by decide) ?_
                                  exact gx_zret hx hb0 hr (by decide) hlocks hK hP hD hS he dL_isNavigator_253
                    · have he := he.1 c_200
                      refine lv_bipush (v := (-5 : Int32)) hx hb0 dL_isNavigator_184 (by decide) ?_
                      refine lv_goto (tgt := 195) hx hb0 dL_isNavigator_186 (by decide) ?_
                      refine lv_icmp_ne (tgt := 202) hx hb0 dL_isNavigator_195 (by decide) (fun c_217 => ?_) (fun c_217 => ?_)
                      · have he := he.2 c_217
                        refine lv_iconst (v := (0 : Int32)) hx hb0 dL_isNavigator_202 (by decide) ?_
                        refine lv_istore (lv' := [(8, .int (0 : Int32)), (7, .int r_2), (6, .int x_1), (0, .ref (ad 0)), (1, .int x1), (2, .int x2), (3, .ref (ad 158)), (4, .ref (ad 159)), (5, .ref (ad 160))]) hx hb0 dL_isNavigator_203 hl (by decide) rfl (fun ls hl => ?_)
                        refine lv_iload_n hx hb0 dL_isNavigator_205 rfl (lv_at hl 5 rfl) ?_
                        refine lv_aload_n hx hb0 dL_isNavigator_206 rfl (lv_at hl 6 rfl) ?_
                        refine lv_bipush (v := (12 : Int32)) hx hb0 dL_isNavigator_207 (by decide) ?_
                        refine gx_ialdK hx hb0 hK hP 158 0 (by decide) cE_t158 rfl (vp_lit (12 : Int32) (by decide) (by decide)) 12 rfl dL_isNavigator_209 ?_
                        refine lv_icmp_lt (tgt := 254) hx hb0 dL_isNavigator_210 (by decide) (fun c_218 => ?_) (fun c_218 => ?_)
                        · have he := he.1 c_218
                          refine lv_iconst (v := (0 : Int32)) hx hb0 dL_isNavigator_254 (by decide) ?_
                          refine lv_istore (lv' := [(9, .int (0 : Int32)), (8, .int (0 : Int32)), (7, .int r_2), (6, .int x_1), (0, .ref (ad 0)), (1, .int x1), (2, .int x2), (3, .ref (ad 158)), (4, .ref (ad 159)), (5, .ref (ad 160))]) hx hb0 dL_isNavigator_255 hl (by decide) rfl (fun ls hl => ?_)
                          refine lv_iconst (v := (0 : Int32)) hx hb0 dL_isNavigator_257 (by decide) ?_
                          refine lv_istore (lv' := [(10, .int (0 : Int32)), (9, .int (0 : Int32)), (8, .int (0 : Int32)), (7, .int r_2), (6, .int x_1), (0, .ref (ad 0)), (1, .int x1), (2, .int x2), (3, .ref (ad 158)), (4, .ref (ad 159)), (5, .ref (ad 160))]) hx hb0 dL_isNavigator_258 hl (by decide) rfl (fun ls hl => ?_)
                          obtain ⟨n_219, he⟩ := he
                          exact l_L_isNavigator_260 l dC dI P ad tb  hx hb0 hr hlocks hml hown hts hK hk Q n_219 x1 x2 x_1 r_2 (0 : Int32) (0 : Int32) (0 : Int32) h_199 he _ _ ls hP hD hS (lv_sub hl [5, 6, 7, 8, 9, 10, 4, 3, 2, 1, 0] rfl)
                        · have he := he.2 c_218
                          refine lv_iload hx hb0 dL_isNavigator_213 (lv_at hl 0 rfl) ?_
                          refine lv_if_eq (tgt := 252) hx hb0 dL_isNavigator_215 (by decide) (fun c_220 => ?_) (fun c_220 => ?_)
                          · refine lv_iconst (v := (0 : Int32)) hx hb0 dL_isNavigator_252 (by decide) ?_
                            exact gx_zret hx hb0 hr (by decide) hlocks hK hP hD hS he dL_isNavigator_253
                          · exact absurd c_220 (by decide)
                      · have he := he.1 c_217
                        refine lv_iconst (v := (1 : Int32)) hx hb0 dL_isNavigator_198 (by decide) ?_
                        refine lv_goto (tgt := 203) hx hb0 dL_isNavigator_199 (by decide) ?_
                        refine lv_istore (lv' := [(8, .int (1 : Int32)), (7, .int r_2), (6, .int x_1), (0, .ref (ad 0)), (1, .int x1), (2, .int x2), (3, .ref (ad 158)), (4, .ref (ad 159)), (5, .ref (ad 160))]) hx hb0 dL_isNavigator_203 hl (by decide) rfl (fun ls hl => ?_)
                        refine lv_iload_n hx hb0 dL_isNavigator_205 rfl (lv_at hl 5 rfl) ?_
                        refine lv_aload_n hx hb0 dL_isNavigator_206 rfl (lv_at hl 6 rfl) ?_
                        refine lv_bipush (v := (12 : Int32)) hx hb0 dL_isNavigator_207 (by decide) ?_
                        refine gx_ialdK hx hb0 hK hP 158 0 (by decide) cE_t158 rfl (vp_lit (12 : Int32) (by decide) (by decide)) 12 rfl dL_isNavigator_209 ?_
                        refine lv_icmp_lt (tgt := 254) hx hb0 dL_isNavigator_210 (by decide) (fun c_221 => ?_) (fun c_221 => ?_)
                        · have he := he.1 c_221
                          refine lv_iconst (v := (0 : Int32)) hx hb0 dL_isNavigator_254 (by decide) ?_
                          refine lv_istore (lv' := [(9, .int (0 : Int32)), (8, .int (1 : Int32)), (7, .int r_2), (6, .int x_1), (0, .ref (ad 0)), (1, .int x1), (2, .int x2), (3, .ref (ad 158)), (4, .ref (ad 159)), (5, .ref (ad 160))]) hx hb0 dL_isNavigator_255 hl (by decide) rfl (fun ls hl => ?_)
                          refine lv_iconst (v := (0 : Int32)) hx hb0 dL_isNavigator_257 (by decide) ?_
                          refine lv_istore (lv' := [(10, .int (0 : Int32)), (9, .int (0 : Int32)), (8, .int (1 : Int32)), (7, .int r_2), (6, .int x_1), (0, .ref (ad 0)), (1, .int x1), (2, .int x2), (3, .ref (ad 158)), (4, .ref (ad 159)), (5, .ref (ad 160))]) hx hb0 dL_isNavigator_258 hl (by decide) rfl (fun ls hl => ?_)
                          obtain ⟨n_222, he⟩ := he
                          exact l_L_isNavigator_260 l dC dI P ad tb  hx hb0 hr hlocks hml hown hts hK hk Q n_222 x1 x2 x_1 r_2 (1 : Int32) (0 : Int32) (0 : Int32) h_199 he _ _ ls hP hD hS (lv_sub hl [5, 6, 7, 8, 9, 10, 4, 3, 2, 1, 0] rfl)
                        · have he := he.2 c_221
                          refine lv_iload hx hb0 dL_isNavigator_213 (lv_at hl 0 rfl) ?_
                          refine lv_if_eq (tgt := 252) hx hb0 dL_isNavigator_215 (by decide) (fun c_223 => ?_) (fun c_223 => ?_)
                          · exact absurd c_223 (by decide)
                          · refine lv_aload_n hx hb0 dL_isNavigator_218 rfl (lv_at hl 3 rfl) ?_
                            refine lv_iload_n hx hb0 dL_isNavigator_219 rfl (lv_at hl 4 rfl) ?_
                            refine lv_iload_n hx hb0 dL_isNavigator_220 rfl (lv_at hl 5 rfl) ?_
                            refine gx_vi ⟨hx, hb0, hml, hown, hts⟩ (gKC_keep _ _) hk hK hP hD hS 0 [.int x1, .int x2] [] (c_X7_why l dC dI P ad tb x1 x2 h_199 _ he) gm_X7_why im_yX7_why se_yX7_why ml_RL_96 (by decide) (cE_t0 _) rfl rfl rfl ⟨Nat.le_of_ble_eq_true rfl, Nat.le_of_ble_eq_true rfl⟩ rfl hl.1 rfl (Nat.le_of_ble_eq_true rfl) dL_isNavigator_221 ⟨Nat.zero_le _, Nat.zero_le _⟩ (fun r_224 h_225 he H locs hP hD hS => ?_)
                            refine lv_iconst (v := (-1 : Int32)) hx hb0 dL_isNavigator_224 (by decide) ?_
                            refine lv_icmp_ne (tgt := 252) hx hb0 dL_isNavigator_225 (by decide) (fun c_226 => ?_) (fun c_226 => ?_)
                            · have he := he.2 c_226
                              refine lv_iconst (v := (0 : Int32)) hx hb0 dL_isNavigator_252 (by decide) ?_
                              exact gx_zret hx hb0 hr (by decide) hlocks hK hP hD hS he dL_isNavigator_253
                            · have he := he.1 c_226
                              refine lv_aload_n hx hb0 dL_isNavigator_228 rfl (lv_at hl 3 rfl) ?_
                              refine lv_iload_n hx hb0 dL_isNavigator_229 rfl (lv_at hl 4 rfl) ?_
                              refine lv_iload_n hx hb0 dL_isNavigator_230 rfl (lv_at hl 5 rfl) ?_
                              refine gx_vi ⟨hx, hb0, hml, hown, hts⟩ (gKC_keep _ _) hk hK hP hD hS 0 [.int x1, .int x2] [] (c_X7_ifSighted l dC dI P ad tb x1 x2 h_225 _ he) gm_X7_ifSighted im_yX7_ifSighted se_yX7_ifSighted ml_RL_98 (by decide) (cE_t0 _) rfl rfl rfl ⟨Nat.le_of_ble_eq_true rfl, Nat.le_of_ble_eq_true rfl⟩ rfl hl.1 rfl (Nat.le_of_ble_eq_true rfl) dL_isNavigator_231 ⟨Nat.zero_le _, Nat.zero_le _⟩ (fun r_227 h_228 he H locs hP hD hS => ?_)
                              refine lv_iconst (v := (-1 : Int32)) hx hb0 dL_isNavigator_234 (by decide) ?_
                              refine lv_icmp_ne (tgt := 252) hx hb0 dL_isNavigator_235 (by decide) (fun c_229 => ?_) (fun c_229 => ?_)
                              · have he := he.2 c_229
                                refine lv_iconst (v := (0 : Int32)) hx hb0 dL_isNavigator_252 (by decide) ?_
                                exact gx_zret hx hb0 hr (by decide) hlocks hK hP hD hS he dL_isNavigator_253
                              · have he := he.1 c_229
                                refine lv_aload_n hx hb0 dL_isNavigator_238 rfl (lv_at hl 3 rfl) ?_
                                refine lv_iload_n hx hb0 dL_isNavigator_239 rfl (lv_at hl 5 rfl) ?_
                                refine lv_iconst (v := (0 : Int32)) hx hb0 dL_isNavigator_240 (by decide) ?_
                                refine gx_vi ⟨hx, hb0, hml, hown, hts⟩ (gKC_keep _ _) hk hK hP hD hS 0 [.int x2, .int (0 : Int32)] [] (c_X7_ofStar l dC dI P ad tb x2 (0 : Int32) h_228 _ he) gm_X7_ofStar im_yX7_ofStar se_yX7_ofStar ml_RL_101 (by decide) (cE_t0 _) rfl rfl rfl ⟨Nat.le_of_ble_eq_true rfl, Nat.le_of_ble_eq_true rfl⟩ rfl hl.1 rfl (Nat.le_of_ble_eq_true rfl) dL_isNavigator_241 ⟨Nat.zero_le _, Nat.zero_le _⟩ (fun r_230 h_231 he H locs hP hD hS => ?_)
                                refine lv_iconst (v := (-1 : Int32)) hx hb0 dL_isNavigator_244 (by decide) ?_
                                refine lv_icmp_ne (tgt := 252) hx hb0 dL_isNavigator_245 (by decide) (fun c_232 => ?_) (fun c_232 => ?_)
                                · have he := he.2 c_232
                                  refine lv_iconst (v := (0 : Int32)) hx hb0 dL_isNavigator_252 (by decide) ?_
                                  exact gx_zret hx hb0 hr (by decide) hlocks hK hP hD hS he dL_isNavigator_253
                                · have he := he.1 c_232
                                  refine lv_iconst (v := (1 : Int32)) hx hb0 dL_isNavigator_248 (by decide) ?_
                                  refine lv_goto (tgt := 253) hx hb0 dL_isNavigator_249 (by decide) ?_
                                  exact gx_zret hx hb0 hr (by decide) hlocks hK hP hD hS he dL_isNavigator_253
theorem gm_L_isNavigator : gMeth yL_isNavigator cL_isNavigator 11 (some .boolean) 6 := ⟨⟨by decide, by decide, by decide +kernel⟩, ini_RL, co_yL_isNavigator⟩
