abbrev rm_X4_countSigns : Room := { frames := 0, cells := 0, slots := 0, locals := 0 }
set_option maxHeartbeats 4000000 in
set_option maxRecDepth 100000 in
theorem l_X4_countSigns_4 (l : Launch) (dC : Nat → ClassId) (dI : Nat → Nat → Nat) (P : gP) (ad : Nat → Nat) (tb : Nat → Nat) {p : Program} {e : Env} {s : State} {m : MethodId} {args : Array Value} {below : List Frame} {meth : Method} {c : Code} (hx : p.tables.exec = Jvm.exec) (hb0 : c.code = cX4_countSigns) (hr : meth.sig.returnType = (some .int)) (hlocks : meth.locks = false) (hml : c.maxLocals = 7) (hown : s.vm.findClass RX4 = some m.cls) (hts : ∀ w ∈ TB, w.before args s = true) (hK : va_K (dC, dI) vwCl (tyC P) s) (hk : (gKC tb (gA 158 ad)) s) (Q : Int32 → Hp → Prop) : ∀ (n : Nat) (y0 : Int64) (y2 : Int32) (y3 : Int64) (h0 : Hp), F_X4_countSigns_L4  n y0 y2 y3 h0 Q → ∀ (H : Heap) (locs : List Loc) (ls : Array Slot), va_P (dC, dI) vwCl (gW 158 (cE P ad) ad h0) H → va_D (gA 158 ad) (gW 158 (cE P ad) ad h0) → va_S (gA 158 ad) s.heap H locs → lv_has ls 7 [(0, .long y0), (2, .int y2), (3, .long y3)] → W p l e rm_X4_countSigns s m args below meth c H locs 0 0 (MQ below (gQi (dC, dI) vwCl (tyC P) 158 (cE P ad) ad Q) args s 0 0 (gA 158 ad)) (F0 m 4 ls []) := by
  intro n
  induction n with
  | zero =>
    intro y0 y2 y3 h0 he
    exact he.elim
  | succ n ih =>
    intro y0 y2 y3 h0 he H locs ls hP hD hS hl
    rw [F_X4_countSigns_L4] at he
    refine lv_iload_n hx hb0 dX4_countSigns_4 rfl (lv_at hl 1 rfl) ?_
    refine lv_bipush (v := (8 : Int32)) hx hb0 dX4_countSigns_5 (by decide) ?_
    refine lv_icmp_ge (tgt := 54) hx hb0 dX4_countSigns_7 (by decide) (fun c_1 => ?_) (fun c_1 => ?_)
    · have he := he.1 c_1
      refine lv_iload_n hx hb0 dX4_countSigns_54 rfl (lv_at hl 1 rfl) ?_
      exact gx_iret hx hb0 hr hlocks hK hP hD hS he dX4_countSigns_55
    · have he := he.2 c_1
      refine lv_lload_n hx hb0 dX4_countSigns_10 rfl (lv_at hl 2 rfl) ?_
      refine lv_lconst (v := 0) hx hb0 dX4_countSigns_11 (by decide) ?_
      refine W.lcmp hx hb0 dX4_countSigns_12 ?_
      refine lv_if_eq (tgt := 54) hx hb0 dX4_countSigns_13 (by decide) (fun c_2 => ?_) (fun c_2 => ?_)
      · have he := he.1 c_2
        refine lv_iload_n hx hb0 dX4_countSigns_54 rfl (lv_at hl 1 rfl) ?_
        exact gx_iret hx hb0 hr hlocks hK hP hD hS he dX4_countSigns_55
      · have he := he.2 c_2
        refine lv_lload_n hx hb0 dX4_countSigns_16 rfl (lv_at hl 2 rfl) ?_
        refine lv_ldc2 (v := (255 : Int64)) hx hb0 hown (hts _ kl_RX4_35) dX4_countSigns_17 ?_
        refine lv_land hx hb0 dX4_countSigns_20 ?_
        refine lv_topl (fun x_3 ex_3 => ?_)
        have he := he x_3 ex_3
        refine lv_lstore (lv' := [(5, .long x_3), (0, .long y0), (2, .int y2), (3, .long y3)]) hx hb0 dX4_countSigns_21 hl (by decide) rfl (fun ls hl => ?_)
        refine lv_lload hx hb0 dX4_countSigns_23 (lv_at hl 0 rfl) ?_
        refine lv_ldc2 (v := (33 : Int64)) hx hb0 hown (hts _ kl_RX4_37) dX4_countSigns_25 ?_
        refine W.lcmp hx hb0 dX4_countSigns_28 ?_
        refine lv_if_lt (tgt := 41) hx hb0 dX4_countSigns_29 (by decide) (fun c_4 => ?_) (fun c_4 => ?_)
        · have he := he.1 c_4
          refine lv_iconst (v := (0 : Int32)) hx hb0 dX4_countSigns_41 (by decide) ?_
          exact gx_iret hx hb0 hr hlocks hK hP hD hS he dX4_countSigns_42
        · have he := he.2 c_4
          refine lv_lload hx hb0 dX4_countSigns_32 (lv_at hl 0 rfl) ?_
          refine lv_ldc2 (v := (126 : Int64)) hx hb0 hown (hts _ kl_RX4_39) dX4_countSigns_34 ?_
          refine W.lcmp hx hb0 dX4_countSigns_37 ?_
          refine lv_if_le (tgt := 43) hx hb0 dX4_countSigns_38 (by decide) (fun c_5 => ?_) (fun c_5 => ?_)
          · have he := he.1 c_5
            refine lv_lload_n hx hb0 dX4_countSigns_43 rfl (lv_at hl 3 rfl) ?_
            refine lv_bipush (v := (8 : Int32)) hx hb0 dX4_countSigns_44 (by decide) ?_
            refine lv_lushr (v := (y3.toUInt64 >>> ((8 : Int32).toInt64.toUInt64 &&& Int64.toUInt64 63)).toInt64) hx hb0 dX4_countSigns_46 rfl ?_
            refine lv_topl (fun x_6 ex_6 => ?_)
            have he := he x_6 ex_6
            refine lv_lstore_n (lv' := [(3, .long x_6), (5, .long x_3), (0, .long y0), (2, .int y2)]) hx hb0 dX4_countSigns_47 rfl hl (by decide) rfl (fun ls hl => ?_)
            obtain ⟨x_7, ex_7⟩ : ∃ y : Int32, y = y2 + 1 := ⟨_, rfl⟩
            have he := he x_7 ex_7
            refine lv_iinc (v := x_7) (lv' := [(2, .int x_7), (3, .long x_6), (5, .long x_3), (0, .long y0)]) hx hb0 dX4_countSigns_48 hl (k := 3) rfl (by rw [ex_7]; rfl) (by decide) rfl (fun ls hl => ?_)
            refine lv_goto (tgt := 4) hx hb0 dX4_countSigns_51 (by decide) ?_
            exact ih y0 x_7 x_6 h0 he _ _ ls hP hD hS (lv_sub hl [3, 0, 1] rfl)
          · have he := he.2 c_5
            refine lv_iconst (v := (0 : Int32)) hx hb0 dX4_countSigns_41 (by decide) ?_
            exact gx_iret hx hb0 hr hlocks hK hP hD hS he dX4_countSigns_42
set_option maxHeartbeats 4000000 in
set_option maxRecDepth 100000 in
theorem c_X4_countSigns (l : Launch) (dC : Nat → ClassId) (dI : Nat → Nat → Nat) (P : gP) (ad : Nat → Nat) (tb : Nat → Nat) (x0 : Int64) (h0 : Hp) (Q : Int32 → Hp → Prop) (he : F_X4_countSigns x0 h0 Q) : Met l yX4_countSigns (Cond.code yX4_countSigns cX4_countSigns 7 (some .int) :: TB) rm_X4_countSigns (gPc (dC, dI) vwCl (tyC P) 158 (cE P ad) ad (gKC tb (gA 158 ad)) h0 [.long x0]) (gQi (dC, dI) vwCl (tyC P) 158 (cE P ad) ad Q) 0 0 (gA 158 ad) := by
  refine gx_start (by decide) (Nat.le_of_ble_eq_true rfl) (fun p e s m below meth c ls hx hb0 hr hlocks hml hown hts hK hk hP hD hS hl => ?_)
  have hl : lv_has ls 7 [(0, .long x0)] := hl
  have hown : s.vm.findClass RX4 = some m.cls := hown
  unfold F_X4_countSigns at he
  refine lv_iconst (v := (0 : Int32)) hx hb0 dX4_countSigns_0 (by decide) ?_
  refine lv_istore_n (lv' := [(2, .int (0 : Int32)), (0, .long x0)]) hx hb0 dX4_countSigns_1 rfl hl (by decide) rfl (fun ls hl => ?_)
  refine lv_lload_n hx hb0 dX4_countSigns_2 rfl (lv_at hl 1 rfl) ?_
  refine lv_lstore_n (lv' := [(3, .long x0), (2, .int (0 : Int32)), (0, .long x0)]) hx hb0 dX4_countSigns_3 rfl hl (by decide) rfl (fun ls hl => ?_)
  obtain ⟨n_8, he⟩ := he
  exact l_X4_countSigns_4 l dC dI P ad tb  hx hb0 hr hlocks hml hown hts hK hk Q n_8 x0 (0 : Int32) x0 h0 he _ _ ls hP hD hS (lv_sub hl [2, 1, 0] rfl)
theorem gm_X4_countSigns : gMeth yX4_countSigns cX4_countSigns 7 (some .int) 1 := ⟨⟨by decide, by decide, by decide +kernel⟩, ini_RX4, co_yX4_countSigns⟩
abbrev rm_X4_append : Room := { frames := 1, cells := 0, slots := 0, locals := 26 }
set_option maxHeartbeats 4000000 in
set_option maxRecDepth 100000 in
theorem l_X4_append_29 (l : Launch) (dC : Nat → ClassId) (dI : Nat → Nat → Nat) (P : gP) (ad : Nat → Nat) (tb : Nat → Nat) {p : Program} {e : Env} {s : State} {m : MethodId} {args : Array Value} {below : List Frame} {meth : Method} {c : Code} (hx : p.tables.exec = Jvm.exec) (hb0 : c.code = cX4_append) (hr : meth.sig.returnType = (some .int)) (hlocks : meth.locks = false) (hml : c.maxLocals = 5) (hown : s.vm.findClass RX4 = some m.cls) (hts : ∀ w ∈ TB, w.before args s = true) (hK : va_K (dC, dI) vwCl (tyC P) s) (hk : (gKC tb (gA 158 ad)) s) (Q : Int32 → Hp → Prop) : ∀ (n : Nat) (y1 : Int64) (y3 : Int32) (y4 : Int32) (h0 : Hp), F_X4_append_L29  n y1 y3 y4 h0 Q → ∀ (H : Heap) (locs : List Loc) (ls : Array Slot), va_P (dC, dI) vwCl (gW 158 (cE P ad) ad h0) H → va_D (gA 158 ad) (gW 158 (cE P ad) ad h0) → va_S (gA 158 ad) s.heap H locs → lv_has ls 5 [(0, .ref (ad 3)), (1, .long y1), (3, .int y3), (4, .int y4)] → W p l e rm_X4_append s m args below meth c H locs 0 0 (MQ below (gQi (dC, dI) vwCl (tyC P) 158 (cE P ad) ad Q) args s 0 0 (gA 158 ad)) (F0 m 29 ls []) := by
  intro n
  induction n with
  | zero =>
    intro y1 y3 y4 h0 he
    exact he.elim
  | succ n ih =>
    intro y1 y3 y4 h0 he H locs ls hP hD hS hl
    rw [F_X4_append_L29] at he
    refine lv_iload hx hb0 dX4_append_29 (lv_at hl 3 rfl) ?_
    refine lv_iload_n hx hb0 dX4_append_31 rfl (lv_at hl 2 rfl) ?_
    refine lv_icmp_ge (tgt := 70) hx hb0 dX4_append_32 (by decide) (fun c_5 => ?_) (fun c_5 => ?_)
    · have he := he.1 c_5
      refine lv_aload_n hx hb0 dX4_append_70 rfl (lv_at hl 0 rfl) ?_
      refine lv_dup hx hb0 dX4_append_71 rfl ?_
      refine gx_get hx hb0 hts in_RX4 hown hK hP 3 (by decide) (cE_t3 _) rfl 1 (by decide) fl_RX4_15 rfl dX4_append_72 ?_
      refine lv_iload_n hx hb0 dX4_append_75 rfl (lv_at hl 2 rfl) ?_
      refine lv_iadd hx hb0 dX4_append_76 ?_
      refine gx_put hx hb0 hts in_RX4 tyX4 tyX4_ok nmX4 hown hK hP hD hS 3 (by decide) cE_t3 rfl 1 (by decide) fl_RX4_15 rfl (tyX4_ok 1 (by decide)) (Nat.le_of_ble_eq_true rfl) rfl dX4_append_77 (fun h_6 eh_6 H locs hP hD hS => ?_)
      have he := he h_6 eh_6
      refine lv_aload_n hx hb0 dX4_append_80 rfl (lv_at hl 0 rfl) ?_
      refine gx_get hx hb0 hts in_RX4 hown hK hP 3 (by decide) (cE_t3 _) rfl 1 (by decide) fl_RX4_15 rfl dX4_append_81 ?_
      exact gx_iret hx hb0 hr hlocks hK hP hD hS he dX4_append_84
    · have he := he.2 c_5
      refine lv_aload_n hx hb0 dX4_append_35 rfl (lv_at hl 0 rfl) ?_
      refine gx_get hx hb0 hts in_RX4 hown hK hP 3 (by decide) (cE_t3 _) rfl 0 (by decide) fl_RX4_11 rfl dX4_append_36 ?_
      refine lv_aload_n hx hb0 dX4_append_39 rfl (lv_at hl 0 rfl) ?_
      refine gx_get hx hb0 hts in_RX4 hown hK hP 3 (by decide) (cE_t3 _) rfl 1 (by decide) fl_RX4_15 rfl dX4_append_40 ?_
      refine lv_iload hx hb0 dX4_append_43 (lv_at hl 3 rfl) ?_
      refine lv_iadd hx hb0 dX4_append_45 ?_
      refine lv_lload_n hx hb0 dX4_append_46 rfl (lv_at hl 1 rfl) ?_
      refine lv_bipush (v := (8 : Int32)) hx hb0 dX4_append_47 (by decide) ?_
      refine lv_iload_n hx hb0 dX4_append_49 rfl (lv_at hl 2 rfl) ?_
      refine lv_iconst (v := (1 : Int32)) hx hb0 dX4_append_50 (by decide) ?_
      refine lv_isub hx hb0 dX4_append_51 ?_
      refine lv_iload hx hb0 dX4_append_52 (lv_at hl 3 rfl) ?_
      refine lv_isub hx hb0 dX4_append_54 ?_
      refine lv_imul hx hb0 dX4_append_55 ?_
      refine lv_lushr (v := (y1.toUInt64 >>> (((8 : Int32) * ((y3 - (1 : Int32)) - y4)).toInt64.toUInt64 &&& Int64.toUInt64 63)).toInt64) hx hb0 dX4_append_56 rfl ?_
      refine lv_ldc2 (v := (255 : Int64)) hx hb0 hown (hts _ kl_RX4_35) dX4_append_57 ?_
      refine lv_land hx hb0 dX4_append_60 ?_
      refine lv_l2i (v := ((y1.toUInt64 >>> (((8 : Int32) * ((y3 - (1 : Int32)) - y4)).toInt64.toUInt64 &&& Int64.toUInt64 63)).toInt64 &&& (255 : Int64)).toInt32) hx hb0 dX4_append_61 rfl ?_
      refine lv_i2c (v := (((y1.toUInt64 >>> (((8 : Int32) * ((y3 - (1 : Int32)) - y4)).toInt64.toUInt64 &&& Int64.toUInt64 63)).toInt64 &&& (255 : Int64)).toInt32.toUInt32 % 65536).toInt32) hx hb0 dX4_append_62 rfl ?_
      obtain ⟨v_8, he⟩ := he
      refine gx_cast hx hb0 hK hP hD hS 4 1 (by decide) cE_t4 rfl v_8 dX4_append_63 (fun h_7 eh_7 H locs hP hD hS => ?_)
      have he := he h_7 eh_7
      obtain ⟨x_9, ex_9⟩ : ∃ y : Int32, y = y4 + 1 := ⟨_, rfl⟩
      have he := he x_9 ex_9
      refine lv_iinc (v := x_9) (lv' := [(4, .int x_9), (0, .ref (ad 3)), (1, .long y1), (3, .int y3)]) hx hb0 dX4_append_64 hl (k := 3) rfl (by rw [ex_9]; rfl) (by decide) rfl (fun ls hl => ?_)
      refine lv_goto (tgt := 29) hx hb0 dX4_append_67 (by decide) ?_
      exact ih y1 y3 x_9 h_7 he _ _ ls hP hD hS (lv_sub hl [1, 2, 3, 0] rfl)
set_option maxHeartbeats 4000000 in
set_option maxRecDepth 100000 in
theorem c_X4_append (l : Launch) (dC : Nat → ClassId) (dI : Nat → Nat → Nat) (P : gP) (ad : Nat → Nat) (tb : Nat → Nat) (x1 : Int64) (h0 : Hp) (Q : Int32 → Hp → Prop) (he : F_X4_append x1 h0 Q) : Met l yX4_append (Cond.code yX4_append cX4_append 5 (some .int) :: TB) rm_X4_append (gPc (dC, dI) vwCl (tyC P) 158 (cE P ad) ad (gKC tb (gA 158 ad)) h0 [.ref (ad 3), .long x1]) (gQi (dC, dI) vwCl (tyC P) 158 (cE P ad) ad Q) 0 0 (gA 158 ad) := by
  refine gx_start (by decide) (Nat.le_of_ble_eq_true rfl) (fun p e s m below meth c ls hx hb0 hr hlocks hml hown hts hK hk hP hD hS hl => ?_)
  have hl : lv_has ls 5 [(0, .ref (ad 3)), (1, .long x1)] := hl
  have hown : s.vm.findClass RX4 = some m.cls := hown
  unfold F_X4_append at he
  refine lv_lload_n hx hb0 dX4_append_0 rfl (lv_at hl 1 rfl) ?_
  refine gx_si ⟨hx, hb0, hml, hown, hts⟩ (gKC_keep _ _) hk hK hP hD hS [.long x1] [] (c_X4_countSigns l dC dI P ad tb x1 h0 _ he) gm_X4_countSigns st_yX4_countSigns ml_RX4_31 rfl rfl ⟨Nat.le_of_ble_eq_true rfl, Nat.le_of_ble_eq_true rfl⟩ rfl hl.1 rfl (Nat.le_of_ble_eq_true rfl) dX4_append_1 ⟨Nat.zero_le _, Nat.zero_le _⟩ (fun r_1 h_2 he H locs hP hD hS => ?_)
  refine lv_istore_n (lv' := [(3, .int r_1), (0, .ref (ad 3)), (1, .long x1)]) hx hb0 dX4_append_4 rfl hl (by decide) rfl (fun ls hl => ?_)
  refine lv_iload_n hx hb0 dX4_append_5 rfl (lv_at hl 0 rfl) ?_
  refine lv_if_ne (tgt := 12) hx hb0 dX4_append_6 (by decide) (fun c_3 => ?_) (fun c_3 => ?_)
  · have he := he.2 c_3
    refine lv_aload_n hx hb0 dX4_append_12 rfl (lv_at hl 1 rfl) ?_
    refine gx_get hx hb0 hts in_RX4 hown hK hP 3 (by decide) (cE_t3 _) rfl 1 (by decide) fl_RX4_15 rfl dX4_append_13 ?_
    refine lv_iload_n hx hb0 dX4_append_16 rfl (lv_at hl 0 rfl) ?_
    refine lv_iadd hx hb0 dX4_append_17 ?_
    refine lv_bipush (v := (80 : Int32)) hx hb0 dX4_append_18 (by decide) ?_
    refine lv_icmp_le (tgt := 26) hx hb0 dX4_append_20 (by decide) (fun c_4 => ?_) (fun c_4 => ?_)
    · have he := he.1 c_4
      refine lv_iconst (v := (0 : Int32)) hx hb0 dX4_append_26 (by decide) ?_
      refine lv_istore (lv' := [(4, .int (0 : Int32)), (3, .int r_1), (0, .ref (ad 3)), (1, .long x1)]) hx hb0 dX4_append_27 hl (by decide) rfl (fun ls hl => ?_)
      obtain ⟨n_10, he⟩ := he
      exact l_X4_append_29 l dC dI P ad tb  hx hb0 hr hlocks hml hown hts hK hk Q n_10 x1 r_1 (0 : Int32) h_2 he _ _ ls hP hD hS (lv_sub hl [2, 3, 1, 0] rfl)
    · have he := he.2 c_4
      refine lv_bipush (v := (-4 : Int32)) hx hb0 dX4_append_23 (by decide) ?_
      exact gx_iret hx hb0 hr hlocks hK hP hD hS he dX4_append_25
  · have he := he.1 c_3
    refine lv_bipush (v := (-2 : Int32)) hx hb0 dX4_append_9 (by decide) ?_
    exact gx_iret hx hb0 hr hlocks hK hP hD hS he dX4_append_11
theorem gm_X4_append : gMeth yX4_append cX4_append 5 (some .int) 1 := ⟨⟨by decide, by decide, by decide +kernel⟩, ini_RX4, co_yX4_append⟩
abbrev rm_X4_clear : Room := { frames := 0, cells := 0, slots := 0, locals := 0 }
set_option maxHeartbeats 4000000 in
set_option maxRecDepth 100000 in
theorem c_X4_clear (l : Launch) (dC : Nat → ClassId) (dI : Nat → Nat → Nat) (P : gP) (ad : Nat → Nat) (tb : Nat → Nat) (h0 : Hp) (Q : Int32 → Hp → Prop) (he : F_X4_clear  h0 Q) : Met l yX4_clear (Cond.code yX4_clear cX4_clear 2 (some .int) :: TB) rm_X4_clear (gPc (dC, dI) vwCl (tyC P) 158 (cE P ad) ad (gKC tb (gA 158 ad)) h0 [.ref (ad 3)]) (gQi (dC, dI) vwCl (tyC P) 158 (cE P ad) ad Q) 0 0 (gA 158 ad) := by
  refine gx_start (by decide) (Nat.le_of_ble_eq_true rfl) (fun p e s m below meth c ls hx hb0 hr hlocks hml hown hts hK hk hP hD hS hl => ?_)
  have hl : lv_has ls 2 [(0, .ref (ad 3))] := hl
  have hown : s.vm.findClass RX4 = some m.cls := hown
  unfold F_X4_clear at he
  refine lv_aload_n hx hb0 dX4_clear_0 rfl (lv_at hl 0 rfl) ?_
  refine gx_get hx hb0 hts in_RX4 hown hK hP 3 (by decide) (cE_t3 _) rfl 1 (by decide) fl_RX4_15 rfl dX4_clear_1 ?_
  refine lv_topi (fun x_1 ex_1 => ?_)
  have he := he x_1 ex_1
  refine lv_istore_n (lv' := [(1, .int x_1), (0, .ref (ad 3))]) hx hb0 dX4_clear_4 rfl hl (by decide) rfl (fun ls hl => ?_)
  refine lv_aload_n hx hb0 dX4_clear_5 rfl (lv_at hl 1 rfl) ?_
  refine lv_iconst (v := (0 : Int32)) hx hb0 dX4_clear_6 (by decide) ?_
  refine gx_put hx hb0 hts in_RX4 tyX4 tyX4_ok nmX4 hown hK hP hD hS 3 (by decide) cE_t3 rfl 1 (by decide) fl_RX4_15 rfl (tyX4_ok 1 (by decide)) (Nat.le_of_ble_eq_true rfl) rfl dX4_clear_7 (fun h_2 eh_2 H locs hP hD hS => ?_)
  have he := he h_2 eh_2
  refine lv_iload_n hx hb0 dX4_clear_10 rfl (lv_at hl 0 rfl) ?_
  exact gx_iret hx hb0 hr hlocks hK hP hD hS he dX4_clear_11
theorem gm_X4_clear : gMeth yX4_clear cX4_clear 2 (some .int) 0 := ⟨⟨by decide, by decide, by decide +kernel⟩, ini_RX4, co_yX4_clear⟩
abbrev rm_X4_startReading : Room := { frames := 0, cells := 0, slots := 0, locals := 0 }
set_option maxHeartbeats 4000000 in
set_option maxRecDepth 100000 in
theorem c_X4_startReading (l : Launch) (dC : Nat → ClassId) (dI : Nat → Nat → Nat) (P : gP) (ad : Nat → Nat) (tb : Nat → Nat) (h0 : Hp) (Q : Hp → Prop) (he : F_X4_startReading  h0 Q) : Met l yX4_startReading (Cond.code yX4_startReading cX4_startReading 1 none :: TB) rm_X4_startReading (gPc (dC, dI) vwCl (tyC P) 158 (cE P ad) ad (gKC tb (gA 158 ad)) h0 [.ref (ad 3)]) (gQv (dC, dI) vwCl (tyC P) 158 (cE P ad) ad Q) 0 0 (gA 158 ad) := by
  refine gx_start (by decide) (Nat.le_of_ble_eq_true rfl) (fun p e s m below meth c ls hx hb0 hr hlocks hml hown hts hK hk hP hD hS hl => ?_)
  have hl : lv_has ls 1 [(0, .ref (ad 3))] := hl
  have hown : s.vm.findClass RX4 = some m.cls := hown
  unfold F_X4_startReading at he
  refine lv_aload_n hx hb0 dX4_startReading_0 rfl (lv_at hl 0 rfl) ?_
  refine lv_iconst (v := (0 : Int32)) hx hb0 dX4_startReading_1 (by decide) ?_
  refine gx_put hx hb0 hts in_RX4 tyX4 tyX4_ok nmX4 hown hK hP hD hS 3 (by decide) cE_t3 rfl 2 (by decide) fl_RX4_19 rfl (tyX4_ok 2 (by decide)) (Nat.le_of_ble_eq_true rfl) rfl dX4_startReading_2 (fun h_1 eh_1 H locs hP hD hS => ?_)
  have he := he h_1 eh_1
  exact gx_vret hx hb0 hr hlocks hK hP hD hS he dX4_startReading_5
theorem gm_X4_startReading : gMeth yX4_startReading cX4_startReading 1 none 0 := ⟨⟨by decide, by decide, by decide +kernel⟩, ini_RX4, co_yX4_startReading⟩
abbrev rm_X4_nextSign : Room := { frames := 0, cells := 0, slots := 0, locals := 0 }
set_option maxHeartbeats 4000000 in
set_option maxRecDepth 100000 in
theorem c_X4_nextSign (l : Launch) (dC : Nat → ClassId) (dI : Nat → Nat → Nat) (P : gP) (ad : Nat → Nat) (tb : Nat → Nat) (h0 : Hp) (Q : Int32 → Hp → Prop) (he : F_X4_nextSign  h0 Q) : Met l yX4_nextSign (Cond.code yX4_nextSign cX4_nextSign 1 (some .char) :: TB) rm_X4_nextSign (gPc (dC, dI) vwCl (tyC P) 158 (cE P ad) ad (gKC tb (gA 158 ad)) h0 [.ref (ad 3)]) (gQi (dC, dI) vwCl (tyC P) 158 (cE P ad) ad Q) 0 0 (gA 158 ad) := by
  refine gx_start (by decide) (Nat.le_of_ble_eq_true rfl) (fun p e s m below meth c ls hx hb0 hr hlocks hml hown hts hK hk hP hD hS hl => ?_)
  have hl : lv_has ls 1 [(0, .ref (ad 3))] := hl
  have hown : s.vm.findClass RX4 = some m.cls := hown
  unfold F_X4_nextSign at he
  refine lv_aload_n hx hb0 dX4_nextSign_0 rfl (lv_at hl 0 rfl) ?_
  refine gx_get hx hb0 hts in_RX4 hown hK hP 3 (by decide) (cE_t3 _) rfl 2 (by decide) fl_RX4_19 rfl dX4_nextSign_1 ?_
  refine lv_aload_n hx hb0 dX4_nextSign_4 rfl (lv_at hl 0 rfl) ?_
  refine gx_get hx hb0 hts in_RX4 hown hK hP 3 (by decide) (cE_t3 _) rfl 1 (by decide) fl_RX4_15 rfl dX4_nextSign_5 ?_
  refine lv_icmp_ge (tgt := 23) hx hb0 dX4_nextSign_8 (by decide) (fun c_1 => ?_) (fun c_1 => ?_)
  · have he := he.1 c_1
    refine lv_iconst (v := (0 : Int32)) hx hb0 dX4_nextSign_23 (by decide) ?_
    exact gx_zret hx hb0 hr (by decide) hlocks hK hP hD hS he dX4_nextSign_24
  · have he := he.2 c_1
    refine lv_aload_n hx hb0 dX4_nextSign_11 rfl (lv_at hl 0 rfl) ?_
    refine gx_get hx hb0 hts in_RX4 hown hK hP 3 (by decide) (cE_t3 _) rfl 0 (by decide) fl_RX4_11 rfl dX4_nextSign_12 ?_
    refine lv_aload_n hx hb0 dX4_nextSign_15 rfl (lv_at hl 0 rfl) ?_
    refine gx_get hx hb0 hts in_RX4 hown hK hP 3 (by decide) (cE_t3 _) rfl 2 (by decide) fl_RX4_19 rfl dX4_nextSign_16 ?_
    obtain ⟨v_2, he⟩ := he
    refine gx_cald hx hb0 hK hP 4 1 (by decide) cE_t4 rfl v_2 dX4_nextSign_19 ?_
    refine lv_goto (tgt := 24) hx hb0 dX4_nextSign_20 (by decide) ?_
    obtain ⟨z_3, he⟩ := he
    exact gx_zret hx hb0 hr z_3 hlocks hK hP hD hS he dX4_nextSign_24
theorem gm_X4_nextSign : gMeth yX4_nextSign cX4_nextSign 1 (some .char) 0 := ⟨⟨by decide, by decide, by decide +kernel⟩, ini_RX4, co_yX4_nextSign⟩
abbrev rm_X4_isDigit : Room := { frames := 0, cells := 0, slots := 0, locals := 0 }
set_option maxHeartbeats 4000000 in
set_option maxRecDepth 100000 in
theorem c_X4_isDigit (l : Launch) (dC : Nat → ClassId) (dI : Nat → Nat → Nat) (P : gP) (ad : Nat → Nat) (tb : Nat → Nat) (x0 : Int32) (h0 : Hp) (Q : Int32 → Hp → Prop) (he : F_X4_isDigit x0 h0 Q) : Met l yX4_isDigit (Cond.code yX4_isDigit cX4_isDigit 1 (some .boolean) :: TB) rm_X4_isDigit (gPc (dC, dI) vwCl (tyC P) 158 (cE P ad) ad (gKC tb (gA 158 ad)) h0 [.int x0]) (gQi (dC, dI) vwCl (tyC P) 158 (cE P ad) ad Q) 0 0 (gA 158 ad) := by
  refine gx_start (by decide) (Nat.le_of_ble_eq_true rfl) (fun p e s m below meth c ls hx hb0 hr hlocks hml hown hts hK hk hP hD hS hl => ?_)
  have hl : lv_has ls 1 [(0, .int x0)] := hl
  have hown : s.vm.findClass RX4 = some m.cls := hown
  unfold F_X4_isDigit at he
  refine lv_iload_n hx hb0 dX4_isDigit_0 rfl (lv_at hl 0 rfl) ?_
  refine lv_bipush (v := (48 : Int32)) hx hb0 dX4_isDigit_1 (by decide) ?_
  refine lv_icmp_lt (tgt := 16) hx hb0 dX4_isDigit_3 (by decide) (fun c_1 => ?_) (fun c_1 => ?_)
  · have he := he.1 c_1
    refine lv_iconst (v := (0 : Int32)) hx hb0 dX4_isDigit_16 (by decide) ?_
    exact gx_zret hx hb0 hr (by decide) hlocks hK hP hD hS he dX4_isDigit_17
  · have he := he.2 c_1
    refine lv_iload_n hx hb0 dX4_isDigit_6 rfl (lv_at hl 0 rfl) ?_
    refine lv_bipush (v := (57 : Int32)) hx hb0 dX4_isDigit_7 (by decide) ?_
    refine lv_icmp_gt (tgt := 16) hx hb0 dX4_isDigit_9 (by decide) (fun c_2 => ?_) (fun c_2 => ?_)
    · have he := he.1 c_2
      refine lv_iconst (v := (0 : Int32)) hx hb0 dX4_isDigit_16 (by decide) ?_
      exact gx_zret hx hb0 hr (by decide) hlocks hK hP hD hS he dX4_isDigit_17
    · have he := he.2 c_2
      refine lv_iconst (v := (1 : Int32)) hx hb0 dX4_isDigit_12 (by decide) ?_
      refine lv_goto (tgt := 17) hx hb0 dX4_isDigit_13 (by decide) ?_
      exact gx_zret hx hb0 hr (by decide) hlocks hK hP hD hS he dX4_isDigit_17
theorem gm_X4_isDigit : gMeth yX4_isDigit cX4_isDigit 1 (some .boolean) 1 := ⟨⟨by decide, by decide, by decide +kernel⟩, ini_RX4, co_yX4_isDigit⟩
abbrev rm_X4_readDigit : Room := { frames := 1, cells := 0, slots := 0, locals := 20 }
set_option maxHeartbeats 4000000 in
set_option maxRecDepth 100000 in
theorem c_X4_readDigit (l : Launch) (dC : Nat → ClassId) (dI : Nat → Nat → Nat) (P : gP) (ad : Nat → Nat) (tb : Nat → Nat) (h0 : Hp) (Q : Int32 → Hp → Prop) (he : F_X4_readDigit  h0 Q) : Met l yX4_readDigit (Cond.code yX4_readDigit cX4_readDigit 2 (some .int) :: TB) rm_X4_readDigit (gPc (dC, dI) vwCl (tyC P) 158 (cE P ad) ad (gKC tb (gA 158 ad)) h0 [.ref (ad 3)]) (gQi (dC, dI) vwCl (tyC P) 158 (cE P ad) ad Q) 0 0 (gA 158 ad) := by
  refine gx_start (by decide) (Nat.le_of_ble_eq_true rfl) (fun p e s m below meth c ls hx hb0 hr hlocks hml hown hts hK hk hP hD hS hl => ?_)
  have hl : lv_has ls 2 [(0, .ref (ad 3))] := hl
  have hown : s.vm.findClass RX4 = some m.cls := hown
  unfold F_X4_readDigit at he
  refine lv_aload_n hx hb0 dX4_readDigit_0 rfl (lv_at hl 0 rfl) ?_
  refine gx_vi ⟨hx, hb0, hml, hown, hts⟩ (gKC_keep _ _) hk hK hP hD hS 3 [] [] (c_X4_nextSign l dC dI P ad tb  h0 _ he) gm_X4_nextSign im_yX4_nextSign se_yX4_nextSign ml_RX4_48 (by decide) (cE_t3 _) rfl rfl rfl ⟨Nat.le_of_ble_eq_true rfl, Nat.le_of_ble_eq_true rfl⟩ rfl hl.1 rfl (Nat.le_of_ble_eq_true rfl) dX4_readDigit_1 ⟨Nat.zero_le _, Nat.zero_le _⟩ (fun r_1 h_2 he H locs hP hD hS => ?_)
  refine lv_istore_n (lv' := [(1, .int r_1), (0, .ref (ad 3))]) hx hb0 dX4_readDigit_4 rfl hl (by decide) rfl (fun ls hl => ?_)
  refine lv_iload_n hx hb0 dX4_readDigit_5 rfl (lv_at hl 0 rfl) ?_
  refine gx_si ⟨hx, hb0, hml, hown, hts⟩ (gKC_keep _ _) hk hK hP hD hS [.int r_1] [] (c_X4_isDigit l dC dI P ad tb r_1 h_2 _ he) gm_X4_isDigit st_yX4_isDigit ml_RX4_65 rfl rfl ⟨Nat.le_of_ble_eq_true rfl, Nat.le_of_ble_eq_true rfl⟩ rfl hl.1 rfl (Nat.le_of_ble_eq_true rfl) dX4_readDigit_6 ⟨Nat.zero_le _, Nat.zero_le _⟩ (fun r_3 h_4 he H locs hP hD hS => ?_)
  refine lv_if_ne (tgt := 14) hx hb0 dX4_readDigit_9 (by decide) (fun c_5 => ?_) (fun c_5 => ?_)
  · have he := he.2 c_5
    refine lv_aload_n hx hb0 dX4_readDigit_14 rfl (lv_at hl 1 rfl) ?_
    refine lv_dup hx hb0 dX4_readDigit_15 rfl ?_
    refine gx_get hx hb0 hts in_RX4 hown hK hP 3 (by decide) (cE_t3 _) rfl 2 (by decide) fl_RX4_19 rfl dX4_readDigit_16 ?_
    refine lv_iconst (v := (1 : Int32)) hx hb0 dX4_readDigit_19 (by decide) ?_
    refine lv_iadd hx hb0 dX4_readDigit_20 ?_
    refine gx_put hx hb0 hts in_RX4 tyX4 tyX4_ok nmX4 hown hK hP hD hS 3 (by decide) cE_t3 rfl 2 (by decide) fl_RX4_19 rfl (tyX4_ok 2 (by decide)) (Nat.le_of_ble_eq_true rfl) rfl dX4_readDigit_21 (fun h_6 eh_6 H locs hP hD hS => ?_)
    have he := he h_6 eh_6
    refine lv_iload_n hx hb0 dX4_readDigit_24 rfl (lv_at hl 0 rfl) ?_
    refine lv_bipush (v := (48 : Int32)) hx hb0 dX4_readDigit_25 (by decide) ?_
    refine lv_isub hx hb0 dX4_readDigit_27 ?_
    exact gx_iret hx hb0 hr hlocks hK hP hD hS he dX4_readDigit_28
  · have he := he.1 c_5
    refine lv_iconst (v := (-1 : Int32)) hx hb0 dX4_readDigit_12 (by decide) ?_
    exact gx_iret hx hb0 hr hlocks hK hP hD hS he dX4_readDigit_13
theorem gm_X4_readDigit : gMeth yX4_readDigit cX4_readDigit 2 (some .int) 0 := ⟨⟨by decide, by decide, by decide +kernel⟩, ini_RX4, co_yX4_readDigit⟩
abbrev rm_X4_readTwoDigits : Room := { frames := 2, cells := 0, slots := 0, locals := 41 }
set_option maxHeartbeats 4000000 in
set_option maxRecDepth 100000 in
theorem c_X4_readTwoDigits (l : Launch) (dC : Nat → ClassId) (dI : Nat → Nat → Nat) (P : gP) (ad : Nat → Nat) (tb : Nat → Nat) (h0 : Hp) (Q : Int32 → Hp → Prop) (he : F_X4_readTwoDigits  h0 Q) : Met l yX4_readTwoDigits (Cond.code yX4_readTwoDigits cX4_readTwoDigits 1 (some .boolean) :: TB) rm_X4_readTwoDigits (gPc (dC, dI) vwCl (tyC P) 158 (cE P ad) ad (gKC tb (gA 158 ad)) h0 [.ref (ad 3)]) (gQi (dC, dI) vwCl (tyC P) 158 (cE P ad) ad Q) 0 0 (gA 158 ad) := by
  refine gx_start (by decide) (Nat.le_of_ble_eq_true rfl) (fun p e s m below meth c ls hx hb0 hr hlocks hml hown hts hK hk hP hD hS hl => ?_)
  have hl : lv_has ls 1 [(0, .ref (ad 3))] := hl
  have hown : s.vm.findClass RX4 = some m.cls := hown
  unfold F_X4_readTwoDigits at he
  refine lv_aload_n hx hb0 dX4_readTwoDigits_0 rfl (lv_at hl 0 rfl) ?_
  refine lv_aload_n hx hb0 dX4_readTwoDigits_1 rfl (lv_at hl 0 rfl) ?_
  refine gx_vi ⟨hx, hb0, hml, hown, hts⟩ (gKC_keep _ _) hk hK hP hD hS 3 [] [.ref (ad 3)] (c_X4_readDigit l dC dI P ad tb  h0 _ he) gm_X4_readDigit im_yX4_readDigit se_yX4_readDigit ml_RX4_52 (by decide) (cE_t3 _) rfl rfl rfl ⟨Nat.le_of_ble_eq_true rfl, Nat.le_of_ble_eq_true rfl⟩ rfl hl.1 rfl (Nat.le_of_ble_eq_true rfl) dX4_readTwoDigits_2 ⟨Nat.zero_le _, Nat.zero_le _⟩ (fun r_1 h_2 he H locs hP hD hS => ?_)
  refine gx_put hx hb0 hts in_RX4 tyX4 tyX4_ok nmX4 hown hK hP hD hS 3 (by decide) cE_t3 rfl 4 (by decide) fl_RX4_25 rfl (tyX4_ok 4 (by decide)) (Nat.le_of_ble_eq_true rfl) rfl dX4_readTwoDigits_5 (fun h_3 eh_3 H locs hP hD hS => ?_)
  have he := he h_3 eh_3
  refine lv_aload_n hx hb0 dX4_readTwoDigits_8 rfl (lv_at hl 0 rfl) ?_
  refine gx_get hx hb0 hts in_RX4 hown hK hP 3 (by decide) (cE_t3 _) rfl 4 (by decide) fl_RX4_25 rfl dX4_readTwoDigits_9 ?_
  refine lv_iconst (v := (-1 : Int32)) hx hb0 dX4_readTwoDigits_12 (by decide) ?_
  refine lv_icmp_ne (tgt := 18) hx hb0 dX4_readTwoDigits_13 (by decide) (fun c_4 => ?_) (fun c_4 => ?_)
  · have he := he.2 c_4
    refine lv_aload_n hx hb0 dX4_readTwoDigits_18 rfl (lv_at hl 0 rfl) ?_
    refine lv_aload_n hx hb0 dX4_readTwoDigits_19 rfl (lv_at hl 0 rfl) ?_
    refine gx_vi ⟨hx, hb0, hml, hown, hts⟩ (gKC_keep _ _) hk hK hP hD hS 3 [] [.ref (ad 3)] (c_X4_readDigit l dC dI P ad tb  h_3 _ he) gm_X4_readDigit im_yX4_readDigit se_yX4_readDigit ml_RX4_52 (by decide) (cE_t3 _) rfl rfl rfl ⟨Nat.le_of_ble_eq_true rfl, Nat.le_of_ble_eq_true rfl⟩ rfl hl.1 rfl (Nat.le_of_ble_eq_true rfl) dX4_readTwoDigits_20 ⟨Nat.zero_le _, Nat.zero_le _⟩ (fun r_5 h_6 he H locs hP hD hS => ?_)
    refine gx_put hx hb0 hts in_RX4 tyX4 tyX4_ok nmX4 hown hK hP hD hS 3 (by decide) cE_t3 rfl 5 (by decide) fl_RX4_28 rfl (tyX4_ok 5 (by decide)) (Nat.le_of_ble_eq_true rfl) rfl dX4_readTwoDigits_23 (fun h_7 eh_7 H locs hP hD hS => ?_)
    have he := he h_7 eh_7
    refine lv_aload_n hx hb0 dX4_readTwoDigits_26 rfl (lv_at hl 0 rfl) ?_
    refine gx_get hx hb0 hts in_RX4 hown hK hP 3 (by decide) (cE_t3 _) rfl 5 (by decide) fl_RX4_28 rfl dX4_readTwoDigits_27 ?_
    refine lv_iconst (v := (-1 : Int32)) hx hb0 dX4_readTwoDigits_30 (by decide) ?_
    refine lv_icmp_eq (tgt := 38) hx hb0 dX4_readTwoDigits_31 (by decide) (fun c_8 => ?_) (fun c_8 => ?_)
    · have he := he.1 c_8
      refine lv_iconst (v := (0 : Int32)) hx hb0 dX4_readTwoDigits_38 (by decide) ?_
      exact gx_zret hx hb0 hr (by decide) hlocks hK hP hD hS he dX4_readTwoDigits_39
    · have he := he.2 c_8
      refine lv_iconst (v := (1 : Int32)) hx hb0 dX4_readTwoDigits_34 (by decide) ?_
      refine lv_goto (tgt := 39) hx hb0 dX4_readTwoDigits_35 (by decide) ?_
      exact gx_zret hx hb0 hr (by decide) hlocks hK hP hD hS he dX4_readTwoDigits_39
  · have he := he.1 c_4
    refine lv_iconst (v := (0 : Int32)) hx hb0 dX4_readTwoDigits_16 (by decide) ?_
    exact gx_zret hx hb0 hr (by decide) hlocks hK hP hD hS he dX4_readTwoDigits_17
theorem gm_X4_readTwoDigits : gMeth yX4_readTwoDigits cX4_readTwoDigits 1 (some .boolean) 0 := ⟨⟨by decide, by decide, by decide +kernel⟩, ini_RX4, co_yX4_readTwoDigits⟩
abbrev rm_X4_readNumber : Room := { frames := 2, cells := 0, slots := 0, locals := 41 }
set_option maxHeartbeats 4000000 in
set_option maxRecDepth 100000 in
theorem l_X4_readNumber_7 (l : Launch) (dC : Nat → ClassId) (dI : Nat → Nat → Nat) (P : gP) (ad : Nat → Nat) (tb : Nat → Nat) {p : Program} {e : Env} {s : State} {m : MethodId} {args : Array Value} {below : List Frame} {meth : Method} {c : Code} (hx : p.tables.exec = Jvm.exec) (hb0 : c.code = cX4_readNumber) (hr : meth.sig.returnType = (some .int)) (hlocks : meth.locks = false) (hml : c.maxLocals = 3) (hown : s.vm.findClass RX4 = some m.cls) (hts : ∀ w ∈ TB, w.before args s = true) (hK : va_K (dC, dI) vwCl (tyC P) s) (hk : (gKC tb (gA 158 ad)) s) (Q : Int32 → Hp → Prop) : ∀ (n : Nat) (y1 : Int32) (y2 : Int32) (h0 : Hp), F_X4_readNumber_L7  n y1 y2 h0 Q → ∀ (H : Heap) (locs : List Loc) (ls : Array Slot), va_P (dC, dI) vwCl (gW 158 (cE P ad) ad h0) H → va_D (gA 158 ad) (gW 158 (cE P ad) ad h0) → va_S (gA 158 ad) s.heap H locs → lv_has ls 3 [(0, .ref (ad 3)), (1, .int y1), (2, .int y2)] → W p l e rm_X4_readNumber s m args below meth c H locs 0 0 (MQ below (gQi (dC, dI) vwCl (tyC P) 158 (cE P ad) ad Q) args s 0 0 (gA 158 ad)) (F0 m 7 ls []) := by
  intro n
  induction n with
  | zero =>
    intro y1 y2 h0 he
    exact he.elim
  | succ n ih =>
    intro y1 y2 h0 he H locs ls hP hD hS hl
    rw [F_X4_readNumber_L7] at he
    refine lv_iload_n hx hb0 dX4_readNumber_7 rfl (lv_at hl 2 rfl) ?_
    refine lv_iconst (v := (4 : Int32)) hx hb0 dX4_readNumber_8 (by decide) ?_
    refine lv_icmp_ge (tgt := 42) hx hb0 dX4_readNumber_9 (by decide) (fun c_3 => ?_) (fun c_3 => ?_)
    · have he := he.1 c_3
      refine lv_iload_n hx hb0 dX4_readNumber_42 rfl (lv_at hl 1 rfl) ?_
      exact gx_iret hx hb0 hr hlocks hK hP hD hS he dX4_readNumber_43
    · have he := he.2 c_3
      refine lv_iload_n hx hb0 dX4_readNumber_12 rfl (lv_at hl 1 rfl) ?_
      refine lv_if_le (tgt := 42) hx hb0 dX4_readNumber_13 (by decide) (fun c_4 => ?_) (fun c_4 => ?_)
      · have he := he.1 c_4
        refine lv_iload_n hx hb0 dX4_readNumber_42 rfl (lv_at hl 1 rfl) ?_
        exact gx_iret hx hb0 hr hlocks hK hP hD hS he dX4_readNumber_43
      · have he := he.2 c_4
        refine lv_aload_n hx hb0 dX4_readNumber_16 rfl (lv_at hl 0 rfl) ?_
        refine gx_vi ⟨hx, hb0, hml, hown, hts⟩ (gKC_keep _ _) hk hK hP hD hS 3 [] [] (c_X4_nextSign l dC dI P ad tb  h0 _ he) gm_X4_nextSign im_yX4_nextSign se_yX4_nextSign ml_RX4_48 (by decide) (cE_t3 _) rfl rfl rfl ⟨Nat.le_of_ble_eq_true rfl, Nat.le_of_ble_eq_true rfl⟩ rfl hl.1 rfl (Nat.le_of_ble_eq_true rfl) dX4_readNumber_17 ⟨Nat.zero_le _, Nat.zero_le _⟩ (fun r_5 h_6 he H locs hP hD hS => ?_)
        refine gx_si ⟨hx, hb0, hml, hown, hts⟩ (gKC_keep _ _) hk hK hP hD hS [.int r_5] [] (c_X4_isDigit l dC dI P ad tb r_5 h_6 _ he) gm_X4_isDigit st_yX4_isDigit ml_RX4_65 rfl rfl ⟨Nat.le_of_ble_eq_true rfl, Nat.le_of_ble_eq_true rfl⟩ rfl hl.1 rfl (Nat.le_of_ble_eq_true rfl) dX4_readNumber_20 ⟨Nat.zero_le _, Nat.zero_le _⟩ (fun r_7 h_8 he H locs hP hD hS => ?_)
        refine lv_if_eq (tgt := 42) hx hb0 dX4_readNumber_23 (by decide) (fun c_9 => ?_) (fun c_9 => ?_)
        · have he := he.1 c_9
          refine lv_iload_n hx hb0 dX4_readNumber_42 rfl (lv_at hl 1 rfl) ?_
          exact gx_iret hx hb0 hr hlocks hK hP hD hS he dX4_readNumber_43
        · have he := he.2 c_9
          refine lv_bipush (v := (10 : Int32)) hx hb0 dX4_readNumber_26 (by decide) ?_
          refine lv_iload_n hx hb0 dX4_readNumber_28 rfl (lv_at hl 1 rfl) ?_
          refine lv_imul hx hb0 dX4_readNumber_29 ?_
          refine lv_aload_n hx hb0 dX4_readNumber_30 rfl (lv_at hl 0 rfl) ?_
          refine gx_vi ⟨hx, hb0, hml, hown, hts⟩ (gKC_keep _ _) hk hK hP hD hS 3 [] [.int ((10 : Int32) * y1)] (c_X4_readDigit l dC dI P ad tb  h_8 _ he) gm_X4_readDigit im_yX4_readDigit se_yX4_readDigit ml_RX4_52 (by decide) (cE_t3 _) rfl rfl rfl ⟨Nat.le_of_ble_eq_true rfl, Nat.le_of_ble_eq_true rfl⟩ rfl hl.1 rfl (Nat.le_of_ble_eq_true rfl) dX4_readNumber_31 ⟨Nat.zero_le _, Nat.zero_le _⟩ (fun r_10 h_11 he H locs hP hD hS => ?_)
          refine lv_iadd hx hb0 dX4_readNumber_34 ?_
          refine lv_topi (fun x_12 ex_12 => ?_)
          have he := he x_12 ex_12
          refine lv_istore_n (lv' := [(1, .int x_12), (0, .ref (ad 3)), (2, .int y2)]) hx hb0 dX4_readNumber_35 rfl hl (by decide) rfl (fun ls hl => ?_)
          obtain ⟨x_13, ex_13⟩ : ∃ y : Int32, y = y2 + 1 := ⟨_, rfl⟩
          have he := he x_13 ex_13
          refine lv_iinc (v := x_13) (lv' := [(2, .int x_13), (1, .int x_12), (0, .ref (ad 3))]) hx hb0 dX4_readNumber_36 hl (k := 2) rfl (by rw [ex_13]; rfl) (by decide) rfl (fun ls hl => ?_)
          refine lv_goto (tgt := 7) hx hb0 dX4_readNumber_39 (by decide) ?_
          exact ih x_12 x_13 h_11 he _ _ ls hP hD hS (lv_sub hl [2, 1, 0] rfl)
set_option maxHeartbeats 4000000 in
set_option maxRecDepth 100000 in
theorem c_X4_readNumber (l : Launch) (dC : Nat → ClassId) (dI : Nat → Nat → Nat) (P : gP) (ad : Nat → Nat) (tb : Nat → Nat) (h0 : Hp) (Q : Int32 → Hp → Prop) (he : F_X4_readNumber  h0 Q) : Met l yX4_readNumber (Cond.code yX4_readNumber cX4_readNumber 3 (some .int) :: TB) rm_X4_readNumber (gPc (dC, dI) vwCl (tyC P) 158 (cE P ad) ad (gKC tb (gA 158 ad)) h0 [.ref (ad 3)]) (gQi (dC, dI) vwCl (tyC P) 158 (cE P ad) ad Q) 0 0 (gA 158 ad) := by
  refine gx_start (by decide) (Nat.le_of_ble_eq_true rfl) (fun p e s m below meth c ls hx hb0 hr hlocks hml hown hts hK hk hP hD hS hl => ?_)
  have hl : lv_has ls 3 [(0, .ref (ad 3))] := hl
  have hown : s.vm.findClass RX4 = some m.cls := hown
  unfold F_X4_readNumber at he
  refine lv_aload_n hx hb0 dX4_readNumber_0 rfl (lv_at hl 0 rfl) ?_
  refine gx_vi ⟨hx, hb0, hml, hown, hts⟩ (gKC_keep _ _) hk hK hP hD hS 3 [] [] (c_X4_readDigit l dC dI P ad tb  h0 _ he) gm_X4_readDigit im_yX4_readDigit se_yX4_readDigit ml_RX4_52 (by decide) (cE_t3 _) rfl rfl rfl ⟨Nat.le_of_ble_eq_true rfl, Nat.le_of_ble_eq_true rfl⟩ rfl hl.1 rfl (Nat.le_of_ble_eq_true rfl) dX4_readNumber_1 ⟨Nat.zero_le _, Nat.zero_le _⟩ (fun r_1 h_2 he H locs hP hD hS => ?_)
  refine lv_istore_n (lv' := [(1, .int r_1), (0, .ref (ad 3))]) hx hb0 dX4_readNumber_4 rfl hl (by decide) rfl (fun ls hl => ?_)
  refine lv_iconst (v := (1 : Int32)) hx hb0 dX4_readNumber_5 (by decide) ?_
  refine lv_istore_n (lv' := [(2, .int (1 : Int32)), (1, .int r_1), (0, .ref (ad 3))]) hx hb0 dX4_readNumber_6 rfl hl (by decide) rfl (fun ls hl => ?_)
  obtain ⟨n_14, he⟩ := he
  exact l_X4_readNumber_7 l dC dI P ad tb  hx hb0 hr hlocks hml hown hts hK hk Q n_14 r_1 (1 : Int32) h_2 he _ _ ls hP hD hS (lv_sub hl [2, 1, 0] rfl)
theorem gm_X4_readNumber : gMeth yX4_readNumber cX4_readNumber 3 (some .int) 0 := ⟨⟨by decide, by decide, by decide +kernel⟩, ini_RX4, co_yX4_readNumber⟩
abbrev rm_X4_readSignedNumber : Room := { frames := 3, cells := 0, slots := 0, locals := 63 }
set_option maxHeartbeats 4000000 in
set_option maxRecDepth 100000 in
theorem c_X4_readSignedNumber (l : Launch) (dC : Nat → ClassId) (dI : Nat → Nat → Nat) (P : gP) (ad : Nat → Nat) (tb : Nat → Nat) (h0 : Hp) (Q : Int32 → Hp → Prop) (he : F_X4_readSignedNumber  h0 Q) : Met l yX4_readSignedNumber (Cond.code yX4_readSignedNumber cX4_readSignedNumber 3 (some .boolean) :: TB) rm_X4_readSignedNumber (gPc (dC, dI) vwCl (tyC P) 158 (cE P ad) ad (gKC tb (gA 158 ad)) h0 [.ref (ad 3)]) (gQi (dC, dI) vwCl (tyC P) 158 (cE P ad) ad Q) 0 0 (gA 158 ad) := by
  refine gx_start (by decide) (Nat.le_of_ble_eq_true rfl) (fun p e s m below meth c ls hx hb0 hr hlocks hml hown hts hK hk hP hD hS hl => ?_)
  have hl : lv_has ls 3 [(0, .ref (ad 3))] := hl
  have hown : s.vm.findClass RX4 = some m.cls := hown
  unfold F_X4_readSignedNumber at he
  refine lv_aload_n hx hb0 dX4_readSignedNumber_0 rfl (lv_at hl 0 rfl) ?_
  refine gx_vi ⟨hx, hb0, hml, hown, hts⟩ (gKC_keep _ _) hk hK hP hD hS 3 [] [] (c_X4_nextSign l dC dI P ad tb  h0 _ he) gm_X4_nextSign im_yX4_nextSign se_yX4_nextSign ml_RX4_48 (by decide) (cE_t3 _) rfl rfl rfl ⟨Nat.le_of_ble_eq_true rfl, Nat.le_of_ble_eq_true rfl⟩ rfl hl.1 rfl (Nat.le_of_ble_eq_true rfl) dX4_readSignedNumber_1 ⟨Nat.zero_le _, Nat.zero_le _⟩ (fun r_1 h_2 he H locs hP hD hS => ?_)
  refine lv_istore_n (lv' := [(1, .int r_1), (0, .ref (ad 3))]) hx hb0 dX4_readSignedNumber_4 rfl hl (by decide) rfl (fun ls hl => ?_)
  refine lv_iload_n hx hb0 dX4_readSignedNumber_5 rfl (lv_at hl 0 rfl) ?_
  refine lv_bipush (v := (43 : Int32)) hx hb0 dX4_readSignedNumber_6 (by decide) ?_
  refine lv_icmp_eq (tgt := 19) hx hb0 dX4_readSignedNumber_8 (by decide) (fun c_3 => ?_) (fun c_3 => ?_)
  · have he := he.1 c_3
    refine lv_aload_n hx hb0 dX4_readSignedNumber_19 rfl (lv_at hl 1 rfl) ?_
    refine lv_dup hx hb0 dX4_readSignedNumber_20 rfl ?_
    refine gx_get hx hb0 hts in_RX4 hown hK hP 3 (by decide) (cE_t3 _) rfl 2 (by decide) fl_RX4_19 rfl dX4_readSignedNumber_21 ?_
    refine lv_iconst (v := (1 : Int32)) hx hb0 dX4_readSignedNumber_24 (by decide) ?_
    refine lv_iadd hx hb0 dX4_readSignedNumber_25 ?_
    refine gx_put hx hb0 hts in_RX4 tyX4 tyX4_ok nmX4 hown hK hP hD hS 3 (by decide) cE_t3 rfl 2 (by decide) fl_RX4_19 rfl (tyX4_ok 2 (by decide)) (Nat.le_of_ble_eq_true rfl) rfl dX4_readSignedNumber_26 (fun h_4 eh_4 H locs hP hD hS => ?_)
    have he := he h_4 eh_4
    refine lv_aload_n hx hb0 dX4_readSignedNumber_29 rfl (lv_at hl 1 rfl) ?_
    refine gx_vi ⟨hx, hb0, hml, hown, hts⟩ (gKC_keep _ _) hk hK hP hD hS 3 [] [] (c_X4_readNumber l dC dI P ad tb  h_4 _ he) gm_X4_readNumber im_yX4_readNumber se_yX4_readNumber ml_RX4_59 (by decide) (cE_t3 _) rfl rfl rfl ⟨Nat.le_of_ble_eq_true rfl, Nat.le_of_ble_eq_true rfl⟩ rfl hl.1 rfl (Nat.le_of_ble_eq_true rfl) dX4_readSignedNumber_30 ⟨Nat.zero_le _, Nat.zero_le _⟩ (fun r_5 h_6 he H locs hP hD hS => ?_)
    refine lv_istore_n (lv' := [(2, .int r_5), (1, .int r_1), (0, .ref (ad 3))]) hx hb0 dX4_readSignedNumber_33 rfl hl (by decide) rfl (fun ls hl => ?_)
    refine lv_aload_n hx hb0 dX4_readSignedNumber_34 rfl (lv_at hl 2 rfl) ?_
    refine lv_iload_n hx hb0 dX4_readSignedNumber_35 rfl (lv_at hl 1 rfl) ?_
    refine lv_bipush (v := (45 : Int32)) hx hb0 dX4_readSignedNumber_36 (by decide) ?_
    refine lv_icmp_ne (tgt := 46) hx hb0 dX4_readSignedNumber_38 (by decide) (fun c_7 => ?_) (fun c_7 => ?_)
    · have he := he.2 c_7
      refine lv_iload_n hx hb0 dX4_readSignedNumber_46 rfl (lv_at hl 0 rfl) ?_
      refine gx_put hx hb0 hts in_RX4 tyX4 tyX4_ok nmX4 hown hK hP hD hS 3 (by decide) cE_t3 rfl 4 (by decide) fl_RX4_25 rfl (tyX4_ok 4 (by decide)) (Nat.le_of_ble_eq_true rfl) rfl dX4_readSignedNumber_47 (fun h_8 eh_8 H locs hP hD hS => ?_)
      have he := he h_8 eh_8
      refine lv_iload_n hx hb0 dX4_readSignedNumber_50 rfl (lv_at hl 0 rfl) ?_
      refine lv_iconst (v := (-1 : Int32)) hx hb0 dX4_readSignedNumber_51 (by decide) ?_
      refine lv_icmp_eq (tgt := 59) hx hb0 dX4_readSignedNumber_52 (by decide) (fun c_9 => ?_) (fun c_9 => ?_)
      · have he := he.1 c_9
        refine lv_iconst (v := (0 : Int32)) hx hb0 dX4_readSignedNumber_59 (by decide) ?_
        exact gx_zret hx hb0 hr (by decide) hlocks hK hP hD hS he dX4_readSignedNumber_60
      · have he := he.2 c_9
        refine lv_iconst (v := (1 : Int32)) hx hb0 dX4_readSignedNumber_55 (by decide) ?_
        refine lv_goto (tgt := 60) hx hb0 dX4_readSignedNumber_56 (by decide) ?_
        exact gx_zret hx hb0 hr (by decide) hlocks hK hP hD hS he dX4_readSignedNumber_60
    · have he := he.1 c_7
      refine lv_iload_n hx hb0 dX4_readSignedNumber_41 rfl (lv_at hl 0 rfl) ?_
      refine lv_ineg hx hb0 dX4_readSignedNumber_42 ?_
      refine lv_goto (tgt := 47) hx hb0 dX4_readSignedNumber_43 (by decide) ?_
      refine gx_put hx hb0 hts in_RX4 tyX4 tyX4_ok nmX4 hown hK hP hD hS 3 (by decide) cE_t3 rfl 4 (by decide) fl_RX4_25 rfl (tyX4_ok 4 (by decide)) (Nat.le_of_ble_eq_true rfl) rfl dX4_readSignedNumber_47 (fun h_10 eh_10 H locs hP hD hS => ?_)
      have he := he h_10 eh_10
      refine lv_iload_n hx hb0 dX4_readSignedNumber_50 rfl (lv_at hl 0 rfl) ?_
      refine lv_iconst (v := (-1 : Int32)) hx hb0 dX4_readSignedNumber_51 (by decide) ?_
      refine lv_icmp_eq (tgt := 59) hx hb0 dX4_readSignedNumber_52 (by decide) (fun c_11 => ?_) (fun c_11 => ?_)
      · have he := he.1 c_11
        refine lv_iconst (v := (0 : Int32)) hx hb0 dX4_readSignedNumber_59 (by decide) ?_
        exact gx_zret hx hb0 hr (by decide) hlocks hK hP hD hS he dX4_readSignedNumber_60
      · have he := he.2 c_11
        refine lv_iconst (v := (1 : Int32)) hx hb0 dX4_readSignedNumber_55 (by decide) ?_
        refine lv_goto (tgt := 60) hx hb0 dX4_readSignedNumber_56 (by decide) ?_
        exact gx_zret hx hb0 hr (by decide) hlocks hK hP hD hS he dX4_readSignedNumber_60
  · have he := he.2 c_3
    refine lv_iload_n hx hb0 dX4_readSignedNumber_11 rfl (lv_at hl 0 rfl) ?_
    refine lv_bipush (v := (45 : Int32)) hx hb0 dX4_readSignedNumber_12 (by decide) ?_
    refine lv_icmp_eq (tgt := 19) hx hb0 dX4_readSignedNumber_14 (by decide) (fun c_12 => ?_) (fun c_12 => ?_)
    · have he := he.1 c_12
      refine lv_aload_n hx hb0 dX4_readSignedNumber_19 rfl (lv_at hl 1 rfl) ?_
      refine lv_dup hx hb0 dX4_readSignedNumber_20 rfl ?_
      refine gx_get hx hb0 hts in_RX4 hown hK hP 3 (by decide) (cE_t3 _) rfl 2 (by decide) fl_RX4_19 rfl dX4_readSignedNumber_21 ?_
      refine lv_iconst (v := (1 : Int32)) hx hb0 dX4_readSignedNumber_24 (by decide) ?_
      refine lv_iadd hx hb0 dX4_readSignedNumber_25 ?_
      refine gx_put hx hb0 hts in_RX4 tyX4 tyX4_ok nmX4 hown hK hP hD hS 3 (by decide) cE_t3 rfl 2 (by decide) fl_RX4_19 rfl (tyX4_ok 2 (by decide)) (Nat.le_of_ble_eq_true rfl) rfl dX4_readSignedNumber_26 (fun h_13 eh_13 H locs hP hD hS => ?_)
      have he := he h_13 eh_13
      refine lv_aload_n hx hb0 dX4_readSignedNumber_29 rfl (lv_at hl 1 rfl) ?_
      refine gx_vi ⟨hx, hb0, hml, hown, hts⟩ (gKC_keep _ _) hk hK hP hD hS 3 [] [] (c_X4_readNumber l dC dI P ad tb  h_13 _ he) gm_X4_readNumber im_yX4_readNumber se_yX4_readNumber ml_RX4_59 (by decide) (cE_t3 _) rfl rfl rfl ⟨Nat.le_of_ble_eq_true rfl, Nat.le_of_ble_eq_true rfl⟩ rfl hl.1 rfl (Nat.le_of_ble_eq_true rfl) dX4_readSignedNumber_30 ⟨Nat.zero_le _, Nat.zero_le _⟩ (fun r_14 h_15 he H locs hP hD hS => ?_)
      refine lv_istore_n (lv' := [(2, .int r_14), (1, .int r_1), (0, .ref (ad 3))]) hx hb0 dX4_readSignedNumber_33 rfl hl (by decide) rfl (fun ls hl => ?_)
      refine lv_aload_n hx hb0 dX4_readSignedNumber_34 rfl (lv_at hl 2 rfl) ?_
      refine lv_iload_n hx hb0 dX4_readSignedNumber_35 rfl (lv_at hl 1 rfl) ?_
      refine lv_bipush (v := (45 : Int32)) hx hb0 dX4_readSignedNumber_36 (by decide) ?_
      refine lv_icmp_ne (tgt := 46) hx hb0 dX4_readSignedNumber_38 (by decide) (fun c_16 => ?_) (fun c_16 => ?_)
      · have he := he.2 c_16
        refine lv_iload_n hx hb0 dX4_readSignedNumber_46 rfl (lv_at hl 0 rfl) ?_
        refine gx_put hx hb0 hts in_RX4 tyX4 tyX4_ok nmX4 hown hK hP hD hS 3 (by decide) cE_t3 rfl 4 (by decide) fl_RX4_25 rfl (tyX4_ok 4 (by decide)) (Nat.le_of_ble_eq_true rfl) rfl dX4_readSignedNumber_47 (fun h_17 eh_17 H locs hP hD hS => ?_)
        have he := he h_17 eh_17
        refine lv_iload_n hx hb0 dX4_readSignedNumber_50 rfl (lv_at hl 0 rfl) ?_
        refine lv_iconst (v := (-1 : Int32)) hx hb0 dX4_readSignedNumber_51 (by decide) ?_
        refine lv_icmp_eq (tgt := 59) hx hb0 dX4_readSignedNumber_52 (by decide) (fun c_18 => ?_) (fun c_18 => ?_)
        · have he := he.1 c_18
          refine lv_iconst (v := (0 : Int32)) hx hb0 dX4_readSignedNumber_59 (by decide) ?_
          exact gx_zret hx hb0 hr (by decide) hlocks hK hP hD hS he dX4_readSignedNumber_60
        · have he := he.2 c_18
          refine lv_iconst (v := (1 : Int32)) hx hb0 dX4_readSignedNumber_55 (by decide) ?_
          refine lv_goto (tgt := 60) hx hb0 dX4_readSignedNumber_56 (by decide) ?_
          exact gx_zret hx hb0 hr (by decide) hlocks hK hP hD hS he dX4_readSignedNumber_60
      · have he := he.1 c_16
        refine lv_iload_n hx hb0 dX4_readSignedNumber_41 rfl (lv_at hl 0 rfl) ?_
        refine lv_ineg hx hb0 dX4_readSignedNumber_42 ?_
        refine lv_goto (tgt := 47) hx hb0 dX4_readSignedNumber_43 (by decide) ?_
        refine gx_put hx hb0 hts in_RX4 tyX4 tyX4_ok nmX4 hown hK hP hD hS 3 (by decide) cE_t3 rfl 4 (by decide) fl_RX4_25 rfl (tyX4_ok 4 (by decide)) (Nat.le_of_ble_eq_true rfl) rfl dX4_readSignedNumber_47 (fun h_19 eh_19 H locs hP hD hS => ?_)
        have he := he h_19 eh_19
        refine lv_iload_n hx hb0 dX4_readSignedNumber_50 rfl (lv_at hl 0 rfl) ?_
        refine lv_iconst (v := (-1 : Int32)) hx hb0 dX4_readSignedNumber_51 (by decide) ?_
        refine lv_icmp_eq (tgt := 59) hx hb0 dX4_readSignedNumber_52 (by decide) (fun c_20 => ?_) (fun c_20 => ?_)
        · have he := he.1 c_20
          refine lv_iconst (v := (0 : Int32)) hx hb0 dX4_readSignedNumber_59 (by decide) ?_
          exact gx_zret hx hb0 hr (by decide) hlocks hK hP hD hS he dX4_readSignedNumber_60
        · have he := he.2 c_20
          refine lv_iconst (v := (1 : Int32)) hx hb0 dX4_readSignedNumber_55 (by decide) ?_
          refine lv_goto (tgt := 60) hx hb0 dX4_readSignedNumber_56 (by decide) ?_
          exact gx_zret hx hb0 hr (by decide) hlocks hK hP hD hS he dX4_readSignedNumber_60
    · have he := he.2 c_12
      refine lv_iconst (v := (0 : Int32)) hx hb0 dX4_readSignedNumber_17 (by decide) ?_
      exact gx_zret hx hb0 hr (by decide) hlocks hK hP hD hS he dX4_readSignedNumber_18
theorem gm_X4_readSignedNumber : gMeth yX4_readSignedNumber cX4_readSignedNumber 3 (some .boolean) 0 := ⟨⟨by decide, by decide, by decide +kernel⟩, ini_RX4, co_yX4_readSignedNumber⟩
abbrev rm_X4_readOrder : Room := { frames := 4, cells := 0, slots := 0, locals := 85 }
set_option maxHeartbeats 4000000 in
set_option maxRecDepth 100000 in
theorem c_X4_readOrder (l : Launch) (dC : Nat → ClassId) (dI : Nat → Nat → Nat) (P : gP) (ad : Nat → Nat) (tb : Nat → Nat) (h0 : Hp) (Q : Int32 → Hp → Prop) (he : F_X4_readOrder  h0 Q) : Met l yX4_readOrder (Cond.code yX4_readOrder cX4_readOrder 1 (some .boolean) :: TB) rm_X4_readOrder (gPc (dC, dI) vwCl (tyC P) 158 (cE P ad) ad (gKC tb (gA 158 ad)) h0 [.ref (ad 3)]) (gQi (dC, dI) vwCl (tyC P) 158 (cE P ad) ad Q) 0 0 (gA 158 ad) := by
  refine gx_start (by decide) (Nat.le_of_ble_eq_true rfl) (fun p e s m below meth c ls hx hb0 hr hlocks hml hown hts hK hk hP hD hS hl => ?_)
  have hl : lv_has ls 1 [(0, .ref (ad 3))] := hl
  have hown : s.vm.findClass RX4 = some m.cls := hown
  unfold F_X4_readOrder at he
  refine lv_aload_n hx hb0 dX4_readOrder_0 rfl (lv_at hl 0 rfl) ?_
  refine lv_aload_n hx hb0 dX4_readOrder_1 rfl (lv_at hl 0 rfl) ?_
  refine gx_vi ⟨hx, hb0, hml, hown, hts⟩ (gKC_keep _ _) hk hK hP hD hS 3 [] [.ref (ad 3)] (c_X4_nextSign l dC dI P ad tb  h0 _ he) gm_X4_nextSign im_yX4_nextSign se_yX4_nextSign ml_RX4_48 (by decide) (cE_t3 _) rfl rfl rfl ⟨Nat.le_of_ble_eq_true rfl, Nat.le_of_ble_eq_true rfl⟩ rfl hl.1 rfl (Nat.le_of_ble_eq_true rfl) dX4_readOrder_2 ⟨Nat.zero_le _, Nat.zero_le _⟩ (fun r_1 h_2 he H locs hP hD hS => ?_)
  refine gx_put hx hb0 hts in_RX4 tyX4 tyX4_ok nmX4 hown hK hP hD hS 3 (by decide) cE_t3 rfl 3 (by decide) fl_RX4_22 rfl (tyX4_ok 3 (by decide)) (Nat.le_of_ble_eq_true rfl) rfl dX4_readOrder_5 (fun h_3 eh_3 H locs hP hD hS => ?_)
  have he := he h_3 eh_3
  refine lv_aload_n hx hb0 dX4_readOrder_8 rfl (lv_at hl 0 rfl) ?_
  refine gx_get hx hb0 hts in_RX4 hown hK hP 3 (by decide) (cE_t3 _) rfl 3 (by decide) fl_RX4_22 rfl dX4_readOrder_9 ?_
  refine lv_topi (fun x_4 ex_4 => ?_)
  have he := he x_4 ex_4
  by_cases c_5 : x_4 = 42
  · have he := he.1 c_5
    refine lv_lookup (off := 167) (tgt := 179) hx hb0 dX4_readOrder_12 (by decide) (by rw [c_5]; rfl) (by decide) ?_
    refine lv_aload_n hx hb0 dX4_readOrder_179 rfl (lv_at hl 0 rfl) ?_
    refine lv_dup hx hb0 dX4_readOrder_180 rfl ?_
    refine gx_get hx hb0 hts in_RX4 hown hK hP 3 (by decide) (cE_t3 _) rfl 2 (by decide) fl_RX4_19 rfl dX4_readOrder_181 ?_
    refine lv_iconst (v := (1 : Int32)) hx hb0 dX4_readOrder_184 (by decide) ?_
    refine lv_iadd hx hb0 dX4_readOrder_185 ?_
    refine gx_put hx hb0 hts in_RX4 tyX4 tyX4_ok nmX4 hown hK hP hD hS 3 (by decide) cE_t3 rfl 2 (by decide) fl_RX4_19 rfl (tyX4_ok 2 (by decide)) (Nat.le_of_ble_eq_true rfl) rfl dX4_readOrder_186 (fun h_6 eh_6 H locs hP hD hS => ?_)
    have he := he h_6 eh_6
    refine lv_aload_n hx hb0 dX4_readOrder_189 rfl (lv_at hl 0 rfl) ?_
    refine gx_vi ⟨hx, hb0, hml, hown, hts⟩ (gKC_keep _ _) hk hK hP hD hS 3 [] [] (c_X4_readSignedNumber l dC dI P ad tb  h_6 _ he) gm_X4_readSignedNumber im_yX4_readSignedNumber se_yX4_readSignedNumber ml_RX4_62 (by decide) (cE_t3 _) rfl rfl rfl ⟨Nat.le_of_ble_eq_true rfl, Nat.le_of_ble_eq_true rfl⟩ rfl hl.1 rfl (Nat.le_of_ble_eq_true rfl) dX4_readOrder_190 ⟨Nat.zero_le _, Nat.zero_le _⟩ (fun r_7 h_8 he H locs hP hD hS => ?_)
    obtain ⟨z_9, he⟩ := he
    exact gx_zret hx hb0 hr z_9 hlocks hK hP hD hS he dX4_readOrder_193
  have he := he.2 c_5
  by_cases c_10 : x_4 = 99
  · have he := he.1 c_10
    refine lv_lookup (off := 88) (tgt := 100) hx hb0 dX4_readOrder_12 (by decide) (by rw [c_10]; rfl) (by decide) ?_
    refine lv_aload_n hx hb0 dX4_readOrder_100 rfl (lv_at hl 0 rfl) ?_
    refine lv_dup hx hb0 dX4_readOrder_101 rfl ?_
    refine gx_get hx hb0 hts in_RX4 hown hK hP 3 (by decide) (cE_t3 _) rfl 2 (by decide) fl_RX4_19 rfl dX4_readOrder_102 ?_
    refine lv_iconst (v := (1 : Int32)) hx hb0 dX4_readOrder_105 (by decide) ?_
    refine lv_iadd hx hb0 dX4_readOrder_106 ?_
    refine gx_put hx hb0 hts in_RX4 tyX4 tyX4_ok nmX4 hown hK hP hD hS 3 (by decide) cE_t3 rfl 2 (by decide) fl_RX4_19 rfl (tyX4_ok 2 (by decide)) (Nat.le_of_ble_eq_true rfl) rfl dX4_readOrder_107 (fun h_11 eh_11 H locs hP hD hS => ?_)
    have he := he h_11 eh_11
    refine lv_aload_n hx hb0 dX4_readOrder_110 rfl (lv_at hl 0 rfl) ?_
    refine lv_aload_n hx hb0 dX4_readOrder_111 rfl (lv_at hl 0 rfl) ?_
    refine gx_vi ⟨hx, hb0, hml, hown, hts⟩ (gKC_keep _ _) hk hK hP hD hS 3 [] [.ref (ad 3)] (c_X4_readDigit l dC dI P ad tb  h_11 _ he) gm_X4_readDigit im_yX4_readDigit se_yX4_readDigit ml_RX4_52 (by decide) (cE_t3 _) rfl rfl rfl ⟨Nat.le_of_ble_eq_true rfl, Nat.le_of_ble_eq_true rfl⟩ rfl hl.1 rfl (Nat.le_of_ble_eq_true rfl) dX4_readOrder_112 ⟨Nat.zero_le _, Nat.zero_le _⟩ (fun r_12 h_13 he H locs hP hD hS => ?_)
    refine gx_put hx hb0 hts in_RX4 tyX4 tyX4_ok nmX4 hown hK hP hD hS 3 (by decide) cE_t3 rfl 4 (by decide) fl_RX4_25 rfl (tyX4_ok 4 (by decide)) (Nat.le_of_ble_eq_true rfl) rfl dX4_readOrder_115 (fun h_14 eh_14 H locs hP hD hS => ?_)
    have he := he h_14 eh_14
    refine lv_aload_n hx hb0 dX4_readOrder_118 rfl (lv_at hl 0 rfl) ?_
    refine gx_get hx hb0 hts in_RX4 hown hK hP 3 (by decide) (cE_t3 _) rfl 4 (by decide) fl_RX4_25 rfl dX4_readOrder_119 ?_
    refine lv_iconst (v := (-1 : Int32)) hx hb0 dX4_readOrder_122 (by decide) ?_
    refine lv_icmp_eq (tgt := 130) hx hb0 dX4_readOrder_123 (by decide) (fun c_15 => ?_) (fun c_15 => ?_)
    · have he := he.1 c_15
      refine lv_iconst (v := (0 : Int32)) hx hb0 dX4_readOrder_130 (by decide) ?_
      exact gx_zret hx hb0 hr (by decide) hlocks hK hP hD hS he dX4_readOrder_131
    · have he := he.2 c_15
      refine lv_iconst (v := (1 : Int32)) hx hb0 dX4_readOrder_126 (by decide) ?_
      refine lv_goto (tgt := 131) hx hb0 dX4_readOrder_127 (by decide) ?_
      exact gx_zret hx hb0 hr (by decide) hlocks hK hP hD hS he dX4_readOrder_131
  have he := he.2 c_10
  by_cases c_16 : x_4 = 103
  · have he := he.1 c_16
    refine lv_lookup (off := 167) (tgt := 179) hx hb0 dX4_readOrder_12 (by decide) (by rw [c_16]; rfl) (by decide) ?_
    refine lv_aload_n hx hb0 dX4_readOrder_179 rfl (lv_at hl 0 rfl) ?_
    refine lv_dup hx hb0 dX4_readOrder_180 rfl ?_
    refine gx_get hx hb0 hts in_RX4 hown hK hP 3 (by decide) (cE_t3 _) rfl 2 (by decide) fl_RX4_19 rfl dX4_readOrder_181 ?_
    refine lv_iconst (v := (1 : Int32)) hx hb0 dX4_readOrder_184 (by decide) ?_
    refine lv_iadd hx hb0 dX4_readOrder_185 ?_
    refine gx_put hx hb0 hts in_RX4 tyX4 tyX4_ok nmX4 hown hK hP hD hS 3 (by decide) cE_t3 rfl 2 (by decide) fl_RX4_19 rfl (tyX4_ok 2 (by decide)) (Nat.le_of_ble_eq_true rfl) rfl dX4_readOrder_186 (fun h_17 eh_17 H locs hP hD hS => ?_)
    have he := he h_17 eh_17
    refine lv_aload_n hx hb0 dX4_readOrder_189 rfl (lv_at hl 0 rfl) ?_
    refine gx_vi ⟨hx, hb0, hml, hown, hts⟩ (gKC_keep _ _) hk hK hP hD hS 3 [] [] (c_X4_readSignedNumber l dC dI P ad tb  h_17 _ he) gm_X4_readSignedNumber im_yX4_readSignedNumber se_yX4_readSignedNumber ml_RX4_62 (by decide) (cE_t3 _) rfl rfl rfl ⟨Nat.le_of_ble_eq_true rfl, Nat.le_of_ble_eq_true rfl⟩ rfl hl.1 rfl (Nat.le_of_ble_eq_true rfl) dX4_readOrder_190 ⟨Nat.zero_le _, Nat.zero_le _⟩ (fun r_18 h_19 he H locs hP hD hS => ?_)
    obtain ⟨z_20, he⟩ := he
    exact gx_zret hx hb0 hr z_20 hlocks hK hP hD hS he dX4_readOrder_193
  have he := he.2 c_16
  by_cases c_21 : x_4 = 109
  · have he := he.1 c_21
    refine lv_lookup (off := 76) (tgt := 88) hx hb0 dX4_readOrder_12 (by decide) (by rw [c_21]; rfl) (by decide) ?_
    refine lv_aload_n hx hb0 dX4_readOrder_88 rfl (lv_at hl 0 rfl) ?_
    refine lv_dup hx hb0 dX4_readOrder_89 rfl ?_
    refine gx_get hx hb0 hts in_RX4 hown hK hP 3 (by decide) (cE_t3 _) rfl 2 (by decide) fl_RX4_19 rfl dX4_readOrder_90 ?_
    refine lv_iconst (v := (1 : Int32)) hx hb0 dX4_readOrder_93 (by decide) ?_
    refine lv_iadd hx hb0 dX4_readOrder_94 ?_
    refine gx_put hx hb0 hts in_RX4 tyX4 tyX4_ok nmX4 hown hK hP hD hS 3 (by decide) cE_t3 rfl 2 (by decide) fl_RX4_19 rfl (tyX4_ok 2 (by decide)) (Nat.le_of_ble_eq_true rfl) rfl dX4_readOrder_95 (fun h_22 eh_22 H locs hP hD hS => ?_)
    have he := he h_22 eh_22
    refine lv_iconst (v := (1 : Int32)) hx hb0 dX4_readOrder_98 (by decide) ?_
    exact gx_zret hx hb0 hr (by decide) hlocks hK hP hD hS he dX4_readOrder_99
  have he := he.2 c_21
  by_cases c_23 : x_4 = 110
  · have he := he.1 c_23
    refine lv_lookup (off := 76) (tgt := 88) hx hb0 dX4_readOrder_12 (by decide) (by rw [c_23]; rfl) (by decide) ?_
    refine lv_aload_n hx hb0 dX4_readOrder_88 rfl (lv_at hl 0 rfl) ?_
    refine lv_dup hx hb0 dX4_readOrder_89 rfl ?_
    refine gx_get hx hb0 hts in_RX4 hown hK hP 3 (by decide) (cE_t3 _) rfl 2 (by decide) fl_RX4_19 rfl dX4_readOrder_90 ?_
    refine lv_iconst (v := (1 : Int32)) hx hb0 dX4_readOrder_93 (by decide) ?_
    refine lv_iadd hx hb0 dX4_readOrder_94 ?_
    refine gx_put hx hb0 hts in_RX4 tyX4 tyX4_ok nmX4 hown hK hP hD hS 3 (by decide) cE_t3 rfl 2 (by decide) fl_RX4_19 rfl (tyX4_ok 2 (by decide)) (Nat.le_of_ble_eq_true rfl) rfl dX4_readOrder_95 (fun h_24 eh_24 H locs hP hD hS => ?_)
    have he := he h_24 eh_24
    refine lv_iconst (v := (1 : Int32)) hx hb0 dX4_readOrder_98 (by decide) ?_
    exact gx_zret hx hb0 hr (by decide) hlocks hK hP hD hS he dX4_readOrder_99
  have he := he.2 c_23
  by_cases c_25 : x_4 = 111
  · have he := he.1 c_25
    refine lv_lookup (off := 120) (tgt := 132) hx hb0 dX4_readOrder_12 (by decide) (by rw [c_25]; rfl) (by decide) ?_
    refine lv_aload_n hx hb0 dX4_readOrder_132 rfl (lv_at hl 0 rfl) ?_
    refine lv_dup hx hb0 dX4_readOrder_133 rfl ?_
    refine gx_get hx hb0 hts in_RX4 hown hK hP 3 (by decide) (cE_t3 _) rfl 2 (by decide) fl_RX4_19 rfl dX4_readOrder_134 ?_
    refine lv_iconst (v := (1 : Int32)) hx hb0 dX4_readOrder_137 (by decide) ?_
    refine lv_iadd hx hb0 dX4_readOrder_138 ?_
    refine gx_put hx hb0 hts in_RX4 tyX4 tyX4_ok nmX4 hown hK hP hD hS 3 (by decide) cE_t3 rfl 2 (by decide) fl_RX4_19 rfl (tyX4_ok 2 (by decide)) (Nat.le_of_ble_eq_true rfl) rfl dX4_readOrder_139 (fun h_26 eh_26 H locs hP hD hS => ?_)
    have he := he h_26 eh_26
    refine lv_aload_n hx hb0 dX4_readOrder_142 rfl (lv_at hl 0 rfl) ?_
    refine gx_vi ⟨hx, hb0, hml, hown, hts⟩ (gKC_keep _ _) hk hK hP hD hS 3 [] [] (c_X4_readTwoDigits l dC dI P ad tb  h_26 _ he) gm_X4_readTwoDigits im_yX4_readTwoDigits se_yX4_readTwoDigits ml_RX4_56 (by decide) (cE_t3 _) rfl rfl rfl ⟨Nat.le_of_ble_eq_true rfl, Nat.le_of_ble_eq_true rfl⟩ rfl hl.1 rfl (Nat.le_of_ble_eq_true rfl) dX4_readOrder_143 ⟨Nat.zero_le _, Nat.zero_le _⟩ (fun r_27 h_28 he H locs hP hD hS => ?_)
    obtain ⟨z_29, he⟩ := he
    exact gx_zret hx hb0 hr z_29 hlocks hK hP hD hS he dX4_readOrder_146
  have he := he.2 c_25
  by_cases c_30 : x_4 = 115
  · have he := he.1 c_30
    refine lv_lookup (off := 135) (tgt := 147) hx hb0 dX4_readOrder_12 (by decide) (by rw [c_30]; rfl) (by decide) ?_
    refine lv_aload_n hx hb0 dX4_readOrder_147 rfl (lv_at hl 0 rfl) ?_
    refine lv_dup hx hb0 dX4_readOrder_148 rfl ?_
    refine gx_get hx hb0 hts in_RX4 hown hK hP 3 (by decide) (cE_t3 _) rfl 2 (by decide) fl_RX4_19 rfl dX4_readOrder_149 ?_
    refine lv_iconst (v := (1 : Int32)) hx hb0 dX4_readOrder_152 (by decide) ?_
    refine lv_iadd hx hb0 dX4_readOrder_153 ?_
    refine gx_put hx hb0 hts in_RX4 tyX4 tyX4_ok nmX4 hown hK hP hD hS 3 (by decide) cE_t3 rfl 2 (by decide) fl_RX4_19 rfl (tyX4_ok 2 (by decide)) (Nat.le_of_ble_eq_true rfl) rfl dX4_readOrder_154 (fun h_31 eh_31 H locs hP hD hS => ?_)
    have he := he h_31 eh_31
    refine lv_aload_n hx hb0 dX4_readOrder_157 rfl (lv_at hl 0 rfl) ?_
    refine lv_aload_n hx hb0 dX4_readOrder_158 rfl (lv_at hl 0 rfl) ?_
    refine gx_vi ⟨hx, hb0, hml, hown, hts⟩ (gKC_keep _ _) hk hK hP hD hS 3 [] [.ref (ad 3)] (c_X4_readNumber l dC dI P ad tb  h_31 _ he) gm_X4_readNumber im_yX4_readNumber se_yX4_readNumber ml_RX4_59 (by decide) (cE_t3 _) rfl rfl rfl ⟨Nat.le_of_ble_eq_true rfl, Nat.le_of_ble_eq_true rfl⟩ rfl hl.1 rfl (Nat.le_of_ble_eq_true rfl) dX4_readOrder_159 ⟨Nat.zero_le _, Nat.zero_le _⟩ (fun r_32 h_33 he H locs hP hD hS => ?_)
    refine gx_put hx hb0 hts in_RX4 tyX4 tyX4_ok nmX4 hown hK hP hD hS 3 (by decide) cE_t3 rfl 4 (by decide) fl_RX4_25 rfl (tyX4_ok 4 (by decide)) (Nat.le_of_ble_eq_true rfl) rfl dX4_readOrder_162 (fun h_34 eh_34 H locs hP hD hS => ?_)
    have he := he h_34 eh_34
    refine lv_aload_n hx hb0 dX4_readOrder_165 rfl (lv_at hl 0 rfl) ?_
    refine gx_get hx hb0 hts in_RX4 hown hK hP 3 (by decide) (cE_t3 _) rfl 4 (by decide) fl_RX4_25 rfl dX4_readOrder_166 ?_
    refine lv_iconst (v := (-1 : Int32)) hx hb0 dX4_readOrder_169 (by decide) ?_
    refine lv_icmp_eq (tgt := 177) hx hb0 dX4_readOrder_170 (by decide) (fun c_35 => ?_) (fun c_35 => ?_)
    · have he := he.1 c_35
      refine lv_iconst (v := (0 : Int32)) hx hb0 dX4_readOrder_177 (by decide) ?_
      exact gx_zret hx hb0 hr (by decide) hlocks hK hP hD hS he dX4_readOrder_178
    · have he := he.2 c_35
      refine lv_iconst (v := (1 : Int32)) hx hb0 dX4_readOrder_173 (by decide) ?_
      refine lv_goto (tgt := 178) hx hb0 dX4_readOrder_174 (by decide) ?_
      exact gx_zret hx hb0 hr (by decide) hlocks hK hP hD hS he dX4_readOrder_178
  have he := he.2 c_30
  by_cases c_36 : x_4 = 122
  · have he := he.1 c_36
    refine lv_lookup (off := 88) (tgt := 100) hx hb0 dX4_readOrder_12 (by decide) (by rw [c_36]; rfl) (by decide) ?_
    refine lv_aload_n hx hb0 dX4_readOrder_100 rfl (lv_at hl 0 rfl) ?_
    refine lv_dup hx hb0 dX4_readOrder_101 rfl ?_
    refine gx_get hx hb0 hts in_RX4 hown hK hP 3 (by decide) (cE_t3 _) rfl 2 (by decide) fl_RX4_19 rfl dX4_readOrder_102 ?_
    refine lv_iconst (v := (1 : Int32)) hx hb0 dX4_readOrder_105 (by decide) ?_
    refine lv_iadd hx hb0 dX4_readOrder_106 ?_
    refine gx_put hx hb0 hts in_RX4 tyX4 tyX4_ok nmX4 hown hK hP hD hS 3 (by decide) cE_t3 rfl 2 (by decide) fl_RX4_19 rfl (tyX4_ok 2 (by decide)) (Nat.le_of_ble_eq_true rfl) rfl dX4_readOrder_107 (fun h_37 eh_37 H locs hP hD hS => ?_)
    have he := he h_37 eh_37
    refine lv_aload_n hx hb0 dX4_readOrder_110 rfl (lv_at hl 0 rfl) ?_
    refine lv_aload_n hx hb0 dX4_readOrder_111 rfl (lv_at hl 0 rfl) ?_
    refine gx_vi ⟨hx, hb0, hml, hown, hts⟩ (gKC_keep _ _) hk hK hP hD hS 3 [] [.ref (ad 3)] (c_X4_readDigit l dC dI P ad tb  h_37 _ he) gm_X4_readDigit im_yX4_readDigit se_yX4_readDigit ml_RX4_52 (by decide) (cE_t3 _) rfl rfl rfl ⟨Nat.le_of_ble_eq_true rfl, Nat.le_of_ble_eq_true rfl⟩ rfl hl.1 rfl (Nat.le_of_ble_eq_true rfl) dX4_readOrder_112 ⟨Nat.zero_le _, Nat.zero_le _⟩ (fun r_38 h_39 he H locs hP hD hS => ?_)
    refine gx_put hx hb0 hts in_RX4 tyX4 tyX4_ok nmX4 hown hK hP hD hS 3 (by decide) cE_t3 rfl 4 (by decide) fl_RX4_25 rfl (tyX4_ok 4 (by decide)) (Nat.le_of_ble_eq_true rfl) rfl dX4_readOrder_115 (fun h_40 eh_40 H locs hP hD hS => ?_)
    have he := he h_40 eh_40
    refine lv_aload_n hx hb0 dX4_readOrder_118 rfl (lv_at hl 0 rfl) ?_
    refine gx_get hx hb0 hts in_RX4 hown hK hP 3 (by decide) (cE_t3 _) rfl 4 (by decide) fl_RX4_25 rfl dX4_readOrder_119 ?_
    refine lv_iconst (v := (-1 : Int32)) hx hb0 dX4_readOrder_122 (by decide) ?_
    refine lv_icmp_eq (tgt := 130) hx hb0 dX4_readOrder_123 (by decide) (fun c_41 => ?_) (fun c_41 => ?_)
    · have he := he.1 c_41
      refine lv_iconst (v := (0 : Int32)) hx hb0 dX4_readOrder_130 (by decide) ?_
      exact gx_zret hx hb0 hr (by decide) hlocks hK hP hD hS he dX4_readOrder_131
    · have he := he.2 c_41
      refine lv_iconst (v := (1 : Int32)) hx hb0 dX4_readOrder_126 (by decide) ?_
      refine lv_goto (tgt := 131) hx hb0 dX4_readOrder_127 (by decide) ?_
      exact gx_zret hx hb0 hr (by decide) hlocks hK hP hD hS he dX4_readOrder_131
  have he := he.2 c_36
  refine lv_lookup (off := 182) (tgt := 194) hx hb0 dX4_readOrder_12 (by decide) ((lv_osw c_5 rfl).trans ((lv_osw c_10 rfl).trans ((lv_osw c_16 rfl).trans ((lv_osw c_21 rfl).trans ((lv_osw c_23 rfl).trans ((lv_osw c_25 rfl).trans ((lv_osw c_30 rfl).trans ((lv_osw c_36 rfl).trans rfl)))))))) (by decide) ?_
  refine lv_iconst (v := (0 : Int32)) hx hb0 dX4_readOrder_194 (by decide) ?_
  exact gx_zret hx hb0 hr (by decide) hlocks hK hP hD hS he dX4_readOrder_195
theorem gm_X4_readOrder : gMeth yX4_readOrder cX4_readOrder 1 (some .boolean) 0 := ⟨⟨by decide, by decide, by decide +kernel⟩, ini_RX4, co_yX4_readOrder⟩
abbrev rm_X4_findFault : Room := { frames := 5, cells := 0, slots := 0, locals := 105 }
set_option maxHeartbeats 4000000 in
set_option maxRecDepth 100000 in
theorem l_X4_findFault_6 (l : Launch) (dC : Nat → ClassId) (dI : Nat → Nat → Nat) (P : gP) (ad : Nat → Nat) (tb : Nat → Nat) {p : Program} {e : Env} {s : State} {m : MethodId} {args : Array Value} {below : List Frame} {meth : Method} {c : Code} (hx : p.tables.exec = Jvm.exec) (hb0 : c.code = cX4_findFault) (hr : meth.sig.returnType = (some .int)) (hlocks : meth.locks = false) (hml : c.maxLocals = 2) (hown : s.vm.findClass RX4 = some m.cls) (hts : ∀ w ∈ TB, w.before args s = true) (hK : va_K (dC, dI) vwCl (tyC P) s) (hk : (gKC tb (gA 158 ad)) s) (Q : Int32 → Hp → Prop) : ∀ (n : Nat) (y1 : Int32) (h0 : Hp), F_X4_findFault_L6  n y1 h0 Q → ∀ (H : Heap) (locs : List Loc) (ls : Array Slot), va_P (dC, dI) vwCl (gW 158 (cE P ad) ad h0) H → va_D (gA 158 ad) (gW 158 (cE P ad) ad h0) → va_S (gA 158 ad) s.heap H locs → lv_has ls 2 [(0, .ref (ad 3)), (1, .int y1)] → W p l e rm_X4_findFault s m args below meth c H locs 0 0 (MQ below (gQi (dC, dI) vwCl (tyC P) 158 (cE P ad) ad Q) args s 0 0 (gA 158 ad)) (F0 m 6 ls []) := by
  intro n
  induction n with
  | zero =>
    intro y1 h0 he
    exact he.elim
  | succ n ih =>
    intro y1 h0 he H locs ls hP hD hS hl
    rw [F_X4_findFault_L6] at he
    refine lv_iload_n hx hb0 dX4_findFault_6 rfl (lv_at hl 1 rfl) ?_
    refine lv_bipush (v := (80 : Int32)) hx hb0 dX4_findFault_7 (by decide) ?_
    refine lv_icmp_ge (tgt := 68) hx hb0 dX4_findFault_9 (by decide) (fun c_3 => ?_) (fun c_3 => ?_)
    · have he := he.1 c_3
      refine lv_aload_n hx hb0 dX4_findFault_68 rfl (lv_at hl 0 rfl) ?_
      refine gx_get hx hb0 hts in_RX4 hown hK hP 3 (by decide) (cE_t3 _) rfl 2 (by decide) fl_RX4_19 rfl dX4_findFault_69 ?_
      exact gx_iret hx hb0 hr hlocks hK hP hD hS he dX4_findFault_72
    · have he := he.2 c_3
      refine lv_aload_n hx hb0 dX4_findFault_12 rfl (lv_at hl 0 rfl) ?_
      refine gx_vi ⟨hx, hb0, hml, hown, hts⟩ (gKC_keep _ _) hk hK hP hD hS 3 [] [] (c_X4_readOrder l dC dI P ad tb  h0 _ he) gm_X4_readOrder im_yX4_readOrder se_yX4_readOrder ml_RX4_44 (by decide) (cE_t3 _) rfl rfl rfl ⟨Nat.le_of_ble_eq_true rfl, Nat.le_of_ble_eq_true rfl⟩ rfl hl.1 rfl (Nat.le_of_ble_eq_true rfl) dX4_findFault_13 ⟨Nat.zero_le _, Nat.zero_le _⟩ (fun r_4 h_5 he H locs hP hD hS => ?_)
      refine lv_if_eq (tgt := 68) hx hb0 dX4_findFault_16 (by decide) (fun c_6 => ?_) (fun c_6 => ?_)
      · have he := he.1 c_6
        refine lv_aload_n hx hb0 dX4_findFault_68 rfl (lv_at hl 0 rfl) ?_
        refine gx_get hx hb0 hts in_RX4 hown hK hP 3 (by decide) (cE_t3 _) rfl 2 (by decide) fl_RX4_19 rfl dX4_findFault_69 ?_
        exact gx_iret hx hb0 hr hlocks hK hP hD hS he dX4_findFault_72
      · have he := he.2 c_6
        refine lv_aload_n hx hb0 dX4_findFault_19 rfl (lv_at hl 0 rfl) ?_
        refine gx_get hx hb0 hts in_RX4 hown hK hP 3 (by decide) (cE_t3 _) rfl 2 (by decide) fl_RX4_19 rfl dX4_findFault_20 ?_
        refine lv_aload_n hx hb0 dX4_findFault_23 rfl (lv_at hl 0 rfl) ?_
        refine gx_get hx hb0 hts in_RX4 hown hK hP 3 (by decide) (cE_t3 _) rfl 1 (by decide) fl_RX4_15 rfl dX4_findFault_24 ?_
        refine lv_icmp_lt (tgt := 33) hx hb0 dX4_findFault_27 (by decide) (fun c_7 => ?_) (fun c_7 => ?_)
        · have he := he.1 c_7
          refine lv_aload_n hx hb0 dX4_findFault_33 rfl (lv_at hl 0 rfl) ?_
          refine gx_get hx hb0 hts in_RX4 hown hK hP 3 (by decide) (cE_t3 _) rfl 0 (by decide) fl_RX4_11 rfl dX4_findFault_34 ?_
          refine lv_aload_n hx hb0 dX4_findFault_37 rfl (lv_at hl 0 rfl) ?_
          refine gx_get hx hb0 hts in_RX4 hown hK hP 3 (by decide) (cE_t3 _) rfl 2 (by decide) fl_RX4_19 rfl dX4_findFault_38 ?_
          obtain ⟨v_8, he⟩ := he
          refine gx_cald hx hb0 hK hP 4 1 (by decide) cE_t4 rfl v_8 dX4_findFault_41 ?_
          refine lv_bipush (v := (59 : Int32)) hx hb0 dX4_findFault_42 (by decide) ?_
          refine lv_icmp_eq (tgt := 52) hx hb0 dX4_findFault_44 (by decide) (fun c_9 => ?_) (fun c_9 => ?_)
          · have he := he.1 c_9
            refine lv_aload_n hx hb0 dX4_findFault_52 rfl (lv_at hl 0 rfl) ?_
            refine lv_dup hx hb0 dX4_findFault_53 rfl ?_
            refine gx_get hx hb0 hts in_RX4 hown hK hP 3 (by decide) (cE_t3 _) rfl 2 (by decide) fl_RX4_19 rfl dX4_findFault_54 ?_
            refine lv_iconst (v := (1 : Int32)) hx hb0 dX4_findFault_57 (by decide) ?_
            refine lv_iadd hx hb0 dX4_findFault_58 ?_
            refine gx_put hx hb0 hts in_RX4 tyX4 tyX4_ok nmX4 hown hK hP hD hS 3 (by decide) cE_t3 rfl 2 (by decide) fl_RX4_19 rfl (tyX4_ok 2 (by decide)) (Nat.le_of_ble_eq_true rfl) rfl dX4_findFault_59 (fun h_10 eh_10 H locs hP hD hS => ?_)
            have he := he h_10 eh_10
            obtain ⟨x_11, ex_11⟩ : ∃ y : Int32, y = y1 + 1 := ⟨_, rfl⟩
            have he := he x_11 ex_11
            refine lv_iinc (v := x_11) (lv' := [(1, .int x_11), (0, .ref (ad 3))]) hx hb0 dX4_findFault_62 hl (k := 1) rfl (by rw [ex_11]; rfl) (by decide) rfl (fun ls hl => ?_)
            refine lv_goto (tgt := 6) hx hb0 dX4_findFault_65 (by decide) ?_
            exact ih x_11 h_10 he _ _ ls hP hD hS (lv_sub hl [1, 0] rfl)
          · have he := he.2 c_9
            refine lv_aload_n hx hb0 dX4_findFault_47 rfl (lv_at hl 0 rfl) ?_
            refine gx_get hx hb0 hts in_RX4 hown hK hP 3 (by decide) (cE_t3 _) rfl 2 (by decide) fl_RX4_19 rfl dX4_findFault_48 ?_
            exact gx_iret hx hb0 hr hlocks hK hP hD hS he dX4_findFault_51
        · have he := he.2 c_7
          refine lv_bipush (v := (-6 : Int32)) hx hb0 dX4_findFault_30 (by decide) ?_
          exact gx_iret hx hb0 hr hlocks hK hP hD hS he dX4_findFault_32
set_option maxHeartbeats 4000000 in
set_option maxRecDepth 100000 in
theorem c_X4_findFault (l : Launch) (dC : Nat → ClassId) (dI : Nat → Nat → Nat) (P : gP) (ad : Nat → Nat) (tb : Nat → Nat) (h0 : Hp) (Q : Int32 → Hp → Prop) (he : F_X4_findFault  h0 Q) : Met l yX4_findFault (Cond.code yX4_findFault cX4_findFault 2 (some .int) :: TB) rm_X4_findFault (gPc (dC, dI) vwCl (tyC P) 158 (cE P ad) ad (gKC tb (gA 158 ad)) h0 [.ref (ad 3)]) (gQi (dC, dI) vwCl (tyC P) 158 (cE P ad) ad Q) 0 0 (gA 158 ad) := by
  refine gx_start (by decide) (Nat.le_of_ble_eq_true rfl) (fun p e s m below meth c ls hx hb0 hr hlocks hml hown hts hK hk hP hD hS hl => ?_)
  have hl : lv_has ls 2 [(0, .ref (ad 3))] := hl
  have hown : s.vm.findClass RX4 = some m.cls := hown
  unfold F_X4_findFault at he
  refine lv_aload_n hx hb0 dX4_findFault_0 rfl (lv_at hl 0 rfl) ?_
  refine gx_vv ⟨hx, hb0, hml, hown, hts⟩ (gKC_keep _ _) hk hK hP hD hS 3 [] [] (c_X4_startReading l dC dI P ad tb  h0 _ he) gm_X4_startReading im_yX4_startReading se_yX4_startReading ml_RX4_41 (by decide) (cE_t3 _) rfl rfl rfl ⟨Nat.le_of_ble_eq_true rfl, Nat.le_of_ble_eq_true rfl⟩ rfl hl.1 rfl (Nat.le_of_ble_eq_true rfl) dX4_findFault_1 ⟨Nat.zero_le _, Nat.zero_le _⟩ (fun h_2 he H locs hP hD hS => ?_)
  refine lv_iconst (v := (0 : Int32)) hx hb0 dX4_findFault_4 (by decide) ?_
  refine lv_istore_n (lv' := [(1, .int (0 : Int32)), (0, .ref (ad 3))]) hx hb0 dX4_findFault_5 rfl hl (by decide) rfl (fun ls hl => ?_)
  obtain ⟨n_12, he⟩ := he
  exact l_X4_findFault_6 l dC dI P ad tb  hx hb0 hr hlocks hml hown hts hK hk Q n_12 (0 : Int32) h_2 he _ _ ls hP hD hS (lv_sub hl [1, 0] rfl)
theorem gm_X4_findFault : gMeth yX4_findFault cX4_findFault 2 (some .int) 0 := ⟨⟨by decide, by decide, by decide +kernel⟩, ini_RX4, co_yX4_findFault⟩
abbrev rm_X4_skipSemicolon : Room := { frames := 1, cells := 0, slots := 0, locals := 20 }
set_option maxHeartbeats 4000000 in
set_option maxRecDepth 100000 in
theorem c_X4_skipSemicolon (l : Launch) (dC : Nat → ClassId) (dI : Nat → Nat → Nat) (P : gP) (ad : Nat → Nat) (tb : Nat → Nat) (h0 : Hp) (Q : Hp → Prop) (he : F_X4_skipSemicolon  h0 Q) : Met l yX4_skipSemicolon (Cond.code yX4_skipSemicolon cX4_skipSemicolon 1 none :: TB) rm_X4_skipSemicolon (gPc (dC, dI) vwCl (tyC P) 158 (cE P ad) ad (gKC tb (gA 158 ad)) h0 [.ref (ad 3)]) (gQv (dC, dI) vwCl (tyC P) 158 (cE P ad) ad Q) 0 0 (gA 158 ad) := by
  refine gx_start (by decide) (Nat.le_of_ble_eq_true rfl) (fun p e s m below meth c ls hx hb0 hr hlocks hml hown hts hK hk hP hD hS hl => ?_)
  have hl : lv_has ls 1 [(0, .ref (ad 3))] := hl
  have hown : s.vm.findClass RX4 = some m.cls := hown
  unfold F_X4_skipSemicolon at he
  refine lv_aload_n hx hb0 dX4_skipSemicolon_0 rfl (lv_at hl 0 rfl) ?_
  refine gx_vi ⟨hx, hb0, hml, hown, hts⟩ (gKC_keep _ _) hk hK hP hD hS 3 [] [] (c_X4_nextSign l dC dI P ad tb  h0 _ he) gm_X4_nextSign im_yX4_nextSign se_yX4_nextSign ml_RX4_48 (by decide) (cE_t3 _) rfl rfl rfl ⟨Nat.le_of_ble_eq_true rfl, Nat.le_of_ble_eq_true rfl⟩ rfl hl.1 rfl (Nat.le_of_ble_eq_true rfl) dX4_skipSemicolon_1 ⟨Nat.zero_le _, Nat.zero_le _⟩ (fun r_1 h_2 he H locs hP hD hS => ?_)
  refine lv_bipush (v := (59 : Int32)) hx hb0 dX4_skipSemicolon_4 (by decide) ?_
  refine lv_icmp_ne (tgt := 19) hx hb0 dX4_skipSemicolon_6 (by decide) (fun c_3 => ?_) (fun c_3 => ?_)
  · have he := he.2 c_3
    exact gx_vret hx hb0 hr hlocks hK hP hD hS he dX4_skipSemicolon_19
  · have he := he.1 c_3
    refine lv_aload_n hx hb0 dX4_skipSemicolon_9 rfl (lv_at hl 0 rfl) ?_
    refine lv_dup hx hb0 dX4_skipSemicolon_10 rfl ?_
    refine gx_get hx hb0 hts in_RX4 hown hK hP 3 (by decide) (cE_t3 _) rfl 2 (by decide) fl_RX4_19 rfl dX4_skipSemicolon_11 ?_
    refine lv_iconst (v := (1 : Int32)) hx hb0 dX4_skipSemicolon_14 (by decide) ?_
    refine lv_iadd hx hb0 dX4_skipSemicolon_15 ?_
    refine gx_put hx hb0 hts in_RX4 tyX4 tyX4_ok nmX4 hown hK hP hD hS 3 (by decide) cE_t3 rfl 2 (by decide) fl_RX4_19 rfl (tyX4_ok 2 (by decide)) (Nat.le_of_ble_eq_true rfl) rfl dX4_skipSemicolon_16 (fun h_4 eh_4 H locs hP hD hS => ?_)
    have he := he h_4 eh_4
    exact gx_vret hx hb0 hr hlocks hK hP hD hS he dX4_skipSemicolon_19
theorem gm_X4_skipSemicolon : gMeth yX4_skipSemicolon cX4_skipSemicolon 1 none 0 := ⟨⟨by decide, by decide, by decide +kernel⟩, ini_RX4, co_yX4_skipSemicolon⟩
