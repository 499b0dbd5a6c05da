abbrev rm_L_told : Room := { frames := 6, cells := 0, slots := 0, locals := 124 }
set_option maxHeartbeats 4000000 in
set_option maxRecDepth 100000 in
theorem l_L_told_84 (l : Launch) (dC : Nat → ClassId) (dI : Nat → Nat → Nat) (P : gP) (ad : Nat → Nat) (tb : Nat → Nat) {p : Program} {e : Env} {s : State} {m : MethodId} {args : Array Value} {below : List Frame} {meth : Method} {c : Code} (hx : p.tables.exec = Jvm.exec) (hb0 : c.code = cL_told) (hr : meth.sig.returnType = (some .long)) (hlocks : meth.locks = false) (hml : c.maxLocals = 4) (hown : s.vm.findClass RL = some m.cls) (hts : ∀ w ∈ TB, w.before args s = true) (hK : va_K (dC, dI) vwCl (tyC P) s) (hk : (gKC tb (gA 162 ad)) s) (Q : Int64 → Hp → Prop) : ∀ (n : Nat) (y1 : Int64) (y3 : Int32) (h0 : Hp), F_L_told_L84  n y1 y3 h0 Q → ∀ (H : Heap) (locs : List Loc) (ls : Array Slot), va_P (dC, dI) vwCl (gW 162 (cE P ad) ad h0) H → va_D (gA 162 ad) (gW 162 (cE P ad) ad h0) → va_S (gA 162 ad) s.heap H locs → lv_has ls 4 [(0, .ref (ad 0)), (1, .long y1), (3, .int y3)] → W p l e rm_L_told s m args below meth c H locs 0 0 (MQ below (gQl (dC, dI) vwCl (tyC P) 162 (cE P ad) ad Q) args s 0 0 (gA 162 ad)) (F0 m 84 ls []) := by
  intro n
  induction n with
  | zero =>
    intro y1 y3 h0 he
    exact he.elim
  | succ n ih =>
    intro y1 y3 h0 he H locs ls hP hD hS hl
    rw [F_L_told_L84] at he
    refine lv_iload_n hx hb0 dL_told_84 rfl (lv_at hl 2 rfl) ?_
    refine lv_bipush (v := (32 : Int32)) hx hb0 dL_told_85 (by decide) ?_
    refine lv_icmp_ge (tgt := 114) hx hb0 dL_told_87 (by decide) (fun c_4 => ?_) (fun c_4 => ?_)
    · have he := he.1 c_4
      refine lv_lload_n hx hb0 dL_told_114 rfl (lv_at hl 1 rfl) ?_
      exact gx_lret hx hb0 hr hlocks hK hP hD hS he dL_told_115
    · have he := he.2 c_4
      refine lv_ldc2 (v := (31 : Int64)) hx hb0 hown (hts _ kl_RL_125) dL_told_90 ?_
      refine lv_lload_n hx hb0 dL_told_93 rfl (lv_at hl 1 rfl) ?_
      refine lv_lmul hx hb0 dL_told_94 ?_
      refine lv_aload_n hx hb0 dL_told_95 rfl (lv_at hl 0 rfl) ?_
      refine lv_iload_n hx hb0 dL_told_96 rfl (lv_at hl 2 rfl) ?_
      refine lv_iconst (v := (4 : Int32)) hx hb0 dL_told_97 (by decide) ?_
      refine lv_idiv hx hb0 dL_told_98 (by decide) ?_
      refine lv_iload_n hx hb0 dL_told_99 rfl (lv_at hl 2 rfl) ?_
      refine lv_iconst (v := (4 : Int32)) hx hb0 dL_told_100 (by decide) ?_
      refine lv_irem hx hb0 dL_told_101 (by decide) ?_
      refine gx_vi ⟨hx, hb0, hml, hown, hts⟩ (gKC_keep _ _) hk hK hP hD hS 0 [.int (y3 / (4 : Int32)), .int (y3 - y3 / (4 : Int32) * (4 : Int32))] [.long ((31 : Int64) * y1)] (c_X7_log l dC dI P ad tb (y3 / (4 : Int32)) (y3 - y3 / (4 : Int32) * (4 : Int32)) h0 _ he) gm_X7_log im_yX7_log se_yX7_log ml_RL_110 (by decide) (cE_t0 _) rfl rfl rfl ⟨Nat.le_of_ble_eq_true rfl, Nat.le_of_ble_eq_true rfl⟩ rfl hl.1 rfl (Nat.le_of_ble_eq_true rfl) dL_told_102 ⟨Nat.zero_le _, Nat.zero_le _⟩ (fun r_5 h_6 he H locs hP hD hS => ?_)
      refine lv_i2l (v := r_5.toInt64) hx hb0 dL_told_105 rfl ?_
      refine lv_ladd hx hb0 dL_told_106 ?_
      refine lv_topl (fun x_7 ex_7 => ?_)
      have he := he x_7 ex_7
      refine lv_lstore_n (lv' := [(1, .long x_7), (0, .ref (ad 0)), (3, .int y3)]) hx hb0 dL_told_107 rfl hl (by decide) rfl (fun ls hl => ?_)
      obtain ⟨x_8, ex_8⟩ : ∃ y : Int32, y = y3 + 1 := ⟨_, rfl⟩
      have he := he x_8 ex_8
      refine lv_iinc (v := x_8) (lv' := [(3, .int x_8), (1, .long x_7), (0, .ref (ad 0))]) hx hb0 dL_told_108 hl (k := 2) rfl (by rw [ex_8]; rfl) (by decide) rfl (fun ls hl => ?_)
      refine lv_goto (tgt := 84) hx hb0 dL_told_111 (by decide) ?_
      exact ih x_7 x_8 h_6 he _ _ ls hP hD hS (lv_sub hl [2, 1, 0] rfl)
set_option maxHeartbeats 4000000 in
set_option maxRecDepth 100000 in
theorem l_L_told_33 (l : Launch) (dC : Nat → ClassId) (dI : Nat → Nat → Nat) (P : gP) (ad : Nat → Nat) (tb : Nat → Nat) {p : Program} {e : Env} {s : State} {m : MethodId} {args : Array Value} {below : List Frame} {meth : Method} {c : Code} (hx : p.tables.exec = Jvm.exec) (hb0 : c.code = cL_told) (hr : meth.sig.returnType = (some .long)) (hlocks : meth.locks = false) (hml : c.maxLocals = 4) (hown : s.vm.findClass RL = some m.cls) (hts : ∀ w ∈ TB, w.before args s = true) (hK : va_K (dC, dI) vwCl (tyC P) s) (hk : (gKC tb (gA 162 ad)) s) (Q : Int64 → Hp → Prop) : ∀ (n : Nat) (y1 : Int64) (y3 : Int32) (h0 : Hp), F_L_told_L33  n y1 y3 h0 Q → ∀ (H : Heap) (locs : List Loc) (ls : Array Slot), va_P (dC, dI) vwCl (gW 162 (cE P ad) ad h0) H → va_D (gA 162 ad) (gW 162 (cE P ad) ad h0) → va_S (gA 162 ad) s.heap H locs → lv_has ls 4 [(0, .ref (ad 0)), (1, .long y1), (3, .int y3)] → W p l e rm_L_told s m args below meth c H locs 0 0 (MQ below (gQl (dC, dI) vwCl (tyC P) 162 (cE P ad) ad Q) args s 0 0 (gA 162 ad)) (F0 m 33 ls []) := by
  intro n
  induction n with
  | zero =>
    intro y1 y3 h0 he
    exact he.elim
  | succ n ih =>
    intro y1 y3 h0 he H locs ls hP hD hS hl
    rw [F_L_told_L33] at he
    refine lv_iload_n hx hb0 dL_told_33 rfl (lv_at hl 2 rfl) ?_
    refine lv_bipush (v := (56 : Int32)) hx hb0 dL_told_34 (by decide) ?_
    refine lv_icmp_ge (tgt := 82) hx hb0 dL_told_36 (by decide) (fun c_3 => ?_) (fun c_3 => ?_)
    · have he := he.1 c_3
      refine lv_iconst (v := (0 : Int32)) hx hb0 dL_told_82 (by decide) ?_
      refine lv_istore_n (lv' := [(3, .int (0 : Int32)), (0, .ref (ad 0)), (1, .long y1)]) hx hb0 dL_told_83 rfl hl (by decide) rfl (fun ls hl => ?_)
      obtain ⟨n_9, he⟩ := he
      exact l_L_told_84 l dC dI P ad tb  hx hb0 hr hlocks hml hown hts hK hk Q n_9 y1 (0 : Int32) h0 he _ _ ls hP hD hS (lv_sub hl [1, 2, 0] rfl)
    · have he := he.2 c_3
      refine lv_ldc2 (v := (31 : Int64)) hx hb0 hown (hts _ kl_RL_125) dL_told_39 ?_
      refine lv_ldc2 (v := (31 : Int64)) hx hb0 hown (hts _ kl_RL_125) dL_told_42 ?_
      refine lv_lload_n hx hb0 dL_told_45 rfl (lv_at hl 1 rfl) ?_
      refine lv_lmul hx hb0 dL_told_46 ?_
      refine lv_aload_n hx hb0 dL_told_47 rfl (lv_at hl 0 rfl) ?_
      refine lv_iload_n hx hb0 dL_told_48 rfl (lv_at hl 2 rfl) ?_
      refine lv_bipush (v := (8 : Int32)) hx hb0 dL_told_49 (by decide) ?_
      refine lv_idiv hx hb0 dL_told_51 (by decide) ?_
      refine lv_iload_n hx hb0 dL_told_52 rfl (lv_at hl 2 rfl) ?_
      refine lv_bipush (v := (8 : Int32)) hx hb0 dL_told_53 (by decide) ?_
      refine lv_irem hx hb0 dL_told_55 (by decide) ?_
      refine gx_vi ⟨hx, hb0, hml, hown, hts⟩ (gKC_keep _ _) hk hK hP hD hS 0 [.int (y3 / (8 : Int32)), .int (y3 - y3 / (8 : Int32) * (8 : Int32))] [.long ((31 : Int64) * y1), .long (31 : Int64)] (c_X7_of l dC dI P ad tb (y3 / (8 : Int32)) (y3 - y3 / (8 : Int32) * (8 : Int32)) h0 _ he) gm_X7_of im_yX7_of se_yX7_of ml_RL_91 (by decide) (cE_t0 _) rfl rfl rfl ⟨Nat.le_of_ble_eq_true rfl, Nat.le_of_ble_eq_true rfl⟩ rfl hl.1 rfl (Nat.le_of_ble_eq_true rfl) dL_told_56 ⟨Nat.zero_le _, Nat.zero_le _⟩ (fun r_10 h_11 he H locs hP hD hS => ?_)
      refine lv_i2l (v := r_10.toInt64) hx hb0 dL_told_59 rfl ?_
      refine lv_ladd hx hb0 dL_told_60 ?_
      refine lv_lmul hx hb0 dL_told_61 ?_
      refine lv_aload_n hx hb0 dL_told_62 rfl (lv_at hl 0 rfl) ?_
      refine lv_iload_n hx hb0 dL_told_63 rfl (lv_at hl 2 rfl) ?_
      refine lv_bipush (v := (8 : Int32)) hx hb0 dL_told_64 (by decide) ?_
      refine lv_idiv hx hb0 dL_told_66 (by decide) ?_
      refine lv_iload_n hx hb0 dL_told_67 rfl (lv_at hl 2 rfl) ?_
      refine lv_iconst (v := (4 : Int32)) hx hb0 dL_told_68 (by decide) ?_
      refine lv_irem hx hb0 dL_told_69 (by decide) ?_
      refine gx_vi ⟨hx, hb0, hml, hown, hts⟩ (gKC_keep _ _) hk hK hP hD hS 0 [.int (y3 / (8 : Int32)), .int (y3 - y3 / (4 : Int32) * (4 : Int32))] [.long ((31 : Int64) * (((31 : Int64) * y1) + r_10.toInt64))] (c_X7_ofStar l dC dI P ad tb (y3 / (8 : Int32)) (y3 - y3 / (4 : Int32) * (4 : Int32)) h_11 _ he) gm_X7_ofStar im_yX7_ofStar se_yX7_ofStar ml_RL_101 (by decide) (cE_t0 _) rfl rfl rfl ⟨Nat.le_of_ble_eq_true rfl, Nat.le_of_ble_eq_true rfl⟩ rfl hl.1 rfl (Nat.le_of_ble_eq_true rfl) dL_told_70 ⟨Nat.zero_le _, Nat.zero_le _⟩ (fun r_12 h_13 he H locs hP hD hS => ?_)
      refine lv_i2l (v := r_12.toInt64) hx hb0 dL_told_73 rfl ?_
      refine lv_ladd hx hb0 dL_told_74 ?_
      refine lv_topl (fun x_14 ex_14 => ?_)
      have he := he x_14 ex_14
      refine lv_lstore_n (lv' := [(1, .long x_14), (0, .ref (ad 0)), (3, .int y3)]) hx hb0 dL_told_75 rfl hl (by decide) rfl (fun ls hl => ?_)
      obtain ⟨x_15, ex_15⟩ : ∃ y : Int32, y = y3 + 1 := ⟨_, rfl⟩
      have he := he x_15 ex_15
      refine lv_iinc (v := x_15) (lv' := [(3, .int x_15), (1, .long x_14), (0, .ref (ad 0))]) hx hb0 dL_told_76 hl (k := 2) rfl (by rw [ex_15]; rfl) (by decide) rfl (fun ls hl => ?_)
      refine lv_goto (tgt := 33) hx hb0 dL_told_79 (by decide) ?_
      exact ih x_14 x_15 h_13 he _ _ ls hP hD hS (lv_sub hl [2, 1, 0] rfl)
set_option maxHeartbeats 4000000 in
set_option maxRecDepth 100000 in
theorem l_L_told_6 (l : Launch) (dC : Nat → ClassId) (dI : Nat → Nat → Nat) (P : gP) (ad : Nat → Nat) (tb : Nat → Nat) {p : Program} {e : Env} {s : State} {m : MethodId} {args : Array Value} {below : List Frame} {meth : Method} {c : Code} (hx : p.tables.exec = Jvm.exec) (hb0 : c.code = cL_told) (hr : meth.sig.returnType = (some .long)) (hlocks : meth.locks = false) (hml : c.maxLocals = 4) (hown : s.vm.findClass RL = some m.cls) (hts : ∀ w ∈ TB, w.before args s = true) (hK : va_K (dC, dI) vwCl (tyC P) s) (hk : (gKC tb (gA 162 ad)) s) (Q : Int64 → Hp → Prop) : ∀ (n : Nat) (y1 : Int64) (y3 : Int32) (h0 : Hp), F_L_told_L6  n y1 y3 h0 Q → ∀ (H : Heap) (locs : List Loc) (ls : Array Slot), va_P (dC, dI) vwCl (gW 162 (cE P ad) ad h0) H → va_D (gA 162 ad) (gW 162 (cE P ad) ad h0) → va_S (gA 162 ad) s.heap H locs → lv_has ls 4 [(0, .ref (ad 0)), (1, .long y1), (3, .int y3)] → W p l e rm_L_told s m args below meth c H locs 0 0 (MQ below (gQl (dC, dI) vwCl (tyC P) 162 (cE P ad) ad Q) args s 0 0 (gA 162 ad)) (F0 m 6 ls []) := by
  intro n
  induction n with
  | zero =>
    intro y1 y3 h0 he
    exact he.elim
  | succ n ih =>
    intro y1 y3 h0 he H locs ls hP hD hS hl
    rw [F_L_told_L6] at he
    refine lv_iload_n hx hb0 dL_told_6 rfl (lv_at hl 2 rfl) ?_
    refine lv_bipush (v := (15 : Int32)) hx hb0 dL_told_7 (by decide) ?_
    refine lv_icmp_ge (tgt := 31) hx hb0 dL_told_9 (by decide) (fun c_2 => ?_) (fun c_2 => ?_)
    · have he := he.1 c_2
      refine lv_iconst (v := (0 : Int32)) hx hb0 dL_told_31 (by decide) ?_
      refine lv_istore_n (lv' := [(3, .int (0 : Int32)), (0, .ref (ad 0)), (1, .long y1)]) hx hb0 dL_told_32 rfl hl (by decide) rfl (fun ls hl => ?_)
      obtain ⟨n_16, he⟩ := he
      exact l_L_told_33 l dC dI P ad tb  hx hb0 hr hlocks hml hown hts hK hk Q n_16 y1 (0 : Int32) h0 he _ _ ls hP hD hS (lv_sub hl [1, 2, 0] rfl)
    · have he := he.2 c_2
      refine lv_ldc2 (v := (31 : Int64)) hx hb0 hown (hts _ kl_RL_125) dL_told_12 ?_
      refine lv_lload_n hx hb0 dL_told_15 rfl (lv_at hl 1 rfl) ?_
      refine lv_lmul hx hb0 dL_told_16 ?_
      refine lv_aload_n hx hb0 dL_told_17 rfl (lv_at hl 0 rfl) ?_
      refine lv_iload_n hx hb0 dL_told_18 rfl (lv_at hl 2 rfl) ?_
      refine gx_vi ⟨hx, hb0, hml, hown, hts⟩ (gKC_keep _ _) hk hK hP hD hS 0 [.int y3] [.long ((31 : Int64) * y1)] (c_X7_count l dC dI P ad tb y3 h0 _ he) gm_X7_count im_yX7_count se_yX7_count ml_RL_104 (by decide) (cE_t0 _) rfl rfl rfl ⟨Nat.le_of_ble_eq_true rfl, Nat.le_of_ble_eq_true rfl⟩ rfl hl.1 rfl (Nat.le_of_ble_eq_true rfl) dL_told_19 ⟨Nat.zero_le _, Nat.zero_le _⟩ (fun r_17 h_18 he H locs hP hD hS => ?_)
      refine lv_i2l (v := r_17.toInt64) hx hb0 dL_told_22 rfl ?_
      refine lv_ladd hx hb0 dL_told_23 ?_
      refine lv_topl (fun x_19 ex_19 => ?_)
      have he := he x_19 ex_19
      refine lv_lstore_n (lv' := [(1, .long x_19), (0, .ref (ad 0)), (3, .int y3)]) hx hb0 dL_told_24 rfl hl (by decide) rfl (fun ls hl => ?_)
      obtain ⟨x_20, ex_20⟩ : ∃ y : Int32, y = y3 + 1 := ⟨_, rfl⟩
      have he := he x_20 ex_20
      refine lv_iinc (v := x_20) (lv' := [(3, .int x_20), (1, .long x_19), (0, .ref (ad 0))]) hx hb0 dL_told_25 hl (k := 2) rfl (by rw [ex_20]; rfl) (by decide) rfl (fun ls hl => ?_)
      refine lv_goto (tgt := 6) hx hb0 dL_told_28 (by decide) ?_
      exact ih x_19 x_20 h_18 he _ _ ls hP hD hS (lv_sub hl [2, 1, 0] rfl)
set_option maxHeartbeats 4000000 in
set_option maxRecDepth 100000 in
theorem c_L_told (l : Launch) (dC : Nat → ClassId) (dI : Nat → Nat → Nat) (P : gP) (ad : Nat → Nat) (tb : Nat → Nat) (h0 : Hp) (Q : Int64 → Hp → Prop) (he : F_L_told  h0 Q) : Met l yL_told (Cond.code yL_told cL_told 4 (some .long) :: TB) rm_L_told (gPc (dC, dI) vwCl (tyC P) 162 (cE P ad) ad (gKC tb (gA 162 ad)) h0 [.ref (ad 0)]) (gQl (dC, dI) vwCl (tyC P) 162 (cE P ad) ad Q) 0 0 (gA 162 ad) := by
  refine gx_start (by decide) (Nat.le_of_ble_eq_true rfl) (fun p e s m below meth c ls hx hb0 hr hlocks hml hown hts hK hk hP hD hS hl => ?_)
  have hl : lv_has ls 4 [(0, .ref (ad 0))] := hl
  have hown : s.vm.findClass RL = some m.cls := hown
  unfold F_L_told at he
  refine lv_ldc2 (v := (223 : Int64)) hx hb0 hown (hts _ kl_RL_123) dL_told_0 ?_
  refine lv_topl (fun x_1 ex_1 => ?_)
  have he := he x_1 ex_1
  refine lv_lstore_n (lv' := [(1, .long x_1), (0, .ref (ad 0))]) hx hb0 dL_told_3 rfl hl (by decide) rfl (fun ls hl => ?_)
  refine lv_iconst (v := (0 : Int32)) hx hb0 dL_told_4 (by decide) ?_
  refine lv_istore_n (lv' := [(3, .int (0 : Int32)), (1, .long x_1), (0, .ref (ad 0))]) hx hb0 dL_told_5 rfl hl (by decide) rfl (fun ls hl => ?_)
  obtain ⟨n_21, he⟩ := he
  exact l_L_told_6 l dC dI P ad tb  hx hb0 hr hlocks hml hown hts hK hk Q n_21 x_1 (0 : Int32) h0 he _ _ ls hP hD hS (lv_sub hl [2, 1, 0] rfl)
theorem gm_L_told : gMeth yL_told cL_told 4 (some .long) 1 := ⟨⟨by decide, by decide, by decide +kernel⟩, ini_RL, co_yL_told⟩
