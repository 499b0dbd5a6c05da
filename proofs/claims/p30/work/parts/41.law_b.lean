set_option maxHeartbeats 4000000 in
set_option maxRecDepth 100000 in
theorem l_L_law_620 (l : Launch) (dC : Nat → ClassId) (dI : Nat → Nat → Nat) (P : gP) (ad : Nat → Nat) (tb : Nat → Nat) {b L : Nat} {xs : Nat → Int32} {p : Program} {e : Env} {s : State} {m : MethodId} {below : List Frame} {meth : Method} {c : Code} (hx : p.tables.exec = Jvm.exec) (hb0 : c.code = code) (hr : meth.sig.returnType = ret) (hlocks : meth.locks = false) (hml : c.maxLocals = 17) (hown : s.vm.findClass RL = some m.cls) (hts : ∀ w ∈ TB, w.before #[Value.ref b] s = true) (hK : va_K (dC, dI) vwCl (tyC P) s) (hk : gKC tb (fun q : Nat => s.heap.size ≤ q) s) (hL : L ≤ 260) (hX : va_X b L xs s s.heap) (hbl : b < s.heap.size) (hbA : ¬ (fun q : Nat => s.heap.size ≤ q) b) (hKs : gKC tb (fun q : Nat => s.heap.size ≤ q) s) (hlw : ∀ k, k < 162 → s.heap.size ≤ ad k) (K108 : Int32 → Hp → Prop) (hK108 : ∀ (z0 : Int32) (h0 : Hp), K108 z0 h0 → ∀ (H : Heap) (locs : List Loc) (ls : Array Slot), va_P (dC, dI) vwCl (gW 162 (cE P ad) ad h0) H → va_D (fun q : Nat => s.heap.size ≤ q) (gW 162 (cE P ad) ad h0) → va_S (fun q : Nat => s.heap.size ≤ q) s.heap H locs → lv_has ls 17 [(0, .ref b), (1, .ref (ad 0)), (2, .ref (ad 158)), (3, .ref (ad 159)), (4, .ref (ad 160)), (5, .ref (ad 161)), (6, .int z0)] → W p l e room_1 s m #[Value.ref b] below meth c H locs 162 1374 (lw_Z below #[Value.ref b] s) (F0 m 108 ls [])) : ∀ (n : Nat) (y6 : Int32) (y7 : Int32) (y8 : Int32) (y9 : Int32) (y10 : Int32) (y11 : Int32) (y12 : Int32) (y13 : Int32) (y14 : Int64) (y16 : Int32) (h0 : Hp), F_L_law_L620  (cellv L xs) K108 n y6 y7 y8 y9 y10 y11 y12 y13 y14 y16 h0 → ∀ (H : Heap) (locs : List Loc) (ls : Array Slot), va_P (dC, dI) vwCl (gW 162 (cE P ad) ad h0) H → va_D (fun q : Nat => s.heap.size ≤ q) (gW 162 (cE P ad) ad h0) → va_S (fun q : Nat => s.heap.size ≤ q) s.heap H locs → lv_has ls 17 [(0, .ref b), (1, .ref (ad 0)), (2, .ref (ad 158)), (3, .ref (ad 159)), (4, .ref (ad 160)), (5, .ref (ad 161)), (6, .int y6), (7, .int y7), (8, .int y8), (9, .int y9), (10, .int y10), (11, .int y11), (12, .int y12), (13, .int y13), (14, .long y14), (16, .int y16)] → W p l e room_1 s m #[Value.ref b] below meth c H locs 162 1374 (lw_Z below #[Value.ref b] s) (F0 m 620 ls []) := by
  intro n
  induction n with
  | zero =>
    intro y6 y7 y8 y9 y10 y11 y12 y13 y14 y16 h0 he
    exact he.elim
  | succ n ih =>
    intro y6 y7 y8 y9 y10 y11 y12 y13 y14 y16 h0 he H locs ls hP hD hS hl
    rw [F_L_law_L620] at he
    refine lv_iload hx hb0 dL_law_620 (lv_at hl 15 rfl) ?_
    refine lv_iload hx hb0 dL_law_622 (lv_at hl 9 rfl) ?_
    refine lv_iload hx hb0 dL_law_624 (lv_at hl 10 rfl) ?_
    refine lv_iload hx hb0 dL_law_626 (lv_at hl 11 rfl) ?_
    refine lv_iload hx hb0 dL_law_628 (lv_at hl 13 rfl) ?_
    refine lv_aload_n hx hb0 dL_law_630 rfl (lv_at hl 2 rfl) ?_
    refine lv_aload_n hx hb0 dL_law_631 rfl (lv_at hl 3 rfl) ?_
    refine lv_aload hx hb0 dL_law_632 (lv_at hl 4 rfl) ?_
    refine lv_aload hx hb0 dL_law_634 (lv_at hl 5 rfl) ?_
    refine ga_si ⟨hx, hb0, hml, hown, hts⟩ (gKC_keep tb _) (law_K hKs hlw hS) hK hP hD hS [.int y9, .int y10, .int y11, .int y13, .ref (ad 158), .ref (ad 159), .ref (ad 160), .ref (ad 161)] [.int y16] (c_L_due l dC dI P ad tb y9 y10 y11 y13 h0 _ he) gm_L_due st_yL_due ml_RL_143 rfl rfl ⟨Nat.le_of_ble_eq_true rfl, Nat.le_of_ble_eq_true rfl⟩ rfl hl.1 rfl (Nat.le_of_ble_eq_true rfl) dL_law_636 ⟨Nat.le_of_ble_eq_true rfl, Nat.le_of_ble_eq_true rfl⟩ (fun r_47 h_48 he H locs hP hD hS => ?_)
    refine lv_icmp_ne (tgt := 659) hx hb0 dL_law_639 (by decide) (fun c_49 => ?_) (fun c_49 => ?_)
    · have he := he.2 c_49
      refine lv_iconst (v := (0 : Int32)) hx hb0 dL_law_659 (by decide) ?_
      exact he.elim
    · have he := he.1 c_49
      refine lv_aload_n hx hb0 dL_law_642 rfl (lv_at hl 1 rfl) ?_
      refine lv_iload hx hb0 dL_law_643 (lv_at hl 7 rfl) ?_
      refine lv_iconst (v := (5 : Int32)) hx hb0 dL_law_645 (by decide) ?_
      refine lv_ishr hx hb0 dL_law_646 ?_
      refine lv_aload_n hx hb0 dL_law_647 rfl (lv_at hl 2 rfl) ?_
      refine lv_aload_n hx hb0 dL_law_648 rfl (lv_at hl 3 rfl) ?_
      refine lv_aload hx hb0 dL_law_649 (lv_at hl 4 rfl) ?_
      refine lv_aload hx hb0 dL_law_651 (lv_at hl 5 rfl) ?_
      refine ga_si ⟨hx, hb0, hml, hown, hts⟩ (gKC_keep tb _) (law_K hKs hlw hS) hK hP hD hS [.ref (ad 0), .int (y7 >>> ((5 : Int32) &&& 31)), .ref (ad 158), .ref (ad 159), .ref (ad 160), .ref (ad 161)] [] (c_L_isSo l dC dI P ad tb (y7 >>> ((5 : Int32) &&& 31)) h_48 _ he) gm_L_isSo st_yL_isSo ml_RL_147 rfl rfl ⟨Nat.le_of_ble_eq_true rfl, Nat.le_of_ble_eq_true rfl⟩ rfl hl.1 rfl (Nat.le_of_ble_eq_true rfl) dL_law_653 ⟨Nat.le_of_ble_eq_true rfl, Nat.le_of_ble_eq_true rfl⟩ (fun r_50 h_51 he H locs hP hD hS => ?_)
      refine lv_if_ne (tgt := 661) hx hb0 dL_law_656 (by decide) (fun c_52 => ?_) (fun c_52 => ?_)
      · have he := he.2 c_52
        obtain ⟨x_53, ex_53⟩ : ∃ y : Int32, y = y6 + 1 := ⟨_, rfl⟩
        have he := he x_53 ex_53
        refine lv_iinc (v := x_53) (lv' := [(6, .int x_53), (0, .ref b), (1, .ref (ad 0)), (2, .ref (ad 158)), (3, .ref (ad 159)), (4, .ref (ad 160)), (5, .ref (ad 161)), (7, .int y7), (8, .int y8), (9, .int y9), (10, .int y10), (11, .int y11), (12, .int y12), (13, .int y13), (14, .long y14), (16, .int y16)]) hx hb0 dL_law_661 hl (k := 6) rfl (by rw [ex_53]; rfl) (by decide) rfl (fun ls hl => ?_)
        refine lv_goto (tgt := 108) hx hb0 dL_law_664 (by decide) ?_
        exact hK108 x_53 h_51 he _ _ ls hP hD hS (lv_sub hl [1, 2, 3, 4, 5, 6, 0] rfl)
      · have he := he.1 c_52
        refine lv_iconst (v := (0 : Int32)) hx hb0 dL_law_659 (by decide) ?_
        exact he.elim
set_option maxHeartbeats 4000000 in
set_option maxRecDepth 100000 in
theorem l_L_law_536 (l : Launch) (dC : Nat → ClassId) (dI : Nat → Nat → Nat) (P : gP) (ad : Nat → Nat) (tb : Nat → Nat) {b L : Nat} {xs : Nat → Int32} {p : Program} {e : Env} {s : State} {m : MethodId} {below : List Frame} {meth : Method} {c : Code} (hx : p.tables.exec = Jvm.exec) (hb0 : c.code = code) (hr : meth.sig.returnType = ret) (hlocks : meth.locks = false) (hml : c.maxLocals = 17) (hown : s.vm.findClass RL = some m.cls) (hts : ∀ w ∈ TB, w.before #[Value.ref b] s = true) (hK : va_K (dC, dI) vwCl (tyC P) s) (hk : gKC tb (fun q : Nat => s.heap.size ≤ q) s) (hL : L ≤ 260) (hX : va_X b L xs s s.heap) (hbl : b < s.heap.size) (hbA : ¬ (fun q : Nat => s.heap.size ≤ q) b) (hKs : gKC tb (fun q : Nat => s.heap.size ≤ q) s) (hlw : ∀ k, k < 162 → s.heap.size ≤ ad k) (K108 : Int32 → Hp → Prop) (hK108 : ∀ (z0 : Int32) (h0 : Hp), K108 z0 h0 → ∀ (H : Heap) (locs : List Loc) (ls : Array Slot), va_P (dC, dI) vwCl (gW 162 (cE P ad) ad h0) H → va_D (fun q : Nat => s.heap.size ≤ q) (gW 162 (cE P ad) ad h0) → va_S (fun q : Nat => s.heap.size ≤ q) s.heap H locs → lv_has ls 17 [(0, .ref b), (1, .ref (ad 0)), (2, .ref (ad 158)), (3, .ref (ad 159)), (4, .ref (ad 160)), (5, .ref (ad 161)), (6, .int z0)] → W p l e room_1 s m #[Value.ref b] below meth c H locs 162 1374 (lw_Z below #[Value.ref b] s) (F0 m 108 ls [])) : ∀ (n : Nat) (y6 : Int32) (y7 : Int32) (y8 : Int32) (y9 : Int32) (y10 : Int32) (y11 : Int32) (y12 : Int32) (y13 : Int32) (h0 : Hp), F_L_law_L536  (cellv L xs) K108 n y6 y7 y8 y9 y10 y11 y12 y13 h0 → ∀ (H : Heap) (locs : List Loc) (ls : Array Slot), va_P (dC, dI) vwCl (gW 162 (cE P ad) ad h0) H → va_D (fun q : Nat => s.heap.size ≤ q) (gW 162 (cE P ad) ad h0) → va_S (fun q : Nat => s.heap.size ≤ q) s.heap H locs → lv_has ls 17 [(0, .ref b), (1, .ref (ad 0)), (2, .ref (ad 158)), (3, .ref (ad 159)), (4, .ref (ad 160)), (5, .ref (ad 161)), (6, .int y6), (7, .int y7), (8, .int y8), (9, .int y9), (10, .int y10), (11, .int y11), (12, .int y12), (13, .int y13)] → W p l e room_1 s m #[Value.ref b] below meth c H locs 162 1374 (lw_Z below #[Value.ref b] s) (F0 m 536 ls []) := by
  intro n
  induction n with
  | zero =>
    intro y6 y7 y8 y9 y10 y11 y12 y13 h0 he
    exact he.elim
  | succ n ih =>
    intro y6 y7 y8 y9 y10 y11 y12 y13 h0 he H locs ls hP hD hS hl
    rw [F_L_law_L536] at he
    refine lv_aload_n hx hb0 dL_law_536 rfl (lv_at hl 1 rfl) ?_
    refine ga_sl ⟨hx, hb0, hml, hown, hts⟩ (gKC_keep tb _) (law_K hKs hlw hS) hK hP hD hS [.ref (ad 0)] [] (c_L_told l dC dI P ad tb  h0 _ he) gm_L_told st_yL_told ml_RL_132 rfl rfl ⟨Nat.le_of_ble_eq_true rfl, Nat.le_of_ble_eq_true rfl⟩ rfl hl.1 rfl (Nat.le_of_ble_eq_true rfl) dL_law_537 ⟨Nat.le_of_ble_eq_true rfl, Nat.le_of_ble_eq_true rfl⟩ (fun r_41 h_42 he H locs hP hD hS => ?_)
    refine lv_lstore (lv' := [(14, .long r_41), (0, .ref b), (1, .ref (ad 0)), (2, .ref (ad 158)), (3, .ref (ad 159)), (4, .ref (ad 160)), (5, .ref (ad 161)), (6, .int y6), (7, .int y7), (8, .int y8), (9, .int y9), (10, .int y10), (11, .int y11), (12, .int y12), (13, .int y13)]) hx hb0 dL_law_540 hl (by decide) rfl (fun ls hl => ?_)
    refine lv_aload_n hx hb0 dL_law_542 rfl (lv_at hl 2 rfl) ?_
    refine lv_iload hx hb0 dL_law_543 (lv_at hl 10 rfl) ?_
    refine lv_iload hx hb0 dL_law_545 (lv_at hl 11 rfl) ?_
    refine lv_iload hx hb0 dL_law_547 (lv_at hl 12 rfl) ?_
    refine lv_iload hx hb0 dL_law_549 (lv_at hl 14 rfl) ?_
    refine ga_si ⟨hx, hb0, hml, hown, hts⟩ (gKC_keep tb _) (law_K hKs hlw hS) hK hP hD hS [.ref (ad 0), .int y9, .int y10, .int y11, .int y13] [] (c_L_call l dC dI P ad tb y9 y10 y11 y13 h_42 _ he) gm_L_call st_yL_call ml_RL_136 rfl rfl ⟨Nat.le_of_ble_eq_true rfl, Nat.le_of_ble_eq_true rfl⟩ rfl hl.1 rfl (Nat.le_of_ble_eq_true rfl) dL_law_551 ⟨Nat.le_of_ble_eq_true rfl, Nat.le_of_ble_eq_true rfl⟩ (fun r_43 h_44 he H locs hP hD hS => ?_)
    refine lv_istore (lv' := [(16, .int r_43), (14, .long r_41), (0, .ref b), (1, .ref (ad 0)), (2, .ref (ad 158)), (3, .ref (ad 159)), (4, .ref (ad 160)), (5, .ref (ad 161)), (6, .int y6), (7, .int y7), (8, .int y8), (9, .int y9), (10, .int y10), (11, .int y11), (12, .int y12), (13, .int y13)]) hx hb0 dL_law_554 hl (by decide) rfl (fun ls hl => ?_)
    refine lv_iload hx hb0 dL_law_556 (lv_at hl 0 rfl) ?_
    refine lv_if_ge (tgt := 574) hx hb0 dL_law_558 (by decide) (fun c_45 => ?_) (fun c_45 => ?_)
    · have he := he.1 c_45
      refine lv_iload hx hb0 dL_law_574 (lv_at hl 9 rfl) ?_
      refine lv_bipush (v := (24 : Int32)) hx hb0 dL_law_576 (by decide) ?_
      refine lv_ishr hx hb0 dL_law_578 ?_
      refine lv_iconst (v := (3 : Int32)) hx hb0 dL_law_579 (by decide) ?_
      refine lv_iand hx hb0 dL_law_580 ?_
      refine lv_if_ne (tgt := 620) hx hb0 dL_law_581 (by decide) (fun c_46 => ?_) (fun c_46 => ?_)
      · have he := he.2 c_46
        obtain ⟨n_54, he⟩ := he
        exact l_L_law_620 l dC dI P ad tb  hx hb0 hr hlocks hml hown hts hK hk hL hX hbl hbA hKs hlw K108 hK108 n_54 y6 y7 y8 y9 y10 y11 y12 y13 r_41 r_43 h_44 he _ _ ls hP hD hS (lv_sub hl [2, 3, 4, 5, 6, 7, 8, 9, 10, 11, 12, 13, 14, 15, 1, 0] rfl)
      · have he := he.1 c_46
        refine lv_aload_n hx hb0 dL_law_584 rfl (lv_at hl 3 rfl) ?_
        refine ga_vi ⟨hx, hb0, hml, hown, hts⟩ (gKC_keep tb _) (law_K hKs hlw hS) hK hP hD hS 0 [] [] (c_X7_undo l dC dI P ad tb  h_44 _ he) gm_X7_undo im_yX7_undo se_yX7_undo ml_RL_140 (by decide) (cE_t0 _) rfl rfl rfl ⟨Nat.le_of_ble_eq_true rfl, Nat.le_of_ble_eq_true rfl⟩ rfl hl.1 rfl (Nat.le_of_ble_eq_true rfl) dL_law_585 ⟨Nat.le_of_ble_eq_true rfl, Nat.le_of_ble_eq_true rfl⟩ (fun r_55 h_56 he H locs hP hD hS _ => ?_)
        refine lv_if_lt (tgt := 618) hx hb0 dL_law_588 (by decide) (fun c_57 => ?_) (fun c_57 => ?_)
        · have he := he.1 c_57
          refine lv_iconst (v := (0 : Int32)) hx hb0 dL_law_618 (by decide) ?_
          exact he.elim
        · have he := he.2 c_57
          refine lv_aload_n hx hb0 dL_law_591 rfl (lv_at hl 3 rfl) ?_
          refine ga_sl ⟨hx, hb0, hml, hown, hts⟩ (gKC_keep tb _) (law_K hKs hlw hS) hK hP hD hS [.ref (ad 0)] [] (c_L_told l dC dI P ad tb  h_56 _ he) gm_L_told st_yL_told ml_RL_132 rfl rfl ⟨Nat.le_of_ble_eq_true rfl, Nat.le_of_ble_eq_true rfl⟩ rfl hl.1 rfl (Nat.le_of_ble_eq_true rfl) dL_law_592 ⟨Nat.le_of_ble_eq_true rfl, Nat.le_of_ble_eq_true rfl⟩ (fun r_58 h_59 he H locs hP hD hS => ?_)
          refine lv_lload hx hb0 dL_law_595 (lv_at hl 1 rfl) ?_
          refine W.lcmp hx hb0 dL_law_597 ?_
          refine lv_if_ne (tgt := 618) hx hb0 dL_law_598 (by decide) (fun c_60 => ?_) (fun c_60 => ?_)
          · have he := he.2 c_60
            refine lv_iconst (v := (0 : Int32)) hx hb0 dL_law_618 (by decide) ?_
            exact he.elim
          · have he := he.1 c_60
            refine lv_aload_n hx hb0 dL_law_601 rfl (lv_at hl 3 rfl) ?_
            refine lv_iload hx hb0 dL_law_602 (lv_at hl 11 rfl) ?_
            refine lv_iload hx hb0 dL_law_604 (lv_at hl 12 rfl) ?_
            refine lv_iload hx hb0 dL_law_606 (lv_at hl 13 rfl) ?_
            refine lv_iload hx hb0 dL_law_608 (lv_at hl 15 rfl) ?_
            refine ga_si ⟨hx, hb0, hml, hown, hts⟩ (gKC_keep tb _) (law_K hKs hlw hS) hK hP hD hS [.ref (ad 0), .int y9, .int y10, .int y11, .int y13] [] (c_L_call l dC dI P ad tb y9 y10 y11 y13 h_59 _ he) gm_L_call st_yL_call ml_RL_136 rfl rfl ⟨Nat.le_of_ble_eq_true rfl, Nat.le_of_ble_eq_true rfl⟩ rfl hl.1 rfl (Nat.le_of_ble_eq_true rfl) dL_law_610 ⟨Nat.le_of_ble_eq_true rfl, Nat.le_of_ble_eq_true rfl⟩ (fun r_61 h_62 he H locs hP hD hS => ?_)
            refine lv_iload hx hb0 dL_law_613 (lv_at hl 0 rfl) ?_
            refine lv_icmp_eq (tgt := 620) hx hb0 dL_law_615 (by decide) (fun c_63 => ?_) (fun c_63 => ?_)
            · have he := he.1 c_63
              obtain ⟨n_64, he⟩ := he
              exact l_L_law_620 l dC dI P ad tb  hx hb0 hr hlocks hml hown hts hK hk hL hX hbl hbA hKs hlw K108 hK108 n_64 y6 y7 y8 y9 y10 y11 y12 y13 r_41 r_43 h_62 he _ _ ls hP hD hS (lv_sub hl [2, 3, 4, 5, 6, 7, 8, 9, 10, 11, 12, 13, 14, 15, 1, 0] rfl)
            · have he := he.2 c_63
              refine lv_iconst (v := (0 : Int32)) hx hb0 dL_law_618 (by decide) ?_
              exact he.elim
    · have he := he.2 c_45
      refine lv_aload_n hx hb0 dL_law_561 rfl (lv_at hl 3 rfl) ?_
      refine ga_sl ⟨hx, hb0, hml, hown, hts⟩ (gKC_keep tb _) (law_K hKs hlw hS) hK hP hD hS [.ref (ad 0)] [] (c_L_told l dC dI P ad tb  h_44 _ he) gm_L_told st_yL_told ml_RL_132 rfl rfl ⟨Nat.le_of_ble_eq_true rfl, Nat.le_of_ble_eq_true rfl⟩ rfl hl.1 rfl (Nat.le_of_ble_eq_true rfl) dL_law_562 ⟨Nat.le_of_ble_eq_true rfl, Nat.le_of_ble_eq_true rfl⟩ (fun r_65 h_66 he H locs hP hD hS => ?_)
      refine lv_lload hx hb0 dL_law_565 (lv_at hl 1 rfl) ?_
      refine W.lcmp hx hb0 dL_law_567 ?_
      refine lv_if_eq (tgt := 620) hx hb0 dL_law_568 (by decide) (fun c_67 => ?_) (fun c_67 => ?_)
      · have he := he.1 c_67
        obtain ⟨n_68, he⟩ := he
        exact l_L_law_620 l dC dI P ad tb  hx hb0 hr hlocks hml hown hts hK hk hL hX hbl hbA hKs hlw K108 hK108 n_68 y6 y7 y8 y9 y10 y11 y12 y13 r_41 r_43 h_66 he _ _ ls hP hD hS (lv_sub hl [2, 3, 4, 5, 6, 7, 8, 9, 10, 11, 12, 13, 14, 15, 1, 0] rfl)
      · have he := he.2 c_67
        refine lv_goto (tgt := 618) hx hb0 dL_law_571 (by decide) ?_
        refine lv_iconst (v := (0 : Int32)) hx hb0 dL_law_618 (by decide) ?_
        exact he.elim
set_option maxHeartbeats 4000000 in
set_option maxRecDepth 100000 in
theorem l_L_law_353 (l : Launch) (dC : Nat → ClassId) (dI : Nat → Nat → Nat) (P : gP) (ad : Nat → Nat) (tb : Nat → Nat) {b L : Nat} {xs : Nat → Int32} {p : Program} {e : Env} {s : State} {m : MethodId} {below : List Frame} {meth : Method} {c : Code} (hx : p.tables.exec = Jvm.exec) (hb0 : c.code = code) (hr : meth.sig.returnType = ret) (hlocks : meth.locks = false) (hml : c.maxLocals = 17) (hown : s.vm.findClass RL = some m.cls) (hts : ∀ w ∈ TB, w.before #[Value.ref b] s = true) (hK : va_K (dC, dI) vwCl (tyC P) s) (hk : gKC tb (fun q : Nat => s.heap.size ≤ q) s) (hL : L ≤ 260) (hX : va_X b L xs s s.heap) (hbl : b < s.heap.size) (hbA : ¬ (fun q : Nat => s.heap.size ≤ q) b) (hKs : gKC tb (fun q : Nat => s.heap.size ≤ q) s) (hlw : ∀ k, k < 162 → s.heap.size ≤ ad k) (K108 : Int32 → Hp → Prop) (hK108 : ∀ (z0 : Int32) (h0 : Hp), K108 z0 h0 → ∀ (H : Heap) (locs : List Loc) (ls : Array Slot), va_P (dC, dI) vwCl (gW 162 (cE P ad) ad h0) H → va_D (fun q : Nat => s.heap.size ≤ q) (gW 162 (cE P ad) ad h0) → va_S (fun q : Nat => s.heap.size ≤ q) s.heap H locs → lv_has ls 17 [(0, .ref b), (1, .ref (ad 0)), (2, .ref (ad 158)), (3, .ref (ad 159)), (4, .ref (ad 160)), (5, .ref (ad 161)), (6, .int z0)] → W p l e room_1 s m #[Value.ref b] below meth c H locs 162 1374 (lw_Z below #[Value.ref b] s) (F0 m 108 ls [])) : ∀ (n : Nat) (y6 : Int32) (y7 : Int32) (y8 : Int32) (y9 : Int32) (y10 : Int32) (y11 : Int32) (h0 : Hp), F_L_law_L353  (cellv L xs) K108 n y6 y7 y8 y9 y10 y11 h0 → ∀ (H : Heap) (locs : List Loc) (ls : Array Slot), va_P (dC, dI) vwCl (gW 162 (cE P ad) ad h0) H → va_D (fun q : Nat => s.heap.size ≤ q) (gW 162 (cE P ad) ad h0) → va_S (fun q : Nat => s.heap.size ≤ q) s.heap H locs → lv_has ls 17 [(0, .ref b), (1, .ref (ad 0)), (2, .ref (ad 158)), (3, .ref (ad 159)), (4, .ref (ad 160)), (5, .ref (ad 161)), (6, .int y6), (7, .int y7), (8, .int y8), (9, .int y9), (10, .int y10), (11, .int y11)] → W p l e room_1 s m #[Value.ref b] below meth c H locs 162 1374 (lw_Z below #[Value.ref b] s) (F0 m 353 ls []) := by
  intro n
  induction n with
  | zero =>
    intro y6 y7 y8 y9 y10 y11 h0 he
    exact he.elim
  | succ n ih =>
    intro y6 y7 y8 y9 y10 y11 h0 he H locs ls hP hD hS hl
    rw [F_L_law_L353] at he
    refine lv_iload hx hb0 dL_law_353 (lv_at hl 8 rfl) ?_
    refine lv_iconst (v := (5 : Int32)) hx hb0 dL_law_355 (by decide) ?_
    refine lv_ishr hx hb0 dL_law_356 ?_
    refine lv_topi (fun x_30 ex_30 => ?_)
    have he := he x_30 ex_30
    refine lv_istore (lv' := [(12, .int x_30), (0, .ref b), (1, .ref (ad 0)), (2, .ref (ad 158)), (3, .ref (ad 159)), (4, .ref (ad 160)), (5, .ref (ad 161)), (6, .int y6), (7, .int y7), (8, .int y8), (9, .int y9), (10, .int y10), (11, .int y11)]) hx hb0 dL_law_357 hl (by decide) rfl (fun ls hl => ?_)
    refine lv_iload hx hb0 dL_law_359 (lv_at hl 10 rfl) ?_
    refine lv_iconst (v := (4 : Int32)) hx hb0 dL_law_361 (by decide) ?_
    refine lv_icmp_eq (tgt := 372) hx hb0 dL_law_362 (by decide) (fun c_31 => ?_) (fun c_31 => ?_)
    · have he := he.1 c_31
      refine lv_iload hx hb0 dL_law_372 (lv_at hl 0 rfl) ?_
      refine lv_iload hx hb0 dL_law_374 (lv_at hl 0 rfl) ?_
      refine lv_bipush (v := (15 : Int32)) hx hb0 dL_law_376 (by decide) ?_
      refine lv_ishr hx hb0 dL_law_378 ?_
      refine lv_iconst (v := (3 : Int32)) hx hb0 dL_law_379 (by decide) ?_
      refine ga_si ⟨hx, hb0, hml, hown, hts⟩ (gKC_keep tb _) (law_K hKs hlw hS) hK hP hD hS [.int (x_30 >>> ((15 : Int32) &&& 31)), .int (3 : Int32)] [.int x_30] (c_L_low l dC dI P ad tb (x_30 >>> ((15 : Int32) &&& 31)) (3 : Int32) h0 _ he) gm_L_low st_yL_low ml_RL_107 rfl rfl ⟨Nat.le_of_ble_eq_true rfl, Nat.le_of_ble_eq_true rfl⟩ rfl hl.1 rfl (Nat.le_of_ble_eq_true rfl) dL_law_380 ⟨Nat.le_of_ble_eq_true rfl, Nat.le_of_ble_eq_true rfl⟩ (fun r_32 h_33 he H locs hP hD hS => ?_)
      refine lv_if_ne (tgt := 392) hx hb0 dL_law_383 (by decide) (fun c_34 => ?_) (fun c_34 => ?_)
      · have he := he.2 c_34
        refine lv_sipush (v := (2001 : Int32)) hx hb0 dL_law_392 (by decide) ?_
        refine ga_si ⟨hx, hb0, hml, hown, hts⟩ (gKC_keep tb _) (law_K hKs hlw hS) hK hP hD hS [.int x_30, .int (2001 : Int32)] [] (c_L_low l dC dI P ad tb x_30 (2001 : Int32) h_33 _ he) gm_L_low st_yL_low ml_RL_107 rfl rfl ⟨Nat.le_of_ble_eq_true rfl, Nat.le_of_ble_eq_true rfl⟩ rfl hl.1 rfl (Nat.le_of_ble_eq_true rfl) dL_law_395 ⟨Nat.le_of_ble_eq_true rfl, Nat.le_of_ble_eq_true rfl⟩ (fun r_35 h_36 he H locs hP hD hS => ?_)
        refine lv_iload hx hb0 dL_law_398 (lv_at hl 0 rfl) ?_
        refine lv_bipush (v := (15 : Int32)) hx hb0 dL_law_400 (by decide) ?_
        refine lv_ishr hx hb0 dL_law_402 ?_
        refine lv_iconst (v := (3 : Int32)) hx hb0 dL_law_403 (by decide) ?_
        refine ga_si ⟨hx, hb0, hml, hown, hts⟩ (gKC_keep tb _) (law_K hKs hlw hS) hK hP hD hS [.int (x_30 >>> ((15 : Int32) &&& 31)), .int (3 : Int32)] [.int r_35] (c_L_low l dC dI P ad tb (x_30 >>> ((15 : Int32) &&& 31)) (3 : Int32) h_36 _ he) gm_L_low st_yL_low ml_RL_107 rfl rfl ⟨Nat.le_of_ble_eq_true rfl, Nat.le_of_ble_eq_true rfl⟩ rfl hl.1 rfl (Nat.le_of_ble_eq_true rfl) dL_law_404 ⟨Nat.le_of_ble_eq_true rfl, Nat.le_of_ble_eq_true rfl⟩ (fun r_37 h_38 he H locs hP hD hS => ?_)
        refine lv_if_ne (tgt := 416) hx hb0 dL_law_407 (by decide) (fun c_39 => ?_) (fun c_39 => ?_)
        · have he := he.2 c_39
          refine lv_sipush (v := (1000 : Int32)) hx hb0 dL_law_416 (by decide) ?_
          refine lv_isub hx hb0 dL_law_419 ?_
          refine lv_goto (tgt := 534) hx hb0 dL_law_420 (by decide) ?_
          refine lv_topi (fun x_40 ex_40 => ?_)
          have he := he x_40 ex_40
          refine lv_istore (lv' := [(13, .int x_40), (12, .int x_30), (0, .ref b), (1, .ref (ad 0)), (2, .ref (ad 158)), (3, .ref (ad 159)), (4, .ref (ad 160)), (5, .ref (ad 161)), (6, .int y6), (7, .int y7), (8, .int y8), (9, .int y9), (10, .int y10), (11, .int y11)]) hx hb0 dL_law_534 hl (by decide) rfl (fun ls hl => ?_)
          obtain ⟨n_69, he⟩ := he
          exact l_L_law_536 l dC dI P ad tb  hx hb0 hr hlocks hml hown hts hK hk hL hX hbl hbA hKs hlw K108 hK108 n_69 y6 y7 y8 y9 y10 y11 x_30 x_40 h_38 he _ _ ls hP hD hS (lv_sub hl [2, 3, 4, 5, 6, 7, 8, 9, 10, 11, 12, 13, 1, 0] rfl)
        · have he := he.1 c_39
          refine lv_sipush (v := (5400 : Int32)) hx hb0 dL_law_410 (by decide) ?_
          refine lv_goto (tgt := 419) hx hb0 dL_law_413 (by decide) ?_
          refine lv_isub hx hb0 dL_law_419 ?_
          refine lv_goto (tgt := 534) hx hb0 dL_law_420 (by decide) ?_
          refine lv_topi (fun x_70 ex_70 => ?_)
          have he := he x_70 ex_70
          refine lv_istore (lv' := [(13, .int x_70), (12, .int x_30), (0, .ref b), (1, .ref (ad 0)), (2, .ref (ad 158)), (3, .ref (ad 159)), (4, .ref (ad 160)), (5, .ref (ad 161)), (6, .int y6), (7, .int y7), (8, .int y8), (9, .int y9), (10, .int y10), (11, .int y11)]) hx hb0 dL_law_534 hl (by decide) rfl (fun ls hl => ?_)
          obtain ⟨n_71, he⟩ := he
          exact l_L_law_536 l dC dI P ad tb  hx hb0 hr hlocks hml hown hts hK hk hL hX hbl hbA hKs hlw K108 hK108 n_71 y6 y7 y8 y9 y10 y11 x_30 x_70 h_38 he _ _ ls hP hD hS (lv_sub hl [2, 3, 4, 5, 6, 7, 8, 9, 10, 11, 12, 13, 1, 0] rfl)
      · have he := he.1 c_34
        refine lv_sipush (v := (10801 : Int32)) hx hb0 dL_law_386 (by decide) ?_
        refine lv_goto (tgt := 395) hx hb0 dL_law_389 (by decide) ?_
        refine ga_si ⟨hx, hb0, hml, hown, hts⟩ (gKC_keep tb _) (law_K hKs hlw hS) hK hP hD hS [.int x_30, .int (10801 : Int32)] [] (c_L_low l dC dI P ad tb x_30 (10801 : Int32) h_33 _ he) gm_L_low st_yL_low ml_RL_107 rfl rfl ⟨Nat.le_of_ble_eq_true rfl, Nat.le_of_ble_eq_true rfl⟩ rfl hl.1 rfl (Nat.le_of_ble_eq_true rfl) dL_law_395 ⟨Nat.le_of_ble_eq_true rfl, Nat.le_of_ble_eq_true rfl⟩ (fun r_72 h_73 he H locs hP hD hS => ?_)
        refine lv_iload hx hb0 dL_law_398 (lv_at hl 0 rfl) ?_
        refine lv_bipush (v := (15 : Int32)) hx hb0 dL_law_400 (by decide) ?_
        refine lv_ishr hx hb0 dL_law_402 ?_
        refine lv_iconst (v := (3 : Int32)) hx hb0 dL_law_403 (by decide) ?_
        refine ga_si ⟨hx, hb0, hml, hown, hts⟩ (gKC_keep tb _) (law_K hKs hlw hS) hK hP hD hS [.int (x_30 >>> ((15 : Int32) &&& 31)), .int (3 : Int32)] [.int r_72] (c_L_low l dC dI P ad tb (x_30 >>> ((15 : Int32) &&& 31)) (3 : Int32) h_73 _ he) gm_L_low st_yL_low ml_RL_107 rfl rfl ⟨Nat.le_of_ble_eq_true rfl, Nat.le_of_ble_eq_true rfl⟩ rfl hl.1 rfl (Nat.le_of_ble_eq_true rfl) dL_law_404 ⟨Nat.le_of_ble_eq_true rfl, Nat.le_of_ble_eq_true rfl⟩ (fun r_74 h_75 he H locs hP hD hS => ?_)
        refine lv_if_ne (tgt := 416) hx hb0 dL_law_407 (by decide) (fun c_76 => ?_) (fun c_76 => ?_)
        · have he := he.2 c_76
          refine lv_sipush (v := (1000 : Int32)) hx hb0 dL_law_416 (by decide) ?_
          refine lv_isub hx hb0 dL_law_419 ?_
          refine lv_goto (tgt := 534) hx hb0 dL_law_420 (by decide) ?_
          refine lv_topi (fun x_77 ex_77 => ?_)
          have he := he x_77 ex_77
          refine lv_istore (lv' := [(13, .int x_77), (12, .int x_30), (0, .ref b), (1, .ref (ad 0)), (2, .ref (ad 158)), (3, .ref (ad 159)), (4, .ref (ad 160)), (5, .ref (ad 161)), (6, .int y6), (7, .int y7), (8, .int y8), (9, .int y9), (10, .int y10), (11, .int y11)]) hx hb0 dL_law_534 hl (by decide) rfl (fun ls hl => ?_)
          obtain ⟨n_78, he⟩ := he
          exact l_L_law_536 l dC dI P ad tb  hx hb0 hr hlocks hml hown hts hK hk hL hX hbl hbA hKs hlw K108 hK108 n_78 y6 y7 y8 y9 y10 y11 x_30 x_77 h_75 he _ _ ls hP hD hS (lv_sub hl [2, 3, 4, 5, 6, 7, 8, 9, 10, 11, 12, 13, 1, 0] rfl)
        · have he := he.1 c_76
          refine lv_sipush (v := (5400 : Int32)) hx hb0 dL_law_410 (by decide) ?_
          refine lv_goto (tgt := 419) hx hb0 dL_law_413 (by decide) ?_
          refine lv_isub hx hb0 dL_law_419 ?_
          refine lv_goto (tgt := 534) hx hb0 dL_law_420 (by decide) ?_
          refine lv_topi (fun x_79 ex_79 => ?_)
          have he := he x_79 ex_79
          refine lv_istore (lv' := [(13, .int x_79), (12, .int x_30), (0, .ref b), (1, .ref (ad 0)), (2, .ref (ad 158)), (3, .ref (ad 159)), (4, .ref (ad 160)), (5, .ref (ad 161)), (6, .int y6), (7, .int y7), (8, .int y8), (9, .int y9), (10, .int y10), (11, .int y11)]) hx hb0 dL_law_534 hl (by decide) rfl (fun ls hl => ?_)
          obtain ⟨n_80, he⟩ := he
          exact l_L_law_536 l dC dI P ad tb  hx hb0 hr hlocks hml hown hts hK hk hL hX hbl hbA hKs hlw K108 hK108 n_80 y6 y7 y8 y9 y10 y11 x_30 x_79 h_75 he _ _ ls hP hD hS (lv_sub hl [2, 3, 4, 5, 6, 7, 8, 9, 10, 11, 12, 13, 1, 0] rfl)
    · have he := he.2 c_31
      refine lv_iload hx hb0 dL_law_365 (lv_at hl 10 rfl) ?_
      refine lv_bipush (v := (7 : Int32)) hx hb0 dL_law_367 (by decide) ?_
      refine lv_icmp_ne (tgt := 423) hx hb0 dL_law_369 (by decide) (fun c_81 => ?_) (fun c_81 => ?_)
      · have he := he.2 c_81
        refine lv_iload hx hb0 dL_law_423 (lv_at hl 10 rfl) ?_
        refine lv_bipush (v := (8 : Int32)) hx hb0 dL_law_425 (by decide) ?_
        refine lv_icmp_ne (tgt := 473) hx hb0 dL_law_427 (by decide) (fun c_82 => ?_) (fun c_82 => ?_)
        · have he := he.2 c_82
          refine lv_iload hx hb0 dL_law_473 (lv_at hl 12 rfl) ?_
          refine lv_if_ne (tgt := 491) hx hb0 dL_law_475 (by decide) (fun c_83 => ?_) (fun c_83 => ?_)
          · have he := he.2 c_83
            refine lv_iload hx hb0 dL_law_491 (lv_at hl 12 rfl) ?_
            refine lv_iconst (v := (1 : Int32)) hx hb0 dL_law_493 (by decide) ?_
            refine lv_icmp_ne (tgt := 507) hx hb0 dL_law_494 (by decide) (fun c_84 => ?_) (fun c_84 => ?_)
            · have he := he.2 c_84
              refine lv_iload hx hb0 dL_law_507 (lv_at hl 12 rfl) ?_
              refine lv_iconst (v := (2 : Int32)) hx hb0 dL_law_509 (by decide) ?_
              refine lv_icmp_ne (tgt := 526) hx hb0 dL_law_510 (by decide) (fun c_85 => ?_) (fun c_85 => ?_)
              · have he := he.2 c_85
                refine lv_iload hx hb0 dL_law_526 (lv_at hl 0 rfl) ?_
                refine lv_sipush (v := (1801 : Int32)) hx hb0 dL_law_528 (by decide) ?_
                refine ga_si ⟨hx, hb0, hml, hown, hts⟩ (gKC_keep tb _) (law_K hKs hlw hS) hK hP hD hS [.int x_30, .int (1801 : Int32)] [] (c_L_low l dC dI P ad tb x_30 (1801 : Int32) h0 _ he) gm_L_low st_yL_low ml_RL_107 rfl rfl ⟨Nat.le_of_ble_eq_true rfl, Nat.le_of_ble_eq_true rfl⟩ rfl hl.1 rfl (Nat.le_of_ble_eq_true rfl) dL_law_531 ⟨Nat.le_of_ble_eq_true rfl, Nat.le_of_ble_eq_true rfl⟩ (fun r_86 h_87 he H locs hP hD hS => ?_)
                refine lv_istore (lv' := [(13, .int r_86), (12, .int x_30), (0, .ref b), (1, .ref (ad 0)), (2, .ref (ad 158)), (3, .ref (ad 159)), (4, .ref (ad 160)), (5, .ref (ad 161)), (6, .int y6), (7, .int y7), (8, .int y8), (9, .int y9), (10, .int y10), (11, .int y11)]) hx hb0 dL_law_534 hl (by decide) rfl (fun ls hl => ?_)
                obtain ⟨n_88, he⟩ := he
                exact l_L_law_536 l dC dI P ad tb  hx hb0 hr hlocks hml hown hts hK hk hL hX hbl hbA hKs hlw K108 hK108 n_88 y6 y7 y8 y9 y10 y11 x_30 r_86 h_87 he _ _ ls hP hD hS (lv_sub hl [2, 3, 4, 5, 6, 7, 8, 9, 10, 11, 12, 13, 1, 0] rfl)
              · have he := he.1 c_85
                refine lv_iconst (v := (1 : Int32)) hx hb0 dL_law_513 (by decide) ?_
                refine lv_iload hx hb0 dL_law_514 (lv_at hl 0 rfl) ?_
                refine lv_sipush (v := (200 : Int32)) hx hb0 dL_law_516 (by decide) ?_
                refine ga_si ⟨hx, hb0, hml, hown, hts⟩ (gKC_keep tb _) (law_K hKs hlw hS) hK hP hD hS [.int x_30, .int (200 : Int32)] [.int (1 : Int32)] (c_L_low l dC dI P ad tb x_30 (200 : Int32) h0 _ he) gm_L_low st_yL_low ml_RL_107 rfl rfl ⟨Nat.le_of_ble_eq_true rfl, Nat.le_of_ble_eq_true rfl⟩ rfl hl.1 rfl (Nat.le_of_ble_eq_true rfl) dL_law_519 ⟨Nat.le_of_ble_eq_true rfl, Nat.le_of_ble_eq_true rfl⟩ (fun r_89 h_90 he H locs hP hD hS => ?_)
                refine lv_iadd hx hb0 dL_law_522 ?_
                refine lv_goto (tgt := 534) hx hb0 dL_law_523 (by decide) ?_
                refine lv_topi (fun x_91 ex_91 => ?_)
                have he := he x_91 ex_91
                refine lv_istore (lv' := [(13, .int x_91), (12, .int x_30), (0, .ref b), (1, .ref (ad 0)), (2, .ref (ad 158)), (3, .ref (ad 159)), (4, .ref (ad 160)), (5, .ref (ad 161)), (6, .int y6), (7, .int y7), (8, .int y8), (9, .int y9), (10, .int y10), (11, .int y11)]) hx hb0 dL_law_534 hl (by decide) rfl (fun ls hl => ?_)
                obtain ⟨n_92, he⟩ := he
                exact l_L_law_536 l dC dI P ad tb  hx hb0 hr hlocks hml hown hts hK hk hL hX hbl hbA hKs hlw K108 hK108 n_92 y6 y7 y8 y9 y10 y11 x_30 x_91 h_90 he _ _ ls hP hD hS (lv_sub hl [2, 3, 4, 5, 6, 7, 8, 9, 10, 11, 12, 13, 1, 0] rfl)
            · have he := he.1 c_84
              refine lv_iload hx hb0 dL_law_497 (lv_at hl 0 rfl) ?_
              refine lv_bipush (v := (31 : Int32)) hx hb0 dL_law_499 (by decide) ?_
              refine ga_si ⟨hx, hb0, hml, hown, hts⟩ (gKC_keep tb _) (law_K hKs hlw hS) hK hP hD hS [.int x_30, .int (31 : Int32)] [] (c_L_low l dC dI P ad tb x_30 (31 : Int32) h0 _ he) gm_L_low st_yL_low ml_RL_107 rfl rfl ⟨Nat.le_of_ble_eq_true rfl, Nat.le_of_ble_eq_true rfl⟩ rfl hl.1 rfl (Nat.le_of_ble_eq_true rfl) dL_law_501 ⟨Nat.le_of_ble_eq_true rfl, Nat.le_of_ble_eq_true rfl⟩ (fun r_93 h_94 he H locs hP hD hS => ?_)
              refine lv_goto (tgt := 534) hx hb0 dL_law_504 (by decide) ?_
              refine lv_istore (lv' := [(13, .int r_93), (12, .int x_30), (0, .ref b), (1, .ref (ad 0)), (2, .ref (ad 158)), (3, .ref (ad 159)), (4, .ref (ad 160)), (5, .ref (ad 161)), (6, .int y6), (7, .int y7), (8, .int y8), (9, .int y9), (10, .int y10), (11, .int y11)]) hx hb0 dL_law_534 hl (by decide) rfl (fun ls hl => ?_)
              obtain ⟨n_95, he⟩ := he
              exact l_L_law_536 l dC dI P ad tb  hx hb0 hr hlocks hml hown hts hK hk hL hX hbl hbA hKs hlw K108 hK108 n_95 y6 y7 y8 y9 y10 y11 x_30 r_93 h_94 he _ _ ls hP hD hS (lv_sub hl [2, 3, 4, 5, 6, 7, 8, 9, 10, 11, 12, 13, 1, 0] rfl)
          · have he := he.1 c_83
            refine lv_iload hx hb0 dL_law_478 (lv_at hl 0 rfl) ?_
            refine lv_bipush (v := (61 : Int32)) hx hb0 dL_law_480 (by decide) ?_
            refine ga_si ⟨hx, hb0, hml, hown, hts⟩ (gKC_keep tb _) (law_K hKs hlw hS) hK hP hD hS [.int x_30, .int (61 : Int32)] [] (c_L_low l dC dI P ad tb x_30 (61 : Int32) h0 _ he) gm_L_low st_yL_low ml_RL_107 rfl rfl ⟨Nat.le_of_ble_eq_true rfl, Nat.le_of_ble_eq_true rfl⟩ rfl hl.1 rfl (Nat.le_of_ble_eq_true rfl) dL_law_482 ⟨Nat.le_of_ble_eq_true rfl, Nat.le_of_ble_eq_true rfl⟩ (fun r_96 h_97 he H locs hP hD hS => ?_)
            refine lv_bipush (v := (30 : Int32)) hx hb0 dL_law_485 (by decide) ?_
            refine lv_isub hx hb0 dL_law_487 ?_
            refine lv_goto (tgt := 534) hx hb0 dL_law_488 (by decide) ?_
            refine lv_topi (fun x_98 ex_98 => ?_)
            have he := he x_98 ex_98
            refine lv_istore (lv' := [(13, .int x_98), (12, .int x_30), (0, .ref b), (1, .ref (ad 0)), (2, .ref (ad 158)), (3, .ref (ad 159)), (4, .ref (ad 160)), (5, .ref (ad 161)), (6, .int y6), (7, .int y7), (8, .int y8), (9, .int y9), (10, .int y10), (11, .int y11)]) hx hb0 dL_law_534 hl (by decide) rfl (fun ls hl => ?_)
            obtain ⟨n_99, he⟩ := he
            exact l_L_law_536 l dC dI P ad tb  hx hb0 hr hlocks hml hown hts hK hk hL hX hbl hbA hKs hlw K108 hK108 n_99 y6 y7 y8 y9 y10 y11 x_30 x_98 h_97 he _ _ ls hP hD hS (lv_sub hl [2, 3, 4, 5, 6, 7, 8, 9, 10, 11, 12, 13, 1, 0] rfl)
        · have he := he.1 c_82
          refine lv_iload hx hb0 dL_law_430 (lv_at hl 12 rfl) ?_
          refine lv_if_ne (tgt := 445) hx hb0 dL_law_432 (by decide) (fun c_100 => ?_) (fun c_100 => ?_)
          · have he := he.2 c_100
            refine lv_iload hx hb0 dL_law_445 (lv_at hl 12 rfl) ?_
            refine lv_iconst (v := (1 : Int32)) hx hb0 dL_law_447 (by decide) ?_
            refine lv_icmp_ne (tgt := 464) hx hb0 dL_law_448 (by decide) (fun c_101 => ?_) (fun c_101 => ?_)
            · have he := he.2 c_101
              refine lv_iload hx hb0 dL_law_464 (lv_at hl 0 rfl) ?_
              refine lv_iconst (v := (2 : Int32)) hx hb0 dL_law_466 (by decide) ?_
              refine ga_si ⟨hx, hb0, hml, hown, hts⟩ (gKC_keep tb _) (law_K hKs hlw hS) hK hP hD hS [.int x_30, .int (2 : Int32)] [] (c_L_low l dC dI P ad tb x_30 (2 : Int32) h0 _ he) gm_L_low st_yL_low ml_RL_107 rfl rfl ⟨Nat.le_of_ble_eq_true rfl, Nat.le_of_ble_eq_true rfl⟩ rfl hl.1 rfl (Nat.le_of_ble_eq_true rfl) dL_law_467 ⟨Nat.le_of_ble_eq_true rfl, Nat.le_of_ble_eq_true rfl⟩ (fun r_102 h_103 he H locs hP hD hS => ?_)
              refine lv_goto (tgt := 534) hx hb0 dL_law_470 (by decide) ?_
              refine lv_istore (lv' := [(13, .int r_102), (12, .int x_30), (0, .ref b), (1, .ref (ad 0)), (2, .ref (ad 158)), (3, .ref (ad 159)), (4, .ref (ad 160)), (5, .ref (ad 161)), (6, .int y6), (7, .int y7), (8, .int y8), (9, .int y9), (10, .int y10), (11, .int y11)]) hx hb0 dL_law_534 hl (by decide) rfl (fun ls hl => ?_)
              obtain ⟨n_104, he⟩ := he
              exact l_L_law_536 l dC dI P ad tb  hx hb0 hr hlocks hml hown hts hK hk hL hX hbl hbA hKs hlw K108 hK108 n_104 y6 y7 y8 y9 y10 y11 x_30 r_102 h_103 he _ _ ls hP hD hS (lv_sub hl [2, 3, 4, 5, 6, 7, 8, 9, 10, 11, 12, 13, 1, 0] rfl)
            · have he := he.1 c_101
              refine lv_iload hx hb0 dL_law_451 (lv_at hl 0 rfl) ?_
              refine lv_bipush (v := (121 : Int32)) hx hb0 dL_law_453 (by decide) ?_
              refine ga_si ⟨hx, hb0, hml, hown, hts⟩ (gKC_keep tb _) (law_K hKs hlw hS) hK hP hD hS [.int x_30, .int (121 : Int32)] [] (c_L_low l dC dI P ad tb x_30 (121 : Int32) h0 _ he) gm_L_low st_yL_low ml_RL_107 rfl rfl ⟨Nat.le_of_ble_eq_true rfl, Nat.le_of_ble_eq_true rfl⟩ rfl hl.1 rfl (Nat.le_of_ble_eq_true rfl) dL_law_455 ⟨Nat.le_of_ble_eq_true rfl, Nat.le_of_ble_eq_true rfl⟩ (fun r_105 h_106 he H locs hP hD hS => ?_)
              refine lv_bipush (v := (60 : Int32)) hx hb0 dL_law_458 (by decide) ?_
              refine lv_isub hx hb0 dL_law_460 ?_
              refine lv_goto (tgt := 534) hx hb0 dL_law_461 (by decide) ?_
              refine lv_topi (fun x_107 ex_107 => ?_)
              have he := he x_107 ex_107
              refine lv_istore (lv' := [(13, .int x_107), (12, .int x_30), (0, .ref b), (1, .ref (ad 0)), (2, .ref (ad 158)), (3, .ref (ad 159)), (4, .ref (ad 160)), (5, .ref (ad 161)), (6, .int y6), (7, .int y7), (8, .int y8), (9, .int y9), (10, .int y10), (11, .int y11)]) hx hb0 dL_law_534 hl (by decide) rfl (fun ls hl => ?_)
              obtain ⟨n_108, he⟩ := he
              exact l_L_law_536 l dC dI P ad tb  hx hb0 hr hlocks hml hown hts hK hk hL hX hbl hbA hKs hlw K108 hK108 n_108 y6 y7 y8 y9 y10 y11 x_30 x_107 h_106 he _ _ ls hP hD hS (lv_sub hl [2, 3, 4, 5, 6, 7, 8, 9, 10, 11, 12, 13, 1, 0] rfl)
          · have he := he.1 c_100
            refine lv_iload hx hb0 dL_law_435 (lv_at hl 0 rfl) ?_
            refine lv_bipush (v := (10 : Int32)) hx hb0 dL_law_437 (by decide) ?_
            refine ga_si ⟨hx, hb0, hml, hown, hts⟩ (gKC_keep tb _) (law_K hKs hlw hS) hK hP hD hS [.int x_30, .int (10 : Int32)] [] (c_L_low l dC dI P ad tb x_30 (10 : Int32) h0 _ he) gm_L_low st_yL_low ml_RL_107 rfl rfl ⟨Nat.le_of_ble_eq_true rfl, Nat.le_of_ble_eq_true rfl⟩ rfl hl.1 rfl (Nat.le_of_ble_eq_true rfl) dL_law_439 ⟨Nat.le_of_ble_eq_true rfl, Nat.le_of_ble_eq_true rfl⟩ (fun r_109 h_110 he H locs hP hD hS => ?_)
            refine lv_goto (tgt := 534) hx hb0 dL_law_442 (by decide) ?_
            refine lv_istore (lv' := [(13, .int r_109), (12, .int x_30), (0, .ref b), (1, .ref (ad 0)), (2, .ref (ad 158)), (3, .ref (ad 159)), (4, .ref (ad 160)), (5, .ref (ad 161)), (6, .int y6), (7, .int y7), (8, .int y8), (9, .int y9), (10, .int y10), (11, .int y11)]) hx hb0 dL_law_534 hl (by decide) rfl (fun ls hl => ?_)
            obtain ⟨n_111, he⟩ := he
            exact l_L_law_536 l dC dI P ad tb  hx hb0 hr hlocks hml hown hts hK hk hL hX hbl hbA hKs hlw K108 hK108 n_111 y6 y7 y8 y9 y10 y11 x_30 r_109 h_110 he _ _ ls hP hD hS (lv_sub hl [2, 3, 4, 5, 6, 7, 8, 9, 10, 11, 12, 13, 1, 0] rfl)
      · have he := he.1 c_81
        refine lv_iload hx hb0 dL_law_372 (lv_at hl 0 rfl) ?_
        refine lv_iload hx hb0 dL_law_374 (lv_at hl 0 rfl) ?_
        refine lv_bipush (v := (15 : Int32)) hx hb0 dL_law_376 (by decide) ?_
        refine lv_ishr hx hb0 dL_law_378 ?_
        refine lv_iconst (v := (3 : Int32)) hx hb0 dL_law_379 (by decide) ?_
        refine ga_si ⟨hx, hb0, hml, hown, hts⟩ (gKC_keep tb _) (law_K hKs hlw hS) hK hP hD hS [.int (x_30 >>> ((15 : Int32) &&& 31)), .int (3 : Int32)] [.int x_30] (c_L_low l dC dI P ad tb (x_30 >>> ((15 : Int32) &&& 31)) (3 : Int32) h0 _ he) gm_L_low st_yL_low ml_RL_107 rfl rfl ⟨Nat.le_of_ble_eq_true rfl, Nat.le_of_ble_eq_true rfl⟩ rfl hl.1 rfl (Nat.le_of_ble_eq_true rfl) dL_law_380 ⟨Nat.le_of_ble_eq_true rfl, Nat.le_of_ble_eq_true rfl⟩ (fun r_112 h_113 he H locs hP hD hS => ?_)
        refine lv_if_ne (tgt := 392) hx hb0 dL_law_383 (by decide) (fun c_114 => ?_) (fun c_114 => ?_)
        · have he := he.2 c_114
          refine lv_sipush (v := (2001 : Int32)) hx hb0 dL_law_392 (by decide) ?_
          refine ga_si ⟨hx, hb0, hml, hown, hts⟩ (gKC_keep tb _) (law_K hKs hlw hS) hK hP hD hS [.int x_30, .int (2001 : Int32)] [] (c_L_low l dC dI P ad tb x_30 (2001 : Int32) h_113 _ he) gm_L_low st_yL_low ml_RL_107 rfl rfl ⟨Nat.le_of_ble_eq_true rfl, Nat.le_of_ble_eq_true rfl⟩ rfl hl.1 rfl (Nat.le_of_ble_eq_true rfl) dL_law_395 ⟨Nat.le_of_ble_eq_true rfl, Nat.le_of_ble_eq_true rfl⟩ (fun r_115 h_116 he H locs hP hD hS => ?_)
          refine lv_iload hx hb0 dL_law_398 (lv_at hl 0 rfl) ?_
          refine lv_bipush (v := (15 : Int32)) hx hb0 dL_law_400 (by decide) ?_
          refine lv_ishr hx hb0 dL_law_402 ?_
          refine lv_iconst (v := (3 : Int32)) hx hb0 dL_law_403 (by decide) ?_
          refine ga_si ⟨hx, hb0, hml, hown, hts⟩ (gKC_keep tb _) (law_K hKs hlw hS) hK hP hD hS [.int (x_30 >>> ((15 : Int32) &&& 31)), .int (3 : Int32)] [.int r_115] (c_L_low l dC dI P ad tb (x_30 >>> ((15 : Int32) &&& 31)) (3 : Int32) h_116 _ he) gm_L_low st_yL_low ml_RL_107 rfl rfl ⟨Nat.le_of_ble_eq_true rfl, Nat.le_of_ble_eq_true rfl⟩ rfl hl.1 rfl (Nat.le_of_ble_eq_true rfl) dL_law_404 ⟨Nat.le_of_ble_eq_true rfl, Nat.le_of_ble_eq_true rfl⟩ (fun r_117 h_118 he H locs hP hD hS => ?_)
          refine lv_if_ne (tgt := 416) hx hb0 dL_law_407 (by decide) (fun c_119 => ?_) (fun c_119 => ?_)
          · have he := he.2 c_119
            refine lv_sipush (v := (1000 : Int32)) hx hb0 dL_law_416 (by decide) ?_
            refine lv_isub hx hb0 dL_law_419 ?_
            refine lv_goto (tgt := 534) hx hb0 dL_law_420 (by decide) ?_
            refine lv_topi (fun x_120 ex_120 => ?_)
            have he := he x_120 ex_120
            refine lv_istore (lv' := [(13, .int x_120), (12, .int x_30), (0, .ref b), (1, .ref (ad 0)), (2, .ref (ad 158)), (3, .ref (ad 159)), (4, .ref (ad 160)), (5, .ref (ad 161)), (6, .int y6), (7, .int y7), (8, .int y8), (9, .int y9), (10, .int y10), (11, .int y11)]) hx hb0 dL_law_534 hl (by decide) rfl (fun ls hl => ?_)
            obtain ⟨n_121, he⟩ := he
            exact l_L_law_536 l dC dI P ad tb  hx hb0 hr hlocks hml hown hts hK hk hL hX hbl hbA hKs hlw K108 hK108 n_121 y6 y7 y8 y9 y10 y11 x_30 x_120 h_118 he _ _ ls hP hD hS (lv_sub hl [2, 3, 4, 5, 6, 7, 8, 9, 10, 11, 12, 13, 1, 0] rfl)
          · have he := he.1 c_119
            refine lv_sipush (v := (5400 : Int32)) hx hb0 dL_law_410 (by decide) ?_
            refine lv_goto (tgt := 419) hx hb0 dL_law_413 (by decide) ?_
            refine lv_isub hx hb0 dL_law_419 ?_
            refine lv_goto (tgt := 534) hx hb0 dL_law_420 (by decide) ?_
            refine lv_topi (fun x_122 ex_122 => ?_)
            have he := he x_122 ex_122
            refine lv_istore (lv' := [(13, .int x_122), (12, .int x_30), (0, .ref b), (1, .ref (ad 0)), (2, .ref (ad 158)), (3, .ref (ad 159)), (4, .ref (ad 160)), (5, .ref (ad 161)), (6, .int y6), (7, .int y7), (8, .int y8), (9, .int y9), (10, .int y10), (11, .int y11)]) hx hb0 dL_law_534 hl (by decide) rfl (fun ls hl => ?_)
            obtain ⟨n_123, he⟩ := he
            exact l_L_law_536 l dC dI P ad tb  hx hb0 hr hlocks hml hown hts hK hk hL hX hbl hbA hKs hlw K108 hK108 n_123 y6 y7 y8 y9 y10 y11 x_30 x_122 h_118 he _ _ ls hP hD hS (lv_sub hl [2, 3, 4, 5, 6, 7, 8, 9, 10, 11, 12, 13, 1, 0] rfl)
        · have he := he.1 c_114
          refine lv_sipush (v := (10801 : Int32)) hx hb0 dL_law_386 (by decide) ?_
          refine lv_goto (tgt := 395) hx hb0 dL_law_389 (by decide) ?_
          refine ga_si ⟨hx, hb0, hml, hown, hts⟩ (gKC_keep tb _) (law_K hKs hlw hS) hK hP hD hS [.int x_30, .int (10801 : Int32)] [] (c_L_low l dC dI P ad tb x_30 (10801 : Int32) h_113 _ he) gm_L_low st_yL_low ml_RL_107 rfl rfl ⟨Nat.le_of_ble_eq_true rfl, Nat.le_of_ble_eq_true rfl⟩ rfl hl.1 rfl (Nat.le_of_ble_eq_true rfl) dL_law_395 ⟨Nat.le_of_ble_eq_true rfl, Nat.le_of_ble_eq_true rfl⟩ (fun r_124 h_125 he H locs hP hD hS => ?_)
          refine lv_iload hx hb0 dL_law_398 (lv_at hl 0 rfl) ?_
          refine lv_bipush (v := (15 : Int32)) hx hb0 dL_law_400 (by decide) ?_
          refine lv_ishr hx hb0 dL_law_402 ?_
          refine lv_iconst (v := (3 : Int32)) hx hb0 dL_law_403 (by decide) ?_
          refine ga_si ⟨hx, hb0, hml, hown, hts⟩ (gKC_keep tb _) (law_K hKs hlw hS) hK hP hD hS [.int (x_30 >>> ((15 : Int32) &&& 31)), .int (3 : Int32)] [.int r_124] (c_L_low l dC dI P ad tb (x_30 >>> ((15 : Int32) &&& 31)) (3 : Int32) h_125 _ he) gm_L_low st_yL_low ml_RL_107 rfl rfl ⟨Nat.le_of_ble_eq_true rfl, Nat.le_of_ble_eq_true rfl⟩ rfl hl.1 rfl (Nat.le_of_ble_eq_true rfl) dL_law_404 ⟨Nat.le_of_ble_eq_true rfl, Nat.le_of_ble_eq_true rfl⟩ (fun r_126 h_127 he H locs hP hD hS => ?_)
          refine lv_if_ne (tgt := 416) hx hb0 dL_law_407 (by decide) (fun c_128 => ?_) (fun c_128 => ?_)
          · have he := he.2 c_128
            refine lv_sipush (v := (1000 : Int32)) hx hb0 dL_law_416 (by decide) ?_
            refine lv_isub hx hb0 dL_law_419 ?_
            refine lv_goto (tgt := 534) hx hb0 dL_law_420 (by decide) ?_
            refine lv_topi (fun x_129 ex_129 => ?_)
            have he := he x_129 ex_129
            refine lv_istore (lv' := [(13, .int x_129), (12, .int x_30), (0, .ref b), (1, .ref (ad 0)), (2, .ref (ad 158)), (3, .ref (ad 159)), (4, .ref (ad 160)), (5, .ref (ad 161)), (6, .int y6), (7, .int y7), (8, .int y8), (9, .int y9), (10, .int y10), (11, .int y11)]) hx hb0 dL_law_534 hl (by decide) rfl (fun ls hl => ?_)
            obtain ⟨n_130, he⟩ := he
            exact l_L_law_536 l dC dI P ad tb  hx hb0 hr hlocks hml hown hts hK hk hL hX hbl hbA hKs hlw K108 hK108 n_130 y6 y7 y8 y9 y10 y11 x_30 x_129 h_127 he _ _ ls hP hD hS (lv_sub hl [2, 3, 4, 5, 6, 7, 8, 9, 10, 11, 12, 13, 1, 0] rfl)
          · have he := he.1 c_128
            refine lv_sipush (v := (5400 : Int32)) hx hb0 dL_law_410 (by decide) ?_
            refine lv_goto (tgt := 419) hx hb0 dL_law_413 (by decide) ?_
            refine lv_isub hx hb0 dL_law_419 ?_
            refine lv_goto (tgt := 534) hx hb0 dL_law_420 (by decide) ?_
            refine lv_topi (fun x_131 ex_131 => ?_)
            have he := he x_131 ex_131
            refine lv_istore (lv' := [(13, .int x_131), (12, .int x_30), (0, .ref b), (1, .ref (ad 0)), (2, .ref (ad 158)), (3, .ref (ad 159)), (4, .ref (ad 160)), (5, .ref (ad 161)), (6, .int y6), (7, .int y7), (8, .int y8), (9, .int y9), (10, .int y10), (11, .int y11)]) hx hb0 dL_law_534 hl (by decide) rfl (fun ls hl => ?_)
            obtain ⟨n_132, he⟩ := he
            exact l_L_law_536 l dC dI P ad tb  hx hb0 hr hlocks hml hown hts hK hk hL hX hbl hbA hKs hlw K108 hK108 n_132 y6 y7 y8 y9 y10 y11 x_30 x_131 h_127 he _ _ ls hP hD hS (lv_sub hl [2, 3, 4, 5, 6, 7, 8, 9, 10, 11, 12, 13, 1, 0] rfl)
set_option maxHeartbeats 4000000 in
set_option maxRecDepth 100000 in
theorem l_L_law_275 (l : Launch) (dC : Nat → ClassId) (dI : Nat → Nat → Nat) (P : gP) (ad : Nat → Nat) (tb : Nat → Nat) {b L : Nat} {xs : Nat → Int32} {p : Program} {e : Env} {s : State} {m : MethodId} {below : List Frame} {meth : Method} {c : Code} (hx : p.tables.exec = Jvm.exec) (hb0 : c.code = code) (hr : meth.sig.returnType = ret) (hlocks : meth.locks = false) (hml : c.maxLocals = 17) (hown : s.vm.findClass RL = some m.cls) (hts : ∀ w ∈ TB, w.before #[Value.ref b] s = true) (hK : va_K (dC, dI) vwCl (tyC P) s) (hk : gKC tb (fun q : Nat => s.heap.size ≤ q) s) (hL : L ≤ 260) (hX : va_X b L xs s s.heap) (hbl : b < s.heap.size) (hbA : ¬ (fun q : Nat => s.heap.size ≤ q) b) (hKs : gKC tb (fun q : Nat => s.heap.size ≤ q) s) (hlw : ∀ k, k < 162 → s.heap.size ≤ ad k) (K108 : Int32 → Hp → Prop) (hK108 : ∀ (z0 : Int32) (h0 : Hp), K108 z0 h0 → ∀ (H : Heap) (locs : List Loc) (ls : Array Slot), va_P (dC, dI) vwCl (gW 162 (cE P ad) ad h0) H → va_D (fun q : Nat => s.heap.size ≤ q) (gW 162 (cE P ad) ad h0) → va_S (fun q : Nat => s.heap.size ≤ q) s.heap H locs → lv_has ls 17 [(0, .ref b), (1, .ref (ad 0)), (2, .ref (ad 158)), (3, .ref (ad 159)), (4, .ref (ad 160)), (5, .ref (ad 161)), (6, .int z0)] → W p l e room_1 s m #[Value.ref b] below meth c H locs 162 1374 (lw_Z below #[Value.ref b] s) (F0 m 108 ls [])) : ∀ (n : Nat) (y6 : Int32) (y7 : Int32) (y8 : Int32) (y9 : Int32) (y10 : Int32) (h0 : Hp), F_L_law_L275  (cellv L xs) K108 n y6 y7 y8 y9 y10 h0 → ∀ (H : Heap) (locs : List Loc) (ls : Array Slot), va_P (dC, dI) vwCl (gW 162 (cE P ad) ad h0) H → va_D (fun q : Nat => s.heap.size ≤ q) (gW 162 (cE P ad) ad h0) → va_S (fun q : Nat => s.heap.size ≤ q) s.heap H locs → lv_has ls 17 [(0, .ref b), (1, .ref (ad 0)), (2, .ref (ad 158)), (3, .ref (ad 159)), (4, .ref (ad 160)), (5, .ref (ad 161)), (6, .int y6), (7, .int y7), (8, .int y8), (9, .int y9), (10, .int y10)] → W p l e room_1 s m #[Value.ref b] below meth c H locs 162 1374 (lw_Z below #[Value.ref b] s) (F0 m 275 ls []) := by
  intro n
  induction n with
  | zero =>
    intro y6 y7 y8 y9 y10 h0 he
    exact he.elim
  | succ n ih =>
    intro y6 y7 y8 y9 y10 h0 he H locs ls hP hD hS hl
    rw [F_L_law_L275] at he
    refine lv_iload hx hb0 dL_law_275 (lv_at hl 9 rfl) ?_
    refine lv_if_eq (tgt := 286) hx hb0 dL_law_277 (by decide) (fun c_24 => ?_) (fun c_24 => ?_)
    · have he := he.1 c_24
      refine lv_iload hx hb0 dL_law_286 (lv_at hl 8 rfl) ?_
      refine lv_iconst (v := (3 : Int32)) hx hb0 dL_law_288 (by decide) ?_
      refine lv_ishr hx hb0 dL_law_289 ?_
      refine lv_iload hx hb0 dL_law_290 (lv_at hl 8 rfl) ?_
      refine lv_bipush (v := (20 : Int32)) hx hb0 dL_law_292 (by decide) ?_
      refine lv_ishr hx hb0 dL_law_294 ?_
      refine lv_bipush (v := (9 : Int32)) hx hb0 dL_law_295 (by decide) ?_
      refine ga_si ⟨hx, hb0, hml, hown, hts⟩ (gKC_keep tb _) (law_K hKs hlw hS) hK hP hD hS [.int (y8 >>> ((20 : Int32) &&& 31)), .int (9 : Int32)] [.int (y8 >>> ((3 : Int32) &&& 31))] (c_L_low l dC dI P ad tb (y8 >>> ((20 : Int32) &&& 31)) (9 : Int32) h0 _ he) gm_L_low st_yL_low ml_RL_107 rfl rfl ⟨Nat.le_of_ble_eq_true rfl, Nat.le_of_ble_eq_true rfl⟩ rfl hl.1 rfl (Nat.le_of_ble_eq_true rfl) dL_law_297 ⟨Nat.le_of_ble_eq_true rfl, Nat.le_of_ble_eq_true rfl⟩ (fun r_25 h_26 he H locs hP hD hS => ?_)
      refine lv_if_eq (tgt := 310) hx hb0 dL_law_300 (by decide) (fun c_27 => ?_) (fun c_27 => ?_)
      · have he := he.1 c_27
        refine lv_bipush (v := (9 : Int32)) hx hb0 dL_law_310 (by decide) ?_
        refine lv_goto (tgt := 319) hx hb0 dL_law_312 (by decide) ?_
        refine ga_si ⟨hx, hb0, hml, hown, hts⟩ (gKC_keep tb _) (law_K hKs hlw hS) hK hP hD hS [.int (y8 >>> ((3 : Int32) &&& 31)), .int (9 : Int32)] [] (c_L_low l dC dI P ad tb (y8 >>> ((3 : Int32) &&& 31)) (9 : Int32) h_26 _ he) gm_L_low st_yL_low ml_RL_107 rfl rfl ⟨Nat.le_of_ble_eq_true rfl, Nat.le_of_ble_eq_true rfl⟩ rfl hl.1 rfl (Nat.le_of_ble_eq_true rfl) dL_law_319 ⟨Nat.le_of_ble_eq_true rfl, Nat.le_of_ble_eq_true rfl⟩ (fun r_28 h_29 he H locs hP hD hS => ?_)
        refine lv_goto (tgt := 351) hx hb0 dL_law_322 (by decide) ?_
        refine lv_istore (lv' := [(11, .int r_28), (0, .ref b), (1, .ref (ad 0)), (2, .ref (ad 158)), (3, .ref (ad 159)), (4, .ref (ad 160)), (5, .ref (ad 161)), (6, .int y6), (7, .int y7), (8, .int y8), (9, .int y9), (10, .int y10)]) hx hb0 dL_law_351 hl (by decide) rfl (fun ls hl => ?_)
        obtain ⟨n_133, he⟩ := he
        exact l_L_law_353 l dC dI P ad tb  hx hb0 hr hlocks hml hown hts hK hk hL hX hbl hbA hKs hlw K108 hK108 n_133 y6 y7 y8 y9 y10 r_28 h_29 he _ _ ls hP hD hS (lv_sub hl [1, 2, 3, 4, 5, 6, 7, 8, 9, 10, 11, 0] rfl)
      · have he := he.2 c_27
        refine lv_aload_n hx hb0 dL_law_303 rfl (lv_at hl 2 rfl) ?_
        refine lv_bipush (v := (12 : Int32)) hx hb0 dL_law_304 (by decide) ?_
        refine gx_ialdK hx hb0 hK hP 158 0 (by decide) cE_t158 rfl (vp_lit (12 : Int32) (by decide) (by decide)) 12 rfl dL_law_306 ?_
        refine lv_if_ne (tgt := 315) hx hb0 dL_law_307 (by decide) (fun c_134 => ?_) (fun c_134 => ?_)
        · have he := he.2 c_134
          refine lv_aload_n hx hb0 dL_law_315 rfl (lv_at hl 2 rfl) ?_
          refine lv_bipush (v := (12 : Int32)) hx hb0 dL_law_316 (by decide) ?_
          refine gx_ialdK hx hb0 hK hP 158 0 (by decide) cE_t158 rfl (vp_lit (12 : Int32) (by decide) (by decide)) 12 rfl dL_law_318 ?_
          refine ga_si ⟨hx, hb0, hml, hown, hts⟩ (gKC_keep tb _) (law_K hKs hlw hS) hK hP hD hS [.int (y8 >>> ((3 : Int32) &&& 31)), .int (h_26 158 12)] [] (c_L_low l dC dI P ad tb (y8 >>> ((3 : Int32) &&& 31)) (h_26 158 12) h_26 _ he) gm_L_low st_yL_low ml_RL_107 rfl rfl ⟨Nat.le_of_ble_eq_true rfl, Nat.le_of_ble_eq_true rfl⟩ rfl hl.1 rfl (Nat.le_of_ble_eq_true rfl) dL_law_319 ⟨Nat.le_of_ble_eq_true rfl, Nat.le_of_ble_eq_true rfl⟩ (fun r_135 h_136 he H locs hP hD hS => ?_)
          refine lv_goto (tgt := 351) hx hb0 dL_law_322 (by decide) ?_
          refine lv_istore (lv' := [(11, .int r_135), (0, .ref b), (1, .ref (ad 0)), (2, .ref (ad 158)), (3, .ref (ad 159)), (4, .ref (ad 160)), (5, .ref (ad 161)), (6, .int y6), (7, .int y7), (8, .int y8), (9, .int y9), (10, .int y10)]) hx hb0 dL_law_351 hl (by decide) rfl (fun ls hl => ?_)
          obtain ⟨n_137, he⟩ := he
          exact l_L_law_353 l dC dI P ad tb  hx hb0 hr hlocks hml hown hts hK hk hL hX hbl hbA hKs hlw K108 hK108 n_137 y6 y7 y8 y9 y10 r_135 h_136 he _ _ ls hP hD hS (lv_sub hl [1, 2, 3, 4, 5, 6, 7, 8, 9, 10, 11, 0] rfl)
        · have he := he.1 c_134
          refine lv_bipush (v := (9 : Int32)) hx hb0 dL_law_310 (by decide) ?_
          refine lv_goto (tgt := 319) hx hb0 dL_law_312 (by decide) ?_
          refine ga_si ⟨hx, hb0, hml, hown, hts⟩ (gKC_keep tb _) (law_K hKs hlw hS) hK hP hD hS [.int (y8 >>> ((3 : Int32) &&& 31)), .int (9 : Int32)] [] (c_L_low l dC dI P ad tb (y8 >>> ((3 : Int32) &&& 31)) (9 : Int32) h_26 _ he) gm_L_low st_yL_low ml_RL_107 rfl rfl ⟨Nat.le_of_ble_eq_true rfl, Nat.le_of_ble_eq_true rfl⟩ rfl hl.1 rfl (Nat.le_of_ble_eq_true rfl) dL_law_319 ⟨Nat.le_of_ble_eq_true rfl, Nat.le_of_ble_eq_true rfl⟩ (fun r_138 h_139 he H locs hP hD hS => ?_)
          refine lv_goto (tgt := 351) hx hb0 dL_law_322 (by decide) ?_
          refine lv_istore (lv' := [(11, .int r_138), (0, .ref b), (1, .ref (ad 0)), (2, .ref (ad 158)), (3, .ref (ad 159)), (4, .ref (ad 160)), (5, .ref (ad 161)), (6, .int y6), (7, .int y7), (8, .int y8), (9, .int y9), (10, .int y10)]) hx hb0 dL_law_351 hl (by decide) rfl (fun ls hl => ?_)
          obtain ⟨n_140, he⟩ := he
          exact l_L_law_353 l dC dI P ad tb  hx hb0 hr hlocks hml hown hts hK hk hL hX hbl hbA hKs hlw K108 hK108 n_140 y6 y7 y8 y9 y10 r_138 h_139 he _ _ ls hP hD hS (lv_sub hl [1, 2, 3, 4, 5, 6, 7, 8, 9, 10, 11, 0] rfl)
    · have he := he.2 c_24
      refine lv_iload hx hb0 dL_law_280 (lv_at hl 9 rfl) ?_
      refine lv_iconst (v := (5 : Int32)) hx hb0 dL_law_282 (by decide) ?_
      refine lv_icmp_ne (tgt := 325) hx hb0 dL_law_283 (by decide) (fun c_141 => ?_) (fun c_141 => ?_)
      · have he := he.2 c_141
        refine lv_iload hx hb0 dL_law_325 (lv_at hl 9 rfl) ?_
        refine lv_bipush (v := (8 : Int32)) hx hb0 dL_law_327 (by decide) ?_
        refine lv_icmp_ne (tgt := 343) hx hb0 dL_law_329 (by decide) (fun c_142 => ?_) (fun c_142 => ?_)
        · have he := he.2 c_142
          refine lv_iload hx hb0 dL_law_343 (lv_at hl 8 rfl) ?_
          refine lv_iconst (v := (3 : Int32)) hx hb0 dL_law_345 (by decide) ?_
          refine lv_ishr hx hb0 dL_law_346 ?_
          refine lv_iconst (v := (4 : Int32)) hx hb0 dL_law_347 (by decide) ?_
          refine ga_si ⟨hx, hb0, hml, hown, hts⟩ (gKC_keep tb _) (law_K hKs hlw hS) hK hP hD hS [.int (y8 >>> ((3 : Int32) &&& 31)), .int (4 : Int32)] [] (c_L_low l dC dI P ad tb (y8 >>> ((3 : Int32) &&& 31)) (4 : Int32) h0 _ he) gm_L_low st_yL_low ml_RL_107 rfl rfl ⟨Nat.le_of_ble_eq_true rfl, Nat.le_of_ble_eq_true rfl⟩ rfl hl.1 rfl (Nat.le_of_ble_eq_true rfl) dL_law_348 ⟨Nat.le_of_ble_eq_true rfl, Nat.le_of_ble_eq_true rfl⟩ (fun r_143 h_144 he H locs hP hD hS => ?_)
          refine lv_istore (lv' := [(11, .int r_143), (0, .ref b), (1, .ref (ad 0)), (2, .ref (ad 158)), (3, .ref (ad 159)), (4, .ref (ad 160)), (5, .ref (ad 161)), (6, .int y6), (7, .int y7), (8, .int y8), (9, .int y9), (10, .int y10)]) hx hb0 dL_law_351 hl (by decide) rfl (fun ls hl => ?_)
          obtain ⟨n_145, he⟩ := he
          exact l_L_law_353 l dC dI P ad tb  hx hb0 hr hlocks hml hown hts hK hk hL hX hbl hbA hKs hlw K108 hK108 n_145 y6 y7 y8 y9 y10 r_143 h_144 he _ _ ls hP hD hS (lv_sub hl [1, 2, 3, 4, 5, 6, 7, 8, 9, 10, 11, 0] rfl)
        · have he := he.1 c_142
          refine lv_iload hx hb0 dL_law_332 (lv_at hl 8 rfl) ?_
          refine lv_iconst (v := (3 : Int32)) hx hb0 dL_law_334 (by decide) ?_
          refine lv_ishr hx hb0 dL_law_335 ?_
          refine lv_iconst (v := (3 : Int32)) hx hb0 dL_law_336 (by decide) ?_
          refine ga_si ⟨hx, hb0, hml, hown, hts⟩ (gKC_keep tb _) (law_K hKs hlw hS) hK hP hD hS [.int (y8 >>> ((3 : Int32) &&& 31)), .int (3 : Int32)] [] (c_L_low l dC dI P ad tb (y8 >>> ((3 : Int32) &&& 31)) (3 : Int32) h0 _ he) gm_L_low st_yL_low ml_RL_107 rfl rfl ⟨Nat.le_of_ble_eq_true rfl, Nat.le_of_ble_eq_true rfl⟩ rfl hl.1 rfl (Nat.le_of_ble_eq_true rfl) dL_law_337 ⟨Nat.le_of_ble_eq_true rfl, Nat.le_of_ble_eq_true rfl⟩ (fun r_146 h_147 he H locs hP hD hS => ?_)
          refine lv_goto (tgt := 351) hx hb0 dL_law_340 (by decide) ?_
          refine lv_istore (lv' := [(11, .int r_146), (0, .ref b), (1, .ref (ad 0)), (2, .ref (ad 158)), (3, .ref (ad 159)), (4, .ref (ad 160)), (5, .ref (ad 161)), (6, .int y6), (7, .int y7), (8, .int y8), (9, .int y9), (10, .int y10)]) hx hb0 dL_law_351 hl (by decide) rfl (fun ls hl => ?_)
          obtain ⟨n_148, he⟩ := he
          exact l_L_law_353 l dC dI P ad tb  hx hb0 hr hlocks hml hown hts hK hk hL hX hbl hbA hKs hlw K108 hK108 n_148 y6 y7 y8 y9 y10 r_146 h_147 he _ _ ls hP hD hS (lv_sub hl [1, 2, 3, 4, 5, 6, 7, 8, 9, 10, 11, 0] rfl)
      · have he := he.1 c_141
        refine lv_iload hx hb0 dL_law_286 (lv_at hl 8 rfl) ?_
        refine lv_iconst (v := (3 : Int32)) hx hb0 dL_law_288 (by decide) ?_
        refine lv_ishr hx hb0 dL_law_289 ?_
        refine lv_iload hx hb0 dL_law_290 (lv_at hl 8 rfl) ?_
        refine lv_bipush (v := (20 : Int32)) hx hb0 dL_law_292 (by decide) ?_
        refine lv_ishr hx hb0 dL_law_294 ?_
        refine lv_bipush (v := (9 : Int32)) hx hb0 dL_law_295 (by decide) ?_
        refine ga_si ⟨hx, hb0, hml, hown, hts⟩ (gKC_keep tb _) (law_K hKs hlw hS) hK hP hD hS [.int (y8 >>> ((20 : Int32) &&& 31)), .int (9 : Int32)] [.int (y8 >>> ((3 : Int32) &&& 31))] (c_L_low l dC dI P ad tb (y8 >>> ((20 : Int32) &&& 31)) (9 : Int32) h0 _ he) gm_L_low st_yL_low ml_RL_107 rfl rfl ⟨Nat.le_of_ble_eq_true rfl, Nat.le_of_ble_eq_true rfl⟩ rfl hl.1 rfl (Nat.le_of_ble_eq_true rfl) dL_law_297 ⟨Nat.le_of_ble_eq_true rfl, Nat.le_of_ble_eq_true rfl⟩ (fun r_149 h_150 he H locs hP hD hS => ?_)
        refine lv_if_eq (tgt := 310) hx hb0 dL_law_300 (by decide) (fun c_151 => ?_) (fun c_151 => ?_)
        · have he := he.1 c_151
          refine lv_bipush (v := (9 : Int32)) hx hb0 dL_law_310 (by decide) ?_
          refine lv_goto (tgt := 319) hx hb0 dL_law_312 (by decide) ?_
          refine ga_si ⟨hx, hb0, hml, hown, hts⟩ (gKC_keep tb _) (law_K hKs hlw hS) hK hP hD hS [.int (y8 >>> ((3 : Int32) &&& 31)), .int (9 : Int32)] [] (c_L_low l dC dI P ad tb (y8 >>> ((3 : Int32) &&& 31)) (9 : Int32) h_150 _ he) gm_L_low st_yL_low ml_RL_107 rfl rfl ⟨Nat.le_of_ble_eq_true rfl, Nat.le_of_ble_eq_true rfl⟩ rfl hl.1 rfl (Nat.le_of_ble_eq_true rfl) dL_law_319 ⟨Nat.le_of_ble_eq_true rfl, Nat.le_of_ble_eq_true rfl⟩ (fun r_152 h_153 he H locs hP hD hS => ?_)
          refine lv_goto (tgt := 351) hx hb0 dL_law_322 (by decide) ?_
          refine lv_istore (lv' := [(11, .int r_152), (0, .ref b), (1, .ref (ad 0)), (2, .ref (ad 158)), (3, .ref (ad 159)), (4, .ref (ad 160)), (5, .ref (ad 161)), (6, .int y6), (7, .int y7), (8, .int y8), (9, .int y9), (10, .int y10)]) hx hb0 dL_law_351 hl (by decide) rfl (fun ls hl => ?_)
          obtain ⟨n_154, he⟩ := he
          exact l_L_law_353 l dC dI P ad tb  hx hb0 hr hlocks hml hown hts hK hk hL hX hbl hbA hKs hlw K108 hK108 n_154 y6 y7 y8 y9 y10 r_152 h_153 he _ _ ls hP hD hS (lv_sub hl [1, 2, 3, 4, 5, 6, 7, 8, 9, 10, 11, 0] rfl)
        · have he := he.2 c_151
          refine lv_aload_n hx hb0 dL_law_303 rfl (lv_at hl 2 rfl) ?_
          refine lv_bipush (v := (12 : Int32)) hx hb0 dL_law_304 (by decide) ?_
          refine gx_ialdK hx hb0 hK hP 158 0 (by decide) cE_t158 rfl (vp_lit (12 : Int32) (by decide) (by decide)) 12 rfl dL_law_306 ?_
          refine lv_if_ne (tgt := 315) hx hb0 dL_law_307 (by decide) (fun c_155 => ?_) (fun c_155 => ?_)
          · have he := he.2 c_155
            refine lv_aload_n hx hb0 dL_law_315 rfl (lv_at hl 2 rfl) ?_
            refine lv_bipush (v := (12 : Int32)) hx hb0 dL_law_316 (by decide) ?_
            refine gx_ialdK hx hb0 hK hP 158 0 (by decide) cE_t158 rfl (vp_lit (12 : Int32) (by decide) (by decide)) 12 rfl dL_law_318 ?_
            refine ga_si ⟨hx, hb0, hml, hown, hts⟩ (gKC_keep tb _) (law_K hKs hlw hS) hK hP hD hS [.int (y8 >>> ((3 : Int32) &&& 31)), .int (h_150 158 12)] [] (c_L_low l dC dI P ad tb (y8 >>> ((3 : Int32) &&& 31)) (h_150 158 12) h_150 _ he) gm_L_low st_yL_low ml_RL_107 rfl rfl ⟨Nat.le_of_ble_eq_true rfl, Nat.le_of_ble_eq_true rfl⟩ rfl hl.1 rfl (Nat.le_of_ble_eq_true rfl) dL_law_319 ⟨Nat.le_of_ble_eq_true rfl, Nat.le_of_ble_eq_true rfl⟩ (fun r_156 h_157 he H locs hP hD hS => ?_)
            refine lv_goto (tgt := 351) hx hb0 dL_law_322 (by decide) ?_
            refine lv_istore (lv' := [(11, .int r_156), (0, .ref b), (1, .ref (ad 0)), (2, .ref (ad 158)), (3, .ref (ad 159)), (4, .ref (ad 160)), (5, .ref (ad 161)), (6, .int y6), (7, .int y7), (8, .int y8), (9, .int y9), (10, .int y10)]) hx hb0 dL_law_351 hl (by decide) rfl (fun ls hl => ?_)
            obtain ⟨n_158, he⟩ := he
            exact l_L_law_353 l dC dI P ad tb  hx hb0 hr hlocks hml hown hts hK hk hL hX hbl hbA hKs hlw K108 hK108 n_158 y6 y7 y8 y9 y10 r_156 h_157 he _ _ ls hP hD hS (lv_sub hl [1, 2, 3, 4, 5, 6, 7, 8, 9, 10, 11, 0] rfl)
          · have he := he.1 c_155
            refine lv_bipush (v := (9 : Int32)) hx hb0 dL_law_310 (by decide) ?_
            refine lv_goto (tgt := 319) hx hb0 dL_law_312 (by decide) ?_
            refine ga_si ⟨hx, hb0, hml, hown, hts⟩ (gKC_keep tb _) (law_K hKs hlw hS) hK hP hD hS [.int (y8 >>> ((3 : Int32) &&& 31)), .int (9 : Int32)] [] (c_L_low l dC dI P ad tb (y8 >>> ((3 : Int32) &&& 31)) (9 : Int32) h_150 _ he) gm_L_low st_yL_low ml_RL_107 rfl rfl ⟨Nat.le_of_ble_eq_true rfl, Nat.le_of_ble_eq_true rfl⟩ rfl hl.1 rfl (Nat.le_of_ble_eq_true rfl) dL_law_319 ⟨Nat.le_of_ble_eq_true rfl, Nat.le_of_ble_eq_true rfl⟩ (fun r_159 h_160 he H locs hP hD hS => ?_)
            refine lv_goto (tgt := 351) hx hb0 dL_law_322 (by decide) ?_
            refine lv_istore (lv' := [(11, .int r_159), (0, .ref b), (1, .ref (ad 0)), (2, .ref (ad 158)), (3, .ref (ad 159)), (4, .ref (ad 160)), (5, .ref (ad 161)), (6, .int y6), (7, .int y7), (8, .int y8), (9, .int y9), (10, .int y10)]) hx hb0 dL_law_351 hl (by decide) rfl (fun ls hl => ?_)
            obtain ⟨n_161, he⟩ := he
            exact l_L_law_353 l dC dI P ad tb  hx hb0 hr hlocks hml hown hts hK hk hL hX hbl hbA hKs hlw K108 hK108 n_161 y6 y7 y8 y9 y10 r_159 h_160 he _ _ ls hP hD hS (lv_sub hl [1, 2, 3, 4, 5, 6, 7, 8, 9, 10, 11, 0] rfl)
set_option maxHeartbeats 4000000 in
set_option maxRecDepth 100000 in
theorem l_L_law_231 (l : Launch) (dC : Nat → ClassId) (dI : Nat → Nat → Nat) (P : gP) (ad : Nat → Nat) (tb : Nat → Nat) {b L : Nat} {xs : Nat → Int32} {p : Program} {e : Env} {s : State} {m : MethodId} {below : List Frame} {meth : Method} {c : Code} (hx : p.tables.exec = Jvm.exec) (hb0 : c.code = code) (hr : meth.sig.returnType = ret) (hlocks : meth.locks = false) (hml : c.maxLocals = 17) (hown : s.vm.findClass RL = some m.cls) (hts : ∀ w ∈ TB, w.before #[Value.ref b] s = true) (hK : va_K (dC, dI) vwCl (tyC P) s) (hk : gKC tb (fun q : Nat => s.heap.size ≤ q) s) (hL : L ≤ 260) (hX : va_X b L xs s s.heap) (hbl : b < s.heap.size) (hbA : ¬ (fun q : Nat => s.heap.size ≤ q) b) (hKs : gKC tb (fun q : Nat => s.heap.size ≤ q) s) (hlw : ∀ k, k < 162 → s.heap.size ≤ ad k) (K108 : Int32 → Hp → Prop) (hK108 : ∀ (z0 : Int32) (h0 : Hp), K108 z0 h0 → ∀ (H : Heap) (locs : List Loc) (ls : Array Slot), va_P (dC, dI) vwCl (gW 162 (cE P ad) ad h0) H → va_D (fun q : Nat => s.heap.size ≤ q) (gW 162 (cE P ad) ad h0) → va_S (fun q : Nat => s.heap.size ≤ q) s.heap H locs → lv_has ls 17 [(0, .ref b), (1, .ref (ad 0)), (2, .ref (ad 158)), (3, .ref (ad 159)), (4, .ref (ad 160)), (5, .ref (ad 161)), (6, .int z0)] → W p l e room_1 s m #[Value.ref b] below meth c H locs 162 1374 (lw_Z below #[Value.ref b] s) (F0 m 108 ls [])) : ∀ (n : Nat) (y6 : Int32) (y7 : Int32) (y8 : Int32) (y9 : Int32) (h0 : Hp), F_L_law_L231  (cellv L xs) K108 n y6 y7 y8 y9 h0 → ∀ (H : Heap) (locs : List Loc) (ls : Array Slot), va_P (dC, dI) vwCl (gW 162 (cE P ad) ad h0) H → va_D (fun q : Nat => s.heap.size ≤ q) (gW 162 (cE P ad) ad h0) → va_S (fun q : Nat => s.heap.size ≤ q) s.heap H locs → lv_has ls 17 [(0, .ref b), (1, .ref (ad 0)), (2, .ref (ad 158)), (3, .ref (ad 159)), (4, .ref (ad 160)), (5, .ref (ad 161)), (6, .int y6), (7, .int y7), (8, .int y8), (9, .int y9)] → W p l e room_1 s m #[Value.ref b] below meth c H locs 162 1374 (lw_Z below #[Value.ref b] s) (F0 m 231 ls []) := by
  intro n
  induction n with
  | zero =>
    intro y6 y7 y8 y9 h0 he
    exact he.elim
  | succ n ih =>
    intro y6 y7 y8 y9 h0 he H locs ls hP hD hS hl
    rw [F_L_law_L231] at he
    refine lv_iload hx hb0 dL_law_231 (lv_at hl 9 rfl) ?_
    refine lv_iconst (v := (2 : Int32)) hx hb0 dL_law_233 (by decide) ?_
    refine lv_icmp_ne (tgt := 266) hx hb0 dL_law_234 (by decide) (fun c_21 => ?_) (fun c_21 => ?_)
    · have he := he.2 c_21
      refine lv_iload hx hb0 dL_law_266 (lv_at hl 8 rfl) ?_
      refine lv_bipush (v := (7 : Int32)) hx hb0 dL_law_268 (by decide) ?_
      refine ga_si ⟨hx, hb0, hml, hown, hts⟩ (gKC_keep tb _) (law_K hKs hlw hS) hK hP hD hS [.int y8, .int (7 : Int32)] [] (c_L_low l dC dI P ad tb y8 (7 : Int32) h0 _ he) gm_L_low st_yL_low ml_RL_107 rfl rfl ⟨Nat.le_of_ble_eq_true rfl, Nat.le_of_ble_eq_true rfl⟩ rfl hl.1 rfl (Nat.le_of_ble_eq_true rfl) dL_law_270 ⟨Nat.le_of_ble_eq_true rfl, Nat.le_of_ble_eq_true rfl⟩ (fun r_22 h_23 he H locs hP hD hS => ?_)
      refine lv_istore (lv' := [(10, .int r_22), (0, .ref b), (1, .ref (ad 0)), (2, .ref (ad 158)), (3, .ref (ad 159)), (4, .ref (ad 160)), (5, .ref (ad 161)), (6, .int y6), (7, .int y7), (8, .int y8), (9, .int y9)]) hx hb0 dL_law_273 hl (by decide) rfl (fun ls hl => ?_)
      obtain ⟨n_162, he⟩ := he
      exact l_L_law_275 l dC dI P ad tb  hx hb0 hr hlocks hml hown hts hK hk hL hX hbl hbA hKs hlw K108 hK108 n_162 y6 y7 y8 y9 r_22 h_23 he _ _ ls hP hD hS (lv_sub hl [1, 2, 3, 4, 5, 6, 7, 8, 9, 10, 0] rfl)
    · have he := he.1 c_21
      refine lv_iconst (v := (1 : Int32)) hx hb0 dL_law_237 (by decide) ?_
      refine lv_iload hx hb0 dL_law_238 (lv_at hl 8 rfl) ?_
      refine lv_iload hx hb0 dL_law_240 (lv_at hl 8 rfl) ?_
      refine lv_bipush (v := (20 : Int32)) hx hb0 dL_law_242 (by decide) ?_
      refine lv_ishr hx hb0 dL_law_244 ?_
      refine lv_iconst (v := (4 : Int32)) hx hb0 dL_law_245 (by decide) ?_
      refine ga_si ⟨hx, hb0, hml, hown, hts⟩ (gKC_keep tb _) (law_K hKs hlw hS) hK hP hD hS [.int (y8 >>> ((20 : Int32) &&& 31)), .int (4 : Int32)] [.int y8, .int (1 : Int32)] (c_L_low l dC dI P ad tb (y8 >>> ((20 : Int32) &&& 31)) (4 : Int32) h0 _ he) gm_L_low st_yL_low ml_RL_107 rfl rfl ⟨Nat.le_of_ble_eq_true rfl, Nat.le_of_ble_eq_true rfl⟩ rfl hl.1 rfl (Nat.le_of_ble_eq_true rfl) dL_law_246 ⟨Nat.le_of_ble_eq_true rfl, Nat.le_of_ble_eq_true rfl⟩ (fun r_163 h_164 he H locs hP hD hS => ?_)
      refine lv_if_ne (tgt := 257) hx hb0 dL_law_249 (by decide) (fun c_165 => ?_) (fun c_165 => ?_)
      · have he := he.2 c_165
        refine lv_bipush (v := (9 : Int32)) hx hb0 dL_law_257 (by decide) ?_
        refine ga_si ⟨hx, hb0, hml, hown, hts⟩ (gKC_keep tb _) (law_K hKs hlw hS) hK hP hD hS [.int y8, .int (9 : Int32)] [.int (1 : Int32)] (c_L_low l dC dI P ad tb y8 (9 : Int32) h_164 _ he) gm_L_low st_yL_low ml_RL_107 rfl rfl ⟨Nat.le_of_ble_eq_true rfl, Nat.le_of_ble_eq_true rfl⟩ rfl hl.1 rfl (Nat.le_of_ble_eq_true rfl) dL_law_259 ⟨Nat.le_of_ble_eq_true rfl, Nat.le_of_ble_eq_true rfl⟩ (fun r_166 h_167 he H locs hP hD hS => ?_)
        refine lv_iadd hx hb0 dL_law_262 ?_
        refine lv_goto (tgt := 273) hx hb0 dL_law_263 (by decide) ?_
        refine lv_topi (fun x_168 ex_168 => ?_)
        have he := he x_168 ex_168
        refine lv_istore (lv' := [(10, .int x_168), (0, .ref b), (1, .ref (ad 0)), (2, .ref (ad 158)), (3, .ref (ad 159)), (4, .ref (ad 160)), (5, .ref (ad 161)), (6, .int y6), (7, .int y7), (8, .int y8), (9, .int y9)]) hx hb0 dL_law_273 hl (by decide) rfl (fun ls hl => ?_)
        obtain ⟨n_169, he⟩ := he
        exact l_L_law_275 l dC dI P ad tb  hx hb0 hr hlocks hml hown hts hK hk hL hX hbl hbA hKs hlw K108 hK108 n_169 y6 y7 y8 y9 x_168 h_167 he _ _ ls hP hD hS (lv_sub hl [1, 2, 3, 4, 5, 6, 7, 8, 9, 10, 0] rfl)
      · have he := he.1 c_165
        refine lv_bipush (v := (99 : Int32)) hx hb0 dL_law_252 (by decide) ?_
        refine lv_goto (tgt := 259) hx hb0 dL_law_254 (by decide) ?_
        refine ga_si ⟨hx, hb0, hml, hown, hts⟩ (gKC_keep tb _) (law_K hKs hlw hS) hK hP hD hS [.int y8, .int (99 : Int32)] [.int (1 : Int32)] (c_L_low l dC dI P ad tb y8 (99 : Int32) h_164 _ he) gm_L_low st_yL_low ml_RL_107 rfl rfl ⟨Nat.le_of_ble_eq_true rfl, Nat.le_of_ble_eq_true rfl⟩ rfl hl.1 rfl (Nat.le_of_ble_eq_true rfl) dL_law_259 ⟨Nat.le_of_ble_eq_true rfl, Nat.le_of_ble_eq_true rfl⟩ (fun r_170 h_171 he H locs hP hD hS => ?_)
        refine lv_iadd hx hb0 dL_law_262 ?_
        refine lv_goto (tgt := 273) hx hb0 dL_law_263 (by decide) ?_
        refine lv_topi (fun x_172 ex_172 => ?_)
        have he := he x_172 ex_172
        refine lv_istore (lv' := [(10, .int x_172), (0, .ref b), (1, .ref (ad 0)), (2, .ref (ad 158)), (3, .ref (ad 159)), (4, .ref (ad 160)), (5, .ref (ad 161)), (6, .int y6), (7, .int y7), (8, .int y8), (9, .int y9)]) hx hb0 dL_law_273 hl (by decide) rfl (fun ls hl => ?_)
        obtain ⟨n_173, he⟩ := he
        exact l_L_law_275 l dC dI P ad tb  hx hb0 hr hlocks hml hown hts hK hk hL hX hbl hbA hKs hlw K108 hK108 n_173 y6 y7 y8 y9 x_172 h_171 he _ _ ls hP hD hS (lv_sub hl [1, 2, 3, 4, 5, 6, 7, 8, 9, 10, 0] rfl)
set_option maxHeartbeats 4000000 in
set_option maxRecDepth 100000 in
theorem l_L_law_108 (l : Launch) (dC : Nat → ClassId) (dI : Nat → Nat → Nat) (P : gP) (ad : Nat → Nat) (tb : Nat → Nat) {b L : Nat} {xs : Nat → Int32} {p : Program} {e : Env} {s : State} {m : MethodId} {below : List Frame} {meth : Method} {c : Code} (hx : p.tables.exec = Jvm.exec) (hb0 : c.code = code) (hr : meth.sig.returnType = ret) (hlocks : meth.locks = false) (hml : c.maxLocals = 17) (hown : s.vm.findClass RL = some m.cls) (hts : ∀ w ∈ TB, w.before #[Value.ref b] s = true) (hK : va_K (dC, dI) vwCl (tyC P) s) (hk : gKC tb (fun q : Nat => s.heap.size ≤ q) s) (hL : L ≤ 260) (hX : va_X b L xs s s.heap) (hbl : b < s.heap.size) (hbA : ¬ (fun q : Nat => s.heap.size ≤ q) b) (hKs : gKC tb (fun q : Nat => s.heap.size ≤ q) s) (hlw : ∀ k, k < 162 → s.heap.size ≤ ad k) : ∀ (n : Nat) (y6 : Int32) (h0 : Hp), F_L_law_L108  (cellv L xs) n y6 h0 → ∀ (H : Heap) (locs : List Loc) (ls : Array Slot), va_P (dC, dI) vwCl (gW 162 (cE P ad) ad h0) H → va_D (fun q : Nat => s.heap.size ≤ q) (gW 162 (cE P ad) ad h0) → va_S (fun q : Nat => s.heap.size ≤ q) s.heap H locs → lv_has ls 17 [(0, .ref b), (1, .ref (ad 0)), (2, .ref (ad 158)), (3, .ref (ad 159)), (4, .ref (ad 160)), (5, .ref (ad 161)), (6, .int y6)] → W p l e room_1 s m #[Value.ref b] below meth c H locs 162 1374 (lw_Z below #[Value.ref b] s) (F0 m 108 ls []) := by
  intro n
  induction n with
  | zero =>
    intro y6 h0 he
    exact he.elim
  | succ n ih =>
    intro y6 h0 he H locs ls hP hD hS hl
    rw [F_L_law_L108] at he
    refine lv_iload hx hb0 dL_law_108 (lv_at hl 6 rfl) ?_
    refine lv_bipush (v := (50 : Int32)) hx hb0 dL_law_110 (by decide) ?_
    refine lv_icmp_ge (tgt := 667) hx hb0 dL_law_112 (by decide) (fun c_7 => ?_) (fun c_7 => ?_)
    · have he := he.1 c_7
      refine lv_iconst (v := (1 : Int32)) hx hb0 dL_law_667 (by decide) ?_
      refine va_forget (fun q hq => hS.2.2 q hq) ?_
      refine W.widen (k := 600000) (n := 7302250) (Nat.le_of_ble_eq_true rfl) (Nat.le_of_ble_eq_true rfl) ?_
      exact lw_ret hx hb0 hr hlocks dL_law_668
    · have he := he.2 c_7
      refine lv_aload_n hx hb0 dL_law_115 rfl (lv_at hl 0 rfl) ?_
      refine lv_iconst (v := (2 : Int32)) hx hb0 dL_law_116 (by decide) ?_
      refine lv_iload hx hb0 dL_law_117 (lv_at hl 6 rfl) ?_
      refine lv_imul hx hb0 dL_law_119 ?_
      obtain ⟨v_8, he⟩ := he
      refine ga_cell l P tb ad hL hX hbl hbA hx hb0 hml hown hts hK hP hD hS ((2 : Int32) * y6) [] v_8 ml_RL_128 hl.1 rfl (Nat.le_of_ble_eq_true rfl) ⟨Nat.le_of_ble_eq_true rfl, Nat.le_of_ble_eq_true rfl⟩ ⟨Nat.le_of_ble_eq_true rfl, Nat.le_of_ble_eq_true rfl⟩ dL_law_120 (fun H locs hP hD hS => ?_)
      refine lv_topi (fun r_9 er_9 => ?_)
      have he := he r_9 er_9
      refine lv_istore (lv' := [(7, .int r_9), (0, .ref b), (1, .ref (ad 0)), (2, .ref (ad 158)), (3, .ref (ad 159)), (4, .ref (ad 160)), (5, .ref (ad 161)), (6, .int y6)]) hx hb0 dL_law_123 hl (by decide) rfl (fun ls hl => ?_)
      refine lv_aload_n hx hb0 dL_law_125 rfl (lv_at hl 1 rfl) ?_
      refine lv_iconst (v := (2 : Int32)) hx hb0 dL_law_126 (by decide) ?_
      refine lv_iload hx hb0 dL_law_127 (lv_at hl 7 rfl) ?_
      refine lv_imul hx hb0 dL_law_129 ?_
      refine lv_iconst (v := (1 : Int32)) hx hb0 dL_law_130 (by decide) ?_
      refine lv_iadd hx hb0 dL_law_131 ?_
      obtain ⟨v_10, he⟩ := he
      refine ga_cell l P tb ad hL hX hbl hbA hx hb0 hml hown hts hK hP hD hS (((2 : Int32) * y6) + (1 : Int32)) [] v_10 ml_RL_128 hl.1 rfl (Nat.le_of_ble_eq_true rfl) ⟨Nat.le_of_ble_eq_true rfl, Nat.le_of_ble_eq_true rfl⟩ ⟨Nat.le_of_ble_eq_true rfl, Nat.le_of_ble_eq_true rfl⟩ dL_law_132 (fun H locs hP hD hS => ?_)
      refine lv_topi (fun r_11 er_11 => ?_)
      have he := he r_11 er_11
      refine lv_istore (lv' := [(8, .int r_11), (7, .int r_9), (0, .ref b), (1, .ref (ad 0)), (2, .ref (ad 158)), (3, .ref (ad 159)), (4, .ref (ad 160)), (5, .ref (ad 161)), (6, .int y6)]) hx hb0 dL_law_135 hl (by decide) rfl (fun ls hl => ?_)
      refine lv_iload hx hb0 dL_law_137 (lv_at hl 1 rfl) ?_
      refine lv_bipush (v := (28 : Int32)) hx hb0 dL_law_139 (by decide) ?_
      refine ga_si ⟨hx, hb0, hml, hown, hts⟩ (gKC_keep tb _) (law_K hKs hlw hS) hK hP hD hS [.int r_9, .int (28 : Int32)] [] (c_L_low l dC dI P ad tb r_9 (28 : Int32) h0 _ he) gm_L_low st_yL_low ml_RL_107 rfl rfl ⟨Nat.le_of_ble_eq_true rfl, Nat.le_of_ble_eq_true rfl⟩ rfl hl.1 rfl (Nat.le_of_ble_eq_true rfl) dL_law_141 ⟨Nat.le_of_ble_eq_true rfl, Nat.le_of_ble_eq_true rfl⟩ (fun r_12 h_13 he H locs hP hD hS => ?_)
      refine lv_istore (lv' := [(9, .int r_12), (8, .int r_11), (7, .int r_9), (0, .ref b), (1, .ref (ad 0)), (2, .ref (ad 158)), (3, .ref (ad 159)), (4, .ref (ad 160)), (5, .ref (ad 161)), (6, .int y6)]) hx hb0 dL_law_144 hl (by decide) rfl (fun ls hl => ?_)
      refine lv_iload hx hb0 dL_law_146 (lv_at hl 9 rfl) ?_
      refine lv_iconst (v := (3 : Int32)) hx hb0 dL_law_148 (by decide) ?_
      refine lv_icmp_ge (tgt := 156) hx hb0 dL_law_149 (by decide) (fun c_14 => ?_) (fun c_14 => ?_)
      · have he := he.1 c_14
        refine lv_iload hx hb0 dL_law_156 (lv_at hl 0 rfl) ?_
        refine lv_bipush (v := (13 : Int32)) hx hb0 dL_law_158 (by decide) ?_
        refine lv_icmp_ge (tgt := 167) hx hb0 dL_law_160 (by decide) (fun c_15 => ?_) (fun c_15 => ?_)
        · have he := he.1 c_15
          refine lv_iload hx hb0 dL_law_167 (lv_at hl 0 rfl) ?_
          refine lv_bipush (v := (17 : Int32)) hx hb0 dL_law_169 (by decide) ?_
          refine lv_icmp_ge (tgt := 178) hx hb0 dL_law_171 (by decide) (fun c_16 => ?_) (fun c_16 => ?_)
          · have he := he.1 c_16
            refine lv_iload hx hb0 dL_law_178 (lv_at hl 0 rfl) ?_
            refine lv_bipush (v := (19 : Int32)) hx hb0 dL_law_180 (by decide) ?_
            refine lv_icmp_ge (tgt := 189) hx hb0 dL_law_182 (by decide) (fun c_17 => ?_) (fun c_17 => ?_)
            · have he := he.1 c_17
              refine lv_iload hx hb0 dL_law_189 (lv_at hl 0 rfl) ?_
              refine lv_bipush (v := (19 : Int32)) hx hb0 dL_law_191 (by decide) ?_
              refine lv_icmp_ne (tgt := 200) hx hb0 dL_law_193 (by decide) (fun c_18 => ?_) (fun c_18 => ?_)
              · have he := he.2 c_18
                refine lv_iload hx hb0 dL_law_200 (lv_at hl 0 rfl) ?_
                refine lv_bipush (v := (24 : Int32)) hx hb0 dL_law_202 (by decide) ?_
                refine lv_icmp_ge (tgt := 215) hx hb0 dL_law_204 (by decide) (fun c_19 => ?_) (fun c_19 => ?_)
                · have he := he.1 c_19
                  refine lv_iload hx hb0 dL_law_215 (lv_at hl 0 rfl) ?_
                  refine lv_bipush (v := (26 : Int32)) hx hb0 dL_law_217 (by decide) ?_
                  refine lv_icmp_ge (tgt := 227) hx hb0 dL_law_219 (by decide) (fun c_20 => ?_) (fun c_20 => ?_)
                  · have he := he.1 c_20
                    refine lv_bipush (v := (9 : Int32)) hx hb0 dL_law_227 (by decide) ?_
                    refine lv_istore (lv' := [(9, .int (9 : Int32)), (8, .int r_11), (7, .int r_9), (0, .ref b), (1, .ref (ad 0)), (2, .ref (ad 158)), (3, .ref (ad 159)), (4, .ref (ad 160)), (5, .ref (ad 161)), (6, .int y6)]) hx hb0 dL_law_229 hl (by decide) rfl (fun ls hl => ?_)
                    obtain ⟨n_174, he⟩ := he
                    exact l_L_law_231 l dC dI P ad tb  hx hb0 hr hlocks hml hown hts hK hk hL hX hbl hbA hKs hlw (fun z0 g => F_L_law_L108  (cellv L xs) n z0 g) ih n_174 y6 r_9 r_11 (9 : Int32) h_13 he _ _ ls hP hD hS (lv_sub hl [3, 4, 5, 6, 7, 8, 9, 2, 1, 0] rfl)
                  · have he := he.2 c_20
                    refine lv_bipush (v := (8 : Int32)) hx hb0 dL_law_222 (by decide) ?_
                    refine lv_goto (tgt := 229) hx hb0 dL_law_224 (by decide) ?_
                    refine lv_istore (lv' := [(9, .int (8 : Int32)), (8, .int r_11), (7, .int r_9), (0, .ref b), (1, .ref (ad 0)), (2, .ref (ad 158)), (3, .ref (ad 159)), (4, .ref (ad 160)), (5, .ref (ad 161)), (6, .int y6)]) hx hb0 dL_law_229 hl (by decide) rfl (fun ls hl => ?_)
                    obtain ⟨n_175, he⟩ := he
                    exact l_L_law_231 l dC dI P ad tb  hx hb0 hr hlocks hml hown hts hK hk hL hX hbl hbA hKs hlw (fun z0 g => F_L_law_L108  (cellv L xs) n z0 g) ih n_175 y6 r_9 r_11 (8 : Int32) h_13 he _ _ ls hP hD hS (lv_sub hl [3, 4, 5, 6, 7, 8, 9, 2, 1, 0] rfl)
                · have he := he.2 c_19
                  refine lv_iload hx hb0 dL_law_207 (lv_at hl 0 rfl) ?_
                  refine lv_bipush (v := (16 : Int32)) hx hb0 dL_law_209 (by decide) ?_
                  refine lv_isub hx hb0 dL_law_211 ?_
                  refine lv_goto (tgt := 229) hx hb0 dL_law_212 (by decide) ?_
                  refine lv_topi (fun x_176 ex_176 => ?_)
                  have he := he x_176 ex_176
                  refine lv_istore (lv' := [(9, .int x_176), (8, .int r_11), (7, .int r_9), (0, .ref b), (1, .ref (ad 0)), (2, .ref (ad 158)), (3, .ref (ad 159)), (4, .ref (ad 160)), (5, .ref (ad 161)), (6, .int y6)]) hx hb0 dL_law_229 hl (by decide) rfl (fun ls hl => ?_)
                  obtain ⟨n_177, he⟩ := he
                  exact l_L_law_231 l dC dI P ad tb  hx hb0 hr hlocks hml hown hts hK hk hL hX hbl hbA hKs hlw (fun z0 g => F_L_law_L108  (cellv L xs) n z0 g) ih n_177 y6 r_9 r_11 x_176 h_13 he _ _ ls hP hD hS (lv_sub hl [3, 4, 5, 6, 7, 8, 9, 2, 1, 0] rfl)
              · have he := he.1 c_18
                refine lv_iconst (v := (3 : Int32)) hx hb0 dL_law_196 (by decide) ?_
                refine lv_goto (tgt := 229) hx hb0 dL_law_197 (by decide) ?_
                refine lv_istore (lv' := [(9, .int (3 : Int32)), (8, .int r_11), (7, .int r_9), (0, .ref b), (1, .ref (ad 0)), (2, .ref (ad 158)), (3, .ref (ad 159)), (4, .ref (ad 160)), (5, .ref (ad 161)), (6, .int y6)]) hx hb0 dL_law_229 hl (by decide) rfl (fun ls hl => ?_)
                obtain ⟨n_178, he⟩ := he
                exact l_L_law_231 l dC dI P ad tb  hx hb0 hr hlocks hml hown hts hK hk hL hX hbl hbA hKs hlw (fun z0 g => F_L_law_L108  (cellv L xs) n z0 g) ih n_178 y6 r_9 r_11 (3 : Int32) h_13 he _ _ ls hP hD hS (lv_sub hl [3, 4, 5, 6, 7, 8, 9, 2, 1, 0] rfl)
            · have he := he.2 c_17
              refine lv_iconst (v := (2 : Int32)) hx hb0 dL_law_185 (by decide) ?_
              refine lv_goto (tgt := 229) hx hb0 dL_law_186 (by decide) ?_
              refine lv_istore (lv' := [(9, .int (2 : Int32)), (8, .int r_11), (7, .int r_9), (0, .ref b), (1, .ref (ad 0)), (2, .ref (ad 158)), (3, .ref (ad 159)), (4, .ref (ad 160)), (5, .ref (ad 161)), (6, .int y6)]) hx hb0 dL_law_229 hl (by decide) rfl (fun ls hl => ?_)
              obtain ⟨n_179, he⟩ := he
              exact l_L_law_231 l dC dI P ad tb  hx hb0 hr hlocks hml hown hts hK hk hL hX hbl hbA hKs hlw (fun z0 g => F_L_law_L108  (cellv L xs) n z0 g) ih n_179 y6 r_9 r_11 (2 : Int32) h_13 he _ _ ls hP hD hS (lv_sub hl [3, 4, 5, 6, 7, 8, 9, 2, 1, 0] rfl)
          · have he := he.2 c_16
            refine lv_iconst (v := (1 : Int32)) hx hb0 dL_law_174 (by decide) ?_
            refine lv_goto (tgt := 229) hx hb0 dL_law_175 (by decide) ?_
            refine lv_istore (lv' := [(9, .int (1 : Int32)), (8, .int r_11), (7, .int r_9), (0, .ref b), (1, .ref (ad 0)), (2, .ref (ad 158)), (3, .ref (ad 159)), (4, .ref (ad 160)), (5, .ref (ad 161)), (6, .int y6)]) hx hb0 dL_law_229 hl (by decide) rfl (fun ls hl => ?_)
            obtain ⟨n_180, he⟩ := he
            exact l_L_law_231 l dC dI P ad tb  hx hb0 hr hlocks hml hown hts hK hk hL hX hbl hbA hKs hlw (fun z0 g => F_L_law_L108  (cellv L xs) n z0 g) ih n_180 y6 r_9 r_11 (1 : Int32) h_13 he _ _ ls hP hD hS (lv_sub hl [3, 4, 5, 6, 7, 8, 9, 2, 1, 0] rfl)
        · have he := he.2 c_15
          refine lv_iconst (v := (0 : Int32)) hx hb0 dL_law_163 (by decide) ?_
          refine lv_goto (tgt := 229) hx hb0 dL_law_164 (by decide) ?_
          refine lv_istore (lv' := [(9, .int (0 : Int32)), (8, .int r_11), (7, .int r_9), (0, .ref b), (1, .ref (ad 0)), (2, .ref (ad 158)), (3, .ref (ad 159)), (4, .ref (ad 160)), (5, .ref (ad 161)), (6, .int y6)]) hx hb0 dL_law_229 hl (by decide) rfl (fun ls hl => ?_)
          obtain ⟨n_181, he⟩ := he
          exact l_L_law_231 l dC dI P ad tb  hx hb0 hr hlocks hml hown hts hK hk hL hX hbl hbA hKs hlw (fun z0 g => F_L_law_L108  (cellv L xs) n z0 g) ih n_181 y6 r_9 r_11 (0 : Int32) h_13 he _ _ ls hP hD hS (lv_sub hl [3, 4, 5, 6, 7, 8, 9, 2, 1, 0] rfl)
      · have he := he.2 c_14
        refine lv_iconst (v := (4 : Int32)) hx hb0 dL_law_152 (by decide) ?_
        refine lv_goto (tgt := 229) hx hb0 dL_law_153 (by decide) ?_
        refine lv_istore (lv' := [(9, .int (4 : Int32)), (8, .int r_11), (7, .int r_9), (0, .ref b), (1, .ref (ad 0)), (2, .ref (ad 158)), (3, .ref (ad 159)), (4, .ref (ad 160)), (5, .ref (ad 161)), (6, .int y6)]) hx hb0 dL_law_229 hl (by decide) rfl (fun ls hl => ?_)
        obtain ⟨n_182, he⟩ := he
        exact l_L_law_231 l dC dI P ad tb  hx hb0 hr hlocks hml hown hts hK hk hL hX hbl hbA hKs hlw (fun z0 g => F_L_law_L108  (cellv L xs) n z0 g) ih n_182 y6 r_9 r_11 (4 : Int32) h_13 he _ _ ls hP hD hS (lv_sub hl [3, 4, 5, 6, 7, 8, 9, 2, 1, 0] rfl)
set_option maxHeartbeats 4000000 in
set_option maxRecDepth 100000 in
theorem l_L_law_59 (l : Launch) (dC : Nat → ClassId) (dI : Nat → Nat → Nat) (P : gP) (ad : Nat → Nat) (tb : Nat → Nat) {b L : Nat} {xs : Nat → Int32} {p : Program} {e : Env} {s : State} {m : MethodId} {below : List Frame} {meth : Method} {c : Code} (hx : p.tables.exec = Jvm.exec) (hb0 : c.code = code) (hr : meth.sig.returnType = ret) (hlocks : meth.locks = false) (hml : c.maxLocals = 17) (hown : s.vm.findClass RL = some m.cls) (hts : ∀ w ∈ TB, w.before #[Value.ref b] s = true) (hK : va_K (dC, dI) vwCl (tyC P) s) (hk : gKC tb (fun q : Nat => s.heap.size ≤ q) s) (hL : L ≤ 260) (hX : va_X b L xs s s.heap) (hbl : b < s.heap.size) (hbA : ¬ (fun q : Nat => s.heap.size ≤ q) b) (hKs : gKC tb (fun q : Nat => s.heap.size ≤ q) s) (hlw : ∀ k, k < 162 → s.heap.size ≤ ad k) : ∀ (n : Nat) (y6 : Int32) (h0 : Hp), F_L_law_L59  (cellv L xs) n y6 h0 → ∀ (H : Heap) (locs : List Loc) (ls : Array Slot), va_P (dC, dI) vwCl (gW 162 (cE P ad) ad h0) H → va_D (fun q : Nat => s.heap.size ≤ q) (gW 162 (cE P ad) ad h0) → va_S (fun q : Nat => s.heap.size ≤ q) s.heap H locs → lv_has ls 17 [(0, .ref b), (1, .ref (ad 0)), (2, .ref (ad 158)), (3, .ref (ad 159)), (4, .ref (ad 160)), (5, .ref (ad 161)), (6, .int y6)] → W p l e room_1 s m #[Value.ref b] below meth c H locs 162 1374 (lw_Z below #[Value.ref b] s) (F0 m 59 ls []) := by
  intro n
  induction n with
  | zero =>
    intro y6 h0 he
    exact he.elim
  | succ n ih =>
    intro y6 h0 he H locs ls hP hD hS hl
    rw [F_L_law_L59] at he
    refine lv_iload hx hb0 dL_law_59 (lv_at hl 6 rfl) ?_
    refine lv_bipush (v := (7 : Int32)) hx hb0 dL_law_61 (by decide) ?_
    refine lv_icmp_ge (tgt := 105) hx hb0 dL_law_63 (by decide) (fun c_6 => ?_) (fun c_6 => ?_)
    · have he := he.1 c_6
      refine lv_iconst (v := (0 : Int32)) hx hb0 dL_law_105 (by decide) ?_
      refine lv_istore (lv' := [(6, .int (0 : Int32)), (0, .ref b), (1, .ref (ad 0)), (2, .ref (ad 158)), (3, .ref (ad 159)), (4, .ref (ad 160)), (5, .ref (ad 161))]) hx hb0 dL_law_106 hl (by decide) rfl (fun ls hl => ?_)
      obtain ⟨n_183, he⟩ := he
      exact l_L_law_108 l dC dI P ad tb  hx hb0 hr hlocks hml hown hts hK hk hL hX hbl hbA hKs hlw n_183 (0 : Int32) h0 he _ _ ls hP hD hS (lv_sub hl [1, 2, 3, 4, 5, 6, 0] rfl)
    · have he := he.2 c_6
      refine lv_aload hx hb0 dL_law_66 (lv_at hl 4 rfl) ?_
      refine lv_bipush (v := (7 : Int32)) hx hb0 dL_law_68 (by decide) ?_
      refine lv_iload hx hb0 dL_law_70 (lv_at hl 6 rfl) ?_
      refine lv_imul hx hb0 dL_law_72 ?_
      refine lv_iconst (v := (5 : Int32)) hx hb0 dL_law_73 (by decide) ?_
      obtain ⟨v_185, he⟩ := he
      refine gx_iast hx hb0 hK hP hD hS 160 0 (by decide) cE_t160 rfl v_185 dL_law_74 (fun h_184 eh_184 H locs hP hD hS => ?_)
      have he := he h_184 eh_184
      refine lv_aload hx hb0 dL_law_75 (lv_at hl 4 rfl) ?_
      refine lv_bipush (v := (7 : Int32)) hx hb0 dL_law_77 (by decide) ?_
      refine lv_iload hx hb0 dL_law_79 (lv_at hl 6 rfl) ?_
      refine lv_imul hx hb0 dL_law_81 ?_
      refine lv_iconst (v := (2 : Int32)) hx hb0 dL_law_82 (by decide) ?_
      refine lv_iadd hx hb0 dL_law_83 ?_
      refine lv_iconst (v := (1 : Int32)) hx hb0 dL_law_84 (by decide) ?_
      obtain ⟨v_187, he⟩ := he
      refine gx_iast hx hb0 hK hP hD hS 160 0 (by decide) cE_t160 rfl v_187 dL_law_85 (fun h_186 eh_186 H locs hP hD hS => ?_)
      have he := he h_186 eh_186
      refine lv_aload hx hb0 dL_law_86 (lv_at hl 4 rfl) ?_
      refine lv_bipush (v := (7 : Int32)) hx hb0 dL_law_88 (by decide) ?_
      refine lv_iload hx hb0 dL_law_90 (lv_at hl 6 rfl) ?_
      refine lv_imul hx hb0 dL_law_92 ?_
      refine lv_iconst (v := (5 : Int32)) hx hb0 dL_law_93 (by decide) ?_
      refine lv_iadd hx hb0 dL_law_94 ?_
      refine lv_sipush (v := (9999 : Int32)) hx hb0 dL_law_95 (by decide) ?_
      obtain ⟨v_189, he⟩ := he
      refine gx_iast hx hb0 hK hP hD hS 160 0 (by decide) cE_t160 rfl v_189 dL_law_98 (fun h_188 eh_188 H locs hP hD hS => ?_)
      have he := he h_188 eh_188
      obtain ⟨x_190, ex_190⟩ : ∃ y : Int32, y = y6 + 1 := ⟨_, rfl⟩
      have he := he x_190 ex_190
      refine lv_iinc (v := x_190) (lv' := [(6, .int x_190), (0, .ref b), (1, .ref (ad 0)), (2, .ref (ad 158)), (3, .ref (ad 159)), (4, .ref (ad 160)), (5, .ref (ad 161))]) hx hb0 dL_law_99 hl (k := 6) rfl (by rw [ex_190]; rfl) (by decide) rfl (fun ls hl => ?_)
      refine lv_goto (tgt := 59) hx hb0 dL_law_102 (by decide) ?_
      exact ih x_190 h_188 he _ _ ls hP hD hS (lv_sub hl [1, 2, 3, 4, 5, 6, 0] rfl)
set_option maxHeartbeats 4000000 in
set_option maxRecDepth 100000 in
theorem c_L_law (l : Launch) (dC : Nat → ClassId) (dI : Nat → Nat → Nat) (P : gP) (ad : Nat → Nat) (tb : Nat → Nat) {p : Program} {e : Env} {s : State} {m : MethodId} {below : List Frame} {meth : Method} {c : Code} (hx : p.tables.exec = Jvm.exec) (hb0 : c.code = code) (hr : meth.sig.returnType = ret) (hlocks : meth.locks = false) (hml : c.maxLocals = 17) (hown : s.vm.findClass RL = some m.cls) {b L : Nat} {xs : Nat → Int32} (hts : ∀ w ∈ TB, w.before #[Value.ref b] s = true) (hK : va_K (dC, dI) vwCl (tyC P) s) (hk : gKC tb (fun q : Nat => s.heap.size ≤ q) s) (hL : L ≤ 260) (hX : va_X b L xs s s.heap) (hbl : b < s.heap.size) (hbA : ¬ (fun q : Nat => s.heap.size ≤ q) b) (hKs : gKC tb (fun q : Nat => s.heap.size ≤ q) s) (hlw : ∀ k, k < 162 → s.heap.size ≤ ad k) (h0 : Hp) (he : F_L_law (cellv L xs) h0) (H : Heap) (locs : List Loc) (ls : Array Slot) (hP : va_P (dC, dI) vwCl (gW 162 (cE P ad) ad h0) H) (hD : va_D (fun q : Nat => s.heap.size ≤ q) (gW 162 (cE P ad) ad h0)) (hS : va_S (fun q : Nat => s.heap.size ≤ q) s.heap H locs) (hl : lv_has ls 17 [(5, .ref (ad 161)), (4, .ref (ad 160)), (3, .ref (ad 159)), (2, .ref (ad 158)), (1, .ref (ad 0)), (0, .ref b)]) : W p l e room_1 s m #[Value.ref b] below meth c H locs 162 1374 (lw_Z below #[Value.ref b] s) (F0 m 30 ls []) := by
  unfold F_L_law at he
  refine lv_aload_n hx hb0 dL_law_30 rfl (lv_at hl 3 rfl) ?_
  refine lv_iconst (v := (0 : Int32)) hx hb0 dL_law_31 (by decide) ?_
  refine lv_iconst (v := (4 : Int32)) hx hb0 dL_law_32 (by decide) ?_
  refine gx_iastK hx hb0 hK hP hD hS 158 0 (by decide) cE_t158 rfl (vp_lit (0 : Int32) (by decide) (by decide)) 0 rfl dL_law_33 (fun h_1 eh_1 H locs hP hD hS => ?_)
  have he := he h_1 eh_1
  refine lv_aload_n hx hb0 dL_law_34 rfl (lv_at hl 3 rfl) ?_
  refine lv_iconst (v := (1 : Int32)) hx hb0 dL_law_35 (by decide) ?_
  refine lv_bipush (v := (6 : Int32)) hx hb0 dL_law_36 (by decide) ?_
  refine gx_iastK hx hb0 hK hP hD hS 158 0 (by decide) cE_t158 rfl (vp_lit (1 : Int32) (by decide) (by decide)) 1 rfl dL_law_38 (fun h_2 eh_2 H locs hP hD hS => ?_)
  have he := he h_2 eh_2
  refine lv_aload_n hx hb0 dL_law_39 rfl (lv_at hl 3 rfl) ?_
  refine lv_iconst (v := (2 : Int32)) hx hb0 dL_law_40 (by decide) ?_
  refine lv_bipush (v := (60 : Int32)) hx hb0 dL_law_41 (by decide) ?_
  refine gx_iastK hx hb0 hK hP hD hS 158 0 (by decide) cE_t158 rfl (vp_lit (2 : Int32) (by decide) (by decide)) 2 rfl dL_law_43 (fun h_3 eh_3 H locs hP hD hS => ?_)
  have he := he h_3 eh_3
  refine lv_aload_n hx hb0 dL_law_44 rfl (lv_at hl 3 rfl) ?_
  refine lv_iconst (v := (3 : Int32)) hx hb0 dL_law_45 (by decide) ?_
  refine lv_sipush (v := (300 : Int32)) hx hb0 dL_law_46 (by decide) ?_
  refine gx_iastK hx hb0 hK hP hD hS 158 0 (by decide) cE_t158 rfl (vp_lit (3 : Int32) (by decide) (by decide)) 3 rfl dL_law_49 (fun h_4 eh_4 H locs hP hD hS => ?_)
  have he := he h_4 eh_4
  refine lv_aload_n hx hb0 dL_law_50 rfl (lv_at hl 3 rfl) ?_
  refine lv_iconst (v := (5 : Int32)) hx hb0 dL_law_51 (by decide) ?_
  refine lv_sipush (v := (9999 : Int32)) hx hb0 dL_law_52 (by decide) ?_
  refine gx_iastK hx hb0 hK hP hD hS 158 0 (by decide) cE_t158 rfl (vp_lit (5 : Int32) (by decide) (by decide)) 5 rfl dL_law_55 (fun h_5 eh_5 H locs hP hD hS => ?_)
  have he := he h_5 eh_5
  refine lv_iconst (v := (0 : Int32)) hx hb0 dL_law_56 (by decide) ?_
  refine lv_istore (lv' := [(6, .int (0 : Int32)), (5, .ref (ad 161)), (4, .ref (ad 160)), (3, .ref (ad 159)), (2, .ref (ad 158)), (1, .ref (ad 0)), (0, .ref b)]) hx hb0 dL_law_57 hl (by decide) rfl (fun ls hl => ?_)
  obtain ⟨n_191, he⟩ := he
  exact l_L_law_59 l dC dI P ad tb  hx hb0 hr hlocks hml hown hts hK hk hL hX hbl hbA hKs hlw n_191 (0 : Int32) h_5 he _ _ ls hP hD hS (lv_sub hl [6, 5, 4, 3, 2, 1, 0] rfl)
