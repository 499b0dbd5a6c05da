/-! Rows of the family of bits. -/
theorem wb_tb (n : Nat) : (lN n).toBitVec = BitVec.ofNat 64 n := rfl
theorem wb_inj {a b : Int64} (h : a.toBitVec = b.toBitVec) : a = b := Int64.toBitVec_inj.mp h
theorem wb_tn {n : Nat} (h : n < 2 ^ 64) : (lN n).toBitVec.toNat = n := by rw [wb_tb, BitVec.toNat_ofNat, Nat.mod_eq_of_lt h]
theorem wb_of (x : Int64) : ∃ n, n < 2 ^ 64 ∧ x = lN n := ⟨x.toBitVec.toNat, x.toBitVec.isLt, wb_inj (by rw [wb_tb]; simp)⟩
theorem wb_c : ∀ k, k < 64 → ((nI k).toInt64 &&& 63) = lN k := by decide +kernel
theorem wb_cu : ∀ k, k < 64 → ((nI k).toInt64.toUInt64 &&& Int64.toUInt64 63) = UInt64.ofNat k := by decide +kernel
theorem wb_sm : ∀ k, k < 64 → (BitVec.ofNat 64 k).smod 64 = BitVec.ofNat 64 k := by decide +kernel
theorem wb_lt2 {a b : Nat} (h : a < b) : 2 ^ a < 2 ^ b := Nat.pow_lt_pow_right (by decide) h
theorem wb_shr {n k : Nat} (hn : n < 2 ^ 64) (hk : k < 64) : ((lN n).toUInt64 >>> ((nI k).toInt64.toUInt64 &&& Int64.toUInt64 63)).toInt64 = lN (n / 2 ^ k) := by
  rw [wb_cu k hk]
  apply wb_inj
  apply BitVec.eq_of_toNat_eq
  show ((lN n).toUInt64 >>> UInt64.ofNat k).toNat = (BitVec.ofNat 64 _).toNat
  have h1 : (UInt64.ofNat k).toNat = k := by
    show (BitVec.ofNat 64 k).toNat = k
    rw [BitVec.toNat_ofNat, Nat.mod_eq_of_lt (by omega)]
  have h2 : (lN n).toUInt64.toNat = n := wb_tn hn
  rw [UInt64.toNat_shiftRight, h1, h2, Nat.mod_eq_of_lt hk, Nat.shiftRight_eq_div_pow, BitVec.toNat_ofNat, Nat.mod_eq_of_lt (Nat.lt_of_le_of_lt (Nat.div_le_self _ _) hn)]
theorem wb_and {a b : Nat} (ha : a < 2 ^ 64) (hb : b < 2 ^ 64) : lN a &&& lN b = lN (a &&& b) := by
  apply wb_inj
  rw [Int64.toBitVec_and, wb_tb, wb_tb, wb_tb]
  apply BitVec.eq_of_toNat_eq
  rw [BitVec.toNat_and, BitVec.toNat_ofNat, BitVec.toNat_ofNat, BitVec.toNat_ofNat, Nat.mod_eq_of_lt ha, Nat.mod_eq_of_lt hb, Nat.mod_eq_of_lt (Nat.and_lt_two_pow _ hb)]
theorem wb_mask {n k : Nat} (hn : n < 2 ^ 64) (hk : k < 64) : lN n &&& lN (2 ^ k - 1) = lN (n % 2 ^ k) := by
  rw [wb_and hn (by have := wb_lt2 hk; omega), Nat.and_two_pow_sub_one_eq_mod]
/-! Characters put to the pad. -/
theorem sh_g {a d : Nat} {D : Int64} (hD : (D.toBitVec.smod 64).toNat = d) (h : a < 2 ^ 63) : lN a >>> D = lN (a / 2 ^ d) := by
  have hd : a / 2 ^ d ≤ a := Nat.div_le_self _ _
  apply Int64.toInt_inj.mp
  have e : (lN a >>> D).toInt = (lN a).toInt >>> d := by
    rw [← hD]
    exact BitVec.toInt_sshiftRight ..
  rw [e, Int.shiftRight_eq_div_pow, pk_lT h, pk_lT (by omega)]
  rfl
theorem sm8 : ∀ k, k < 8 → (((nI (8 * k)).toInt64 &&& 63).toBitVec.smod 64).toNat = 8 * k := by decide +kernel
theorem cmp0 (x y : Int64) : lg_cmp x y = 0 ↔ x = y := by
  unfold lg_cmp
  by_cases h : x > y
  · rw [if_pos h]
    refine ⟨fun z => absurd z (by decide), fun z => ?_⟩
    rw [z] at h
    have := (fa_lt64 _ _).mp h
    omega
  · rw [if_neg h]
    by_cases h2 : x = y
    · rw [if_pos h2]; exact ⟨fun _ => h2, fun _ => rfl⟩
    · rw [if_neg h2]; exact ⟨fun z => absurd z (by decide), fun z => absurd z h2⟩
theorem lN0 {n : Nat} (h : n < 2 ^ 64) : lN n = 0 ↔ n = 0 := by
  constructor
  · intro z
    have h1 : (lN n).toBitVec.toNat = (lN 0).toBitVec.toNat := by rw [z]; rfl
    rw [wb_tn h, wb_tn (by decide)] at h1
    exact h1
  · rintro rfl; rfl
theorem b32 : ∀ b, b < 256 → (lN b).toInt32 = nI b := by decide +kernel
theorem b16 : ∀ b, b < 256 → ((lN b).toInt32.toUInt32 % 65536).toInt32 = nI b := by decide +kernel
theorem msk {n : Nat} (h : n < 2 ^ 64) : lN n &&& (255 : Int64) = lN (n % 256) := wb_mask (k := 8) h (by decide)
theorem sh8 {n : Nat} (h : n < 2 ^ 64) : ((lN n).toUInt64 >>> ((8 : Int32).toInt64.toUInt64 &&& Int64.toUInt64 63)).toInt64 = lN (n / 2 ^ 8) := wb_shr (k := 8) h (by decide)
def byt (X i : Nat) : Nat := X / 2 ^ (8 * i) % 256
theorem byt_lt (X i : Nat) : byt X i < 256 := Nat.mod_lt _ (by decide)
theorem div_up (X i : Nat) : X / 2 ^ (8 * i) / 2 ^ 8 = X / 2 ^ (8 * (i + 1)) := by
  rw [Nat.div_div_eq_div_mul, ← Nat.pow_add, show 8 * i + 8 = 8 * (i + 1) by omega]
theorem signs {hc hm : Hp} {X : Nat} {y0 : Int64} (hX : X < 2 ^ 64) : ∀ (m i : Nat), i + m = 8 → (∀ j, j < i → 33 ≤ byt X j ∧ byt X j ≤ 126) → ∃ z : Nat, z ≤ 8 ∧ (z = 0 ∨ X / 2 ^ (8 * z) = 0) ∧ (∀ j, j < z → 33 ≤ byt X j ∧ byt X j ≤ 126) ∧ (∀ Q : Int32 → Hp → Prop, Q (nI z) hc → F_X4_countSigns_L4 (m + 1) y0 (nI i) (lN (X / 2 ^ (8 * i))) hc Q) ∧ (∀ Q : Int32 → Hp → Prop, Q (nI z) hm → F_X8_charactersIn_L4 (m + 1) y0 (nI i) (lN (X / 2 ^ (8 * i))) hm Q) := by
  intro m
  induction m with
  | zero =>
    intro i e hb
    obtain rfl : i = 8 := by omega
    have hz : X / 2 ^ (8 * 8) = 0 := Nat.div_eq_of_lt hX
    refine ⟨8, Nat.le_refl _, Or.inr hz, hb, fun Q q => bt' (by decide) q, fun Q q => bt' (by decide) (bt' ?_ q)⟩
    rw [hz, cmp0]; rfl
  | succ m ih =>
    intro i e hb
    have hge : ¬ (8 : Int32) ≤ nI i := nI_ge (a := i) (b := 8) (by omega) (by decide)
    have hY : X / 2 ^ (8 * i) < 2 ^ 64 := Nat.lt_of_le_of_lt (Nat.div_le_self _ _) hX
    have hbl := byt_lt X i
    have hm1 : lN (X / 2 ^ (8 * i)) &&& (255 : Int64) = lN (byt X i) := msk hY
    have hc0 : lg_cmp (lN (X / 2 ^ (8 * i))) 0 = 0 ↔ X / 2 ^ (8 * i) = 0 := by rw [cmp0, lN0 hY]
    have hb0 : lg_cmp (lN (byt X i)) 0 = 0 ↔ byt X i = 0 := by rw [cmp0, lN0 (by omega)]
    have h33 : lg_cmp (lN (byt X i)) 33 < 0 ↔ byt X i < 33 := by rw [lg_cmp_lt, show (33 : Int64) = lN 33 from rfl, pk_lLT (by omega) (by decide)]
    have h126 : lg_cmp (lN (byt X i)) 126 ≤ 0 ↔ byt X i ≤ 126 := by rw [lg_cmp_le, show (126 : Int64) = lN 126 from rfl, pk_lLE (by omega) (by decide)]
    have hw : ((33 : Int32) ≤ nI (byt X i) ∧ nI (byt X i) ≤ 126) ↔ (33 ≤ byt X i ∧ byt X i ≤ 126) := by rw [show (33 : Int32) = nI 33 from rfl, show (126 : Int32) = nI 126 from rfl, nI_leI (by decide) (by omega), nI_leI (by omega) (by decide)]
    by_cases h0 : X / 2 ^ (8 * i) = 0
    · refine ⟨i, by omega, Or.inr h0, hb, fun Q q => bf' hge (bt' (hc0.mpr h0) q), fun Q q => bf' hge ?_⟩
      rw [hm1]
      exact bt' (hb0.mpr (by unfold byt; rw [h0])) (bt' (hc0.mpr h0) q)
    · have hn0 : ¬ lg_cmp (lN (X / 2 ^ (8 * i))) 0 = 0 := fun z => h0 (hc0.mp z)
      by_cases hc33 : byt X i < 33
      · refine ⟨0, by omega, Or.inl rfl, fun j hj => absurd hj (by omega), fun Q q => bf' hge (bf' hn0 ?_), fun Q q => bf' hge ?_⟩
        · rw [hm1]
          exact nm' (bt' (h33.mpr hc33) q)
        · rw [hm1, b32 _ hbl]
          refine bc _ (fun _ => bf' hn0 q) (fun _ => isChar_iff.mpr (bt' ((b01_0 _).mpr (fun z => ?_)) q))
          have := (hw.mp z).1
          omega
      · by_cases hc126 : byt X i ≤ 126
        · obtain ⟨z, a1, a2, a3, aC, aM⟩ := ih (i + 1) (by omega) (fun j hj => by
            by_cases hji : j = i
            · rw [hji]; omega
            · exact hb j (by omega))
          refine ⟨z, a1, a2, a3, fun Q q => bf' hge (bf' hn0 ?_), fun Q q => bf' hge ?_⟩
          · rw [hm1]
            refine nm' (bf' (fun w => hc33 (h33.mp w)) (bt' (h126.mpr hc126) (nm' (nm' ?_))))
            rw [sh8 hY, div_up, nI_1]
            exact aC Q q
          · rw [hm1, b32 _ hbl]
            refine bf' (fun w => by have := hb0.mp w; omega) (isChar_iff.mpr (bf' (fun w => (b01_0 _).mp w (hw.mpr ⟨by omega, hc126⟩)) (nm' (nm' ?_))))
            rw [sh8 hY, div_up, nI_1]
            exact aM Q q
        · refine ⟨0, by omega, Or.inl rfl, fun j hj => absurd hj (by omega), fun Q q => bf' hge (bf' hn0 ?_), fun Q q => bf' hge ?_⟩
          · rw [hm1]
            exact nm' (bf' (fun w => hc33 (h33.mp w)) (bf' (fun w => hc126 (h126.mp w)) q))
          · rw [hm1, b32 _ hbl]
            refine bf' (fun w => by have := hb0.mp w; omega) (isChar_iff.mpr (bt' ((b01_0 _).mpr (fun z => ?_)) q))
            have := (hw.mp z).2
            omega
theorem X63 {X z : Nat} (h1 : 1 ≤ z) (h8 : z ≤ 8) (h0 : X / 2 ^ (8 * z) = 0) (hb : byt X (z - 1) ≤ 126) : X < 2 ^ 63 := by
  unfold byt at hb
  rcases (show z = 1 ∨ z = 2 ∨ z = 3 ∨ z = 4 ∨ z = 5 ∨ z = 6 ∨ z = 7 ∨ z = 8 by omega) with rfl | rfl | rfl | rfl | rfl | rfl | rfl | rfl <;> simp only [Nat.reduceMul, Nat.reducePow, Nat.reduceSub] at h0 hb ⊢ <;> omega
theorem nar_n {q : Nat} (h : q < 65536) : vp_nar .char (nI q) = nI q := by
  unfold vp_nar
  rw [(pk_charN h).1]
def gByt (X z : Nat) : Nat → Int32 := fun k => nI (byt X (z - 1 - k))
theorem appC {hc : Hp} {X z L : Nat} (hX : X < 2 ^ 64) (hz : z ≤ 8) (hL : L + z ≤ 80) (e1 : hc 3 1 = nI L) {Q : Int32 → Hp → Prop} (q : Q (nI (L + z)) (up1 (up1 hc 4 (fb_put (hc 4) (gByt X z) L z)) 3 (upd (hc 3) 1 (nI (L + z))))) : ∃ n, F_X4_append_L29 n (lN X) (nI z) 0 hc Q := by
  suffices hs : ∀ (m i : Nat), i + m = z → F_X4_append_L29 (m + 1) (lN X) (nI z) (nI i) (up1 hc 4 (fb_put (hc 4) (gByt X z) L i)) Q from ⟨z + 1, by have := hs z 0 (by omega); rw [fb_put_0, up1_self] at this; exact this⟩
  intro m
  induction m with
  | zero =>
    intro i e
    obtain rfl : i = z := by omega
    refine bt' (nI_le (Nat.le_refl _) (by omega)) (nm' ?_)
    rw [up1_s, up1_n _ _ (show (3 : Nat) ≠ 4 by decide), e1, nI_add, upd_s']
    exact q
  | succ m ih =>
    intro i e
    have es : (8 : Int32) * ((nI z - 1) - nI i) = nI (8 * (z - 1 - i)) := by rw [show (1 : Int32) = nI 1 from rfl, pk_sub (by omega), pk_sub (by omega), show (8 : Int32) = nI 8 from rfl, pk_mul]
    have hbl := byt_lt X (z - 1 - i)
    refine bf' (nI_ge (by omega) (by omega)) ?_
    rw [up1_n _ _ (show (3 : Nat) ≠ 4 by decide), e1, nI_add, clN (by omega), es, wb_shr hX (by omega), msk (Nat.lt_of_le_of_lt (Nat.div_le_self _ _) hX), up1_s, up1_up1]
    refine ⟨vpn (by omega) (by decide), nm' (nm' ?_)⟩
    rw [show X / 2 ^ (8 * (z - 1 - i)) % 256 = byt X (z - 1 - i) from rfl, b16 _ hbl, nar_n (by omega), nI_1]
    have := fb_put_succ (hc 4) (gByt X z) L i
    rw [show gByt X z i = nI (byt X (z - 1 - i)) from rfl] at this
    rw [this]
    exact ih (i + 1) (by omega)
theorem up_6060 (h : Hp) (a b c d : Nat → Int32) : up1 (up1 (up1 (up1 h 6 a) 0 b) 6 c) 0 d = up1 (up1 h 6 c) 0 d := by
  funext k
  unfold up1
  by_cases h0 : k = 0
  · simp [h0]
  · by_cases h6 : k = 6
    · simp [h6]
    · simp [h0, h6]
theorem putM31 {hm : Hp} {X z L : Nat} (hX : X < 2 ^ 63) (hz : z ≤ 8) (hL : L + z ≤ 80) (e1 : hm 0 7 = nI L) {Q : Int32 → Hp → Prop} (q : Q (nI (L + z)) (up1 (up1 hm 6 (fb_put (hm 6) (gByt X z) L z)) 0 (upd (hm 0) 7 (nI (L + z))))) : ∃ n, F_X8_put_L31 n (lN X) (nI z) (nI z + (-1)) hm Q := by
  suffices hs : ∀ (m i : Nat), i + m = z → F_X8_put_L31 (m + 1) (lN X) (nI z) (nI m + (-1)) (up1 (up1 hm 6 (fb_put (hm 6) (gByt X z) L i)) 0 (upd (hm 0) 7 (nI (L + i)))) Q from ⟨z + 1, by have := hs z 0 (by omega); rw [fb_put_0, up1_self, show L + 0 = L from rfl, fa_upd_same e1, up1_self] at this; exact this⟩
  intro m
  induction m with
  | zero =>
    intro i e
    obtain rfl : i = z := by omega
    refine bt' (by decide) ?_
    rw [up1_s, upd_s']
    exact q
  | succ m ih =>
    intro i e
    have hbl := byt_lt X m
    have hv : (lN X >>> (((8 : Int32) * nI m).toInt64 &&& 63)) &&& (255 : Int64) = lN (byt X m) := by
      rw [show (8 : Int32) = nI 8 from rfl, pk_mul, sh_g (sm8 m (by omega)) hX, msk (by have := Nat.div_le_self X (2 ^ (8 * m)); omega)]
      rfl
    rw [pk_m1]
    refine bf' (nI_pos (by omega)) ?_
    rw [hv, b32 _ hbl, up1_s, upd_s', clN (by omega), up1_n _ _ (show (6 : Nat) ≠ 0 by decide), up1_s]
    refine ⟨vpn (by omega) (by decide), nm' (nm' (nm' ?_))⟩
    have hp := fb_put_succ (hm 6) (gByt X z) L i
    rw [show gByt X z i = nI (byt X m) by unfold gByt; rw [show z - 1 - i = m by omega]] at hp
    rw [hp, up1_n _ _ (show (0 : Nat) ≠ 6 by decide), up1_s, upd_s', up_6060, fa_upd_twice, nI_1]
    exact ih (i + 1) (by omega)
theorem sim_put (x : Int64) {hc hm : Hp} (hR : Rel hc hm) : F_X7_put x hc (fun r h1 => F_X8_put x hm (fun r2 h2 => r = r2 ∧ Rel h1 h2)) := by
  obtain ⟨L, hL, a, b, c⟩ := (Rel_i.mp hR).2.2.2.2
  obtain ⟨X, hX, rfl⟩ := wb_of x
  obtain ⟨z, a1, a2, a3, aC, aM⟩ := signs (hc := hc) (hm := hm) (y0 := lN X) hX 8 0 rfl (fun j hj => absurd hj (by omega))
  rw [show X / 2 ^ (8 * 0) = X by simp] at aC aM
  unfold F_X7_put F_X4_append F_X4_countSigns F_X8_put F_X8_charactersIn
  refine ⟨9, aC _ ?_⟩
  by_cases hz : z = 0
  · subst hz
    exact bt' rfl ⟨9, aM _ (bt' rfl ⟨rfl, hR⟩)⟩
  · have hzn : ¬ nI z = 0 := nI_ne0 (by omega) (by omega)
    have hX63 : X < 2 ^ 63 := X63 (by omega) a1 (by
      rcases a2 with w | w
      · exact absurd w hz
      · exact w) (a3 (z - 1) (by omega)).2
    have hle : ∀ k : Int32, k = nI L → (k + nI z ≤ 80 ↔ L + z ≤ 80) := fun k hk => by rw [hk, nI_add, show (80 : Int32) = nI 80 from rfl, nI_leI (by omega) (by decide)]
    by_cases h80 : L + z ≤ 80
    · refine bf' hzn (bt' ((hle _ a).mpr h80) (appC hX a1 h80 a ⟨9, aM _ (bf' hzn (bt' ((hle _ b).mpr h80) (nm' ?_)))⟩))
      rw [show nI z - 1 = nI z + (-1) from Int32.sub_eq_add_neg ..]
      refine putM31 hX63 a1 h80 b ⟨rfl, ?_⟩
      refine rel_pad hR (fun c h3 h4 => (up1_n _ _ h3).trans (up1_n _ _ h4)) (fun c h0 h6 => (up1_n _ _ h0).trans (up1_n _ _ h6)) (by rw [up1_s, upd_n' (by decide)]) ⟨L + z, h80, by rw [up1_s, upd_s'], by rw [up1_s, upd_s'], fun i hi => ?_⟩
      rw [up1_n _ _ (show (4 : Nat) ≠ 3 by decide), up1_s, up1_n _ _ (show (6 : Nat) ≠ 0 by decide), up1_s]
      by_cases hiL : i < L
      · rw [fb_put_out (Or.inl hiL), fb_put_out (Or.inl hiL)]
        exact c i hiL
      · rw [fb_put_in (by omega) (by omega), fb_put_in (by omega) (by omega)]
        exact ⟨rfl, byt X (z - 1 - (i - L)), (a3 _ (by omega)).1, (a3 _ (by omega)).2, rfl⟩
    · exact bf' hzn (bf' (fun w => h80 ((hle _ a).mp w)) ⟨9, aM _ (bf' hzn (bf' (fun w => h80 ((hle _ b).mp w)) ⟨rfl, hR⟩))⟩)
