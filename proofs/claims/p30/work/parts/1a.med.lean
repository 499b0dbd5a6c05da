/-! The median of the law: the least estimate to which half of all are not higher. -/
/-- z is the median without w -/
def medR (r : Nat → Int32) (w z : Int32) : Prop := (¬ 3 ≤ cp r w ∧ z = 9999) ∨ ∃ j, j < 7 ∧ PB r w j = true ∧ 3 ≤ cp r w ∧ rk r w j = (cp r w - 1) / 2 ∧ z = nv r j 6
theorem medR_ex (r : Nat → Int32) (w : Int32) : ∃ z, medR r w z := by
  by_cases h3 : 3 ≤ cp r w
  · obtain ⟨j, hj, hP, hk⟩ := rk_onto (r := r) (w := w) (y := (cp r w - 1) / 2) (by omega)
    exact ⟨nv r j 6, Or.inr ⟨j, hj, hP, h3, hk, rfl⟩⟩
  · exact ⟨9999, Or.inl ⟨h3, rfl⟩⟩
theorem medR_c {r : Nat → Int32} {w w' z : Int32} (h : ∀ i, i < 7 → PB r w' i = PB r w i) (hz : medR r w z) : medR r w' z := by
  have ec : cp r w' = cp r w := fb_ct_cong h
  have er : ∀ j, rk r w' j = rk r w j := fun j => fb_ct_cong (fun k hk => by unfold rkp; rw [h k hk])
  rcases hz with ⟨a, b⟩ | ⟨j, a, b, c, d, e⟩
  · exact Or.inl ⟨by rw [ec]; exact a, b⟩
  · exact Or.inr ⟨j, a, by rw [h j a]; exact b, by rw [ec]; exact c, by rw [er, ec]; exact d, e⟩
theorem PB_m {r : Nat → Int32} {i : Nat} (hi : i < 7) : PB r (-1) i = PB r (-6) i := by
  have h1 : ¬ nI i = -1 := fun e => nI_pos (n := i) (by omega) (by rw [e]; decide)
  have h2 : ¬ nI i = -6 := fun e => nI_pos (n := i) (by omega) (by rw [e]; decide)
  unfold PB
  simp [h1, h2]
/-- those who are not higher than j -/
def nap (r : Nat → Int32) (w : Int32) (j : Nat) : Nat → Bool := fun i => PB r w i && decide (¬ nv r j 6 < nv r i 6)
def naC (r : Nat → Int32) (w : Int32) (j : Nat) : Nat := fb_ct (nap r w j) 7
theorem na_hi {r : Nat → Int32} {w : Int32} {j : Nat} (hj : j < 7) (hP : PB r w j = true) : rk r w j < naC r w j := by
  refine ct_lt hj ?_ ?_ (fun k hk z => ?_)
  · unfold rkp; rw [LB_irr, Bool.and_false]
  · unfold nap; rw [hP, Bool.true_and, decide_eq_true_eq, fa_lt]; omega
  · unfold rkp at z
    unfold nap
    rw [Bool.and_eq_true] at *
    refine ⟨z.1, ?_⟩
    rw [decide_eq_true_eq]
    rcases LB_i.mp z.2 with q | q
    · rw [fa_lt] at q ⊢; omega
    · rw [q.1, fa_lt]; omega
theorem na_lo {r : Nat → Int32} {w : Int32} {j t : Nat} (h : nv r j 6 < nv r t 6) : naC r w j ≤ rk r w t := by
  refine fb_ct_sub (fun k hk z => ?_)
  unfold nap at z
  unfold rkp
  rw [Bool.and_eq_true] at *
  refine ⟨z.1, LB_i.mpr (Or.inl ?_)⟩
  have := z.2
  rw [decide_eq_true_eq] at this
  rw [fa_lt] at *
  omega
theorem est_e {g : Hp} {w : Int32} {n : Nat} (hn : n < 7) (hP : PB (lrow g) w n = true) : g 160 (7 * n + 5) = nv (lrow g) n 6 := by
  have h5 := (PB_i.mp hP).2.2
  rw [lr_v5 hn, hs9_1] at h5
  rw [lr_v6 hn, vl9_n h5]
def isM (r : Nat → Int32) (w : Int32) (j : Nat) : Prop := PB r w j = true ∧ ¬ 2 * naC r w j < cp r w
theorem lt_2 {a b : Nat} (ha : a ≤ 7) (hb : b ≤ 7) : ((2 : Int32) * nI a < nI b) ↔ 2 * a < b := by
  rw [show (2 : Int32) = nI 2 from rfl, pk_mul, nI_ltI (by omega) (by omega)]
theorem med61 {g : Hp} {w y3 : Int32} {j : Nat} {K : Int32 → Int32 → Int32 → Int32 → Hp → Prop} {Q : Int32 → Hp → Prop} (hj : j < 7) (hk : ∀ y, ((isM (lrow g) w j ∧ nv (lrow g) j 6 < y3) → y = nv (lrow g) j 6) → (¬ (isM (lrow g) w j ∧ nv (lrow g) j 6 < y3) → y = y3) → K w (nI (cp (lrow g) w)) y (nI (j + 1)) g) : ∀ (m i : Nat) (c : Nat), i + m = 7 → (PB (lrow g) w j = true → c = fb_ct (nap (lrow g) w j) i) → F_L_median_L61 K (m + 1) w (nI (cp (lrow g) w)) y3 (nI j) (nI c) (nI i) g Q := by
  have hcj : (nI (7 * j + 5)).toNatClampNeg = 7 * j + 5 := clN (by omega)
  have hvj : vp_in (nI (7 * j + 5)) 49 := vpn (by omega) (by decide)
  have hcp := cp_le (lrow g) w
  intro m
  induction m with
  | zero =>
    intro i c e hc
    obtain rfl : i = 7 := by omega
    refine bt' (by decide) (takesL hj (bc _ (fun h1 => nm' ?_) (fun h1 => ?_)))
    · rw [nI_1]
      exact hk y3 (fun z => absurd z.1.1 ((b01_0 _).mp h1)) (fun _ => rfl)
    · have hP := b01_t h1
      have hc7 := hc hP
      have hc8 : c ≤ 7 := by rw [hc7]; exact fb_ct_le _ _
      have hna : naC (lrow g) w j = c := hc7.symm
      rw [iv75, hcj, est_e hj hP]
      refine bc _ (fun h2 => nm' ?_) (fun h2 => ⟨hvj, bc _ (fun h3 => nm' ?_) (fun h3 => ⟨hvj, nm' (nm' ?_)⟩)⟩)
      · rw [nI_1]
        exact hk y3 (fun z => absurd ((lt_2 hc8 hcp).mp h2) (by rw [← hna]; exact z.1.2)) (fun _ => rfl)
      · rw [nI_1]
        exact hk y3 (fun z => absurd z.2 (nlt.mpr h3)) (fun _ => rfl)
      · rw [nI_1]
        exact hk _ (fun _ => rfl) (fun z => absurd ⟨⟨hP, fun z2 => h2 ((lt_2 hc8 hcp).mpr (by rw [← hna]; exact z2))⟩, nle.mp h3⟩ z)
  | succ m ih =>
    intro i c e hc
    have hi : i < 7 := by omega
    refine bf' (ge7 hi) (takesL hi (bc _ (fun h1 => nm' (nm' ?_)) (fun h1 => ⟨by rw [iv75]; exact vpn (by omega) (by decide), by rw [iv75]; exact hvj, ?_⟩)))
    · rw [Int32.add_zero, nI_1]
      refine ih (i + 1) c (by omega) (fun hP => ?_)
      rw [hc hP, ct_n]
      unfold nap
      rw [bfalse ((b01_0 _).mp h1)]; rfl
    · have hPi := b01_t h1
      rw [iv75, iv75, hcj, clN (show 7 * i + 5 < 2 ^ 31 by omega), est_e hi hPi]
      by_cases hP : PB (lrow g) w j = true
      · rw [est_e hj hP]
        refine bc _ (fun h2 => nm' (nm' ?_)) (fun h2 => nm' (nm' ?_))
        · rw [Int32.add_zero, nI_1]
          refine ih (i + 1) c (by omega) (fun hP => ?_)
          rw [hc hP, ct_n]
          unfold nap
          rw [show decide (¬ nv (lrow g) j 6 < nv (lrow g) i 6) = false from decide_eq_false (fun z => z h2), Bool.and_false]
        · rw [nI_1, nI_1]
          refine ih (i + 1) (c + 1) (by omega) (fun hP => ?_)
          rw [hc hP, fb_ct_succ, if_pos]
          unfold nap
          rw [hPi, show decide (¬ nv (lrow g) j 6 < nv (lrow g) i 6) = true from decide_eq_true h2]; rfl
      · refine bc _ (fun h2 => nm' (nm' ?_)) (fun h2 => nm' (nm' ?_))
        · rw [Int32.add_zero, nI_1]
          exact ih (i + 1) c (by omega) (fun z => absurd z hP)
        · rw [nI_1, nI_1]
          exact ih (i + 1) (c + 1) (by omega) (fun z => absurd z hP)
theorem med43 {g : Hp} {w : Int32} {t : Nat} {Q : Int32 → Hp → Prop} (ht : t < 7) (hP : PB (lrow g) w t = true) (h3 : 3 ≤ cp (lrow g) w) (hkk : rk (lrow g) w t = (cp (lrow g) w - 1) / 2) (q : Q (nv (lrow g) t 6) g) : ∀ (m i : Nat) (y : Int32), i + m = 7 → (i ≤ t → ¬ y < nv (lrow g) t 6) → (t < i → y = nv (lrow g) t 6) → F_L_median_L43 (m + 1) w (nI (cp (lrow g) w)) y (nI i) g Q := by
  have hcp := cp_le (lrow g) w
  have hMt : isM (lrow g) w t := ⟨hP, by have := na_hi ht hP; omega⟩
  have hlow : ∀ j, isM (lrow g) w j → ¬ nv (lrow g) j 6 < nv (lrow g) t 6 := fun j hj z => by
    have := na_lo (r := lrow g) (w := w) z
    have := hj.2
    omega
  intro m
  induction m with
  | zero =>
    intro i y e h1 h2
    obtain rfl : i = 7 := by omega
    refine bt' (by decide) ?_
    rw [h2 ht]
    exact q
  | succ m ih =>
    intro i y e h1 h2
    have hi : i < 7 := by omega
    refine bf' (ge7 hi) (bf' ?_ ⟨8, med61 hi (fun y' ha hb => ?_) 7 0 0 rfl (fun _ => rfl)⟩)
    · rw [show (2 : Int32) = nI 2 from rfl, nI_leI (by omega) (by decide)]; omega
    · by_cases hM : isM (lrow g) w i ∧ nv (lrow g) i 6 < y
      · rw [ha hM]
        refine ih (i + 1) _ (by omega) (fun _ => hlow i hM.1) (fun z => ?_)
        by_cases hti : t = i
        · rw [hti]
        · have := h2 (by omega)
          rw [this] at hM
          exact absurd hM.2 (hlow i hM.1)
      · rw [hb hM]
        refine ih (i + 1) _ (by omega) (fun _ => h1 (by omega)) (fun z => ?_)
        by_cases hti : t = i
        · subst hti
          have h4 := h1 (Nat.le_refl _)
          have h5 : ¬ nv (lrow g) t 6 < y := fun z => hM ⟨hMt, z⟩
          rw [fa_lt] at h4 h5
          rw [fa_eq]
          omega
        · exact h2 (by omega)
theorem med9 {g : Hp} {w y3 : Int32} {Q : Int32 → Hp → Prop} (q : ∃ n, F_L_median_L43 n w (nI (cp (lrow g) w)) y3 0 g Q) : ∀ (m i : Nat), i + m = 7 → F_L_median_L9 (m + 1) w (nI (fb_ct (PB (lrow g) w) i)) y3 (nI i) g Q := by
  intro m
  induction m with
  | zero =>
    intro i e
    obtain rfl : i = 7 := by omega
    exact bt' (by decide) q
  | succ m ih =>
    intro i e
    have hi : i < 7 := by omega
    refine bf' (ge7 hi) (takesL hi (bc _ (fun h1 => nm' (nm' ?_)) (fun h1 => nm' (nm' ?_))))
    · rw [Int32.add_zero, nI_1]
      have := ih (i + 1) (by omega)
      rw [ct_n (bfalse ((b01_0 _).mp h1))] at this
      exact this
    · rw [ct_y (p := PB (lrow g) w) (i := i) (b01_t h1), nI_1]
      exact ih (i + 1) (by omega)
theorem medianL {g : Hp} {w z : Int32} (hI : IV (lrow g)) (hz : medR (lrow g) w z) {Q : Int32 → Hp → Prop} (q : Q z g) : F_L_median w g Q := by
  have hcp := cp_le (lrow g) w
  rcases hz with ⟨a, rfl⟩ | ⟨j, hj, hP, h3, hk, rfl⟩
  · refine ⟨8, med9 ⟨1, bf' (by decide) (bt' ?_ q)⟩ 7 0 rfl⟩
    rw [show (2 : Int32) = nI 2 from rfl, nI_leI (by omega) (by decide)]; omega
  · refine ⟨8, med9 ⟨8, med43 hj hP h3 hk q 7 0 9999 rfl (fun _ => ?_) (fun z => absurd z (Nat.not_lt_zero _))⟩ 7 0 rfl⟩
    have := (hI.2.2.2.1 j hj).2.2.2.2.1.2
    rw [fa_lt, show (9999 : Int32).toInt = 9999 by decide]
    omega
theorem medC {b : Nat} {w z : Int32} {hc : Hp} {v : Nat → Nat → Int32} {r : Nat → Int32} (hN : navs v r) (hz : medR r w z) {Q : Int32 → Hp → Prop} (q : Q z (cv b hc v)) : F_X1_middleWithout b w (cv b hc v) Q := by
  rcases hz with ⟨a, rfl⟩ | ⟨j, hj, hP, h3, hk, rfl⟩
  · exact midC_0 hN a q
  · exact midC hN hj hP h3 hk q
theorem medR_rng {r : Nat → Int32} {w z : Int32} (hI : IV r) (hz : medR r w z) : z = 9999 ∨ rng z (-5400) 5400 := by
  rcases hz with ⟨a, rfl⟩ | ⟨j, hj, hP, h3, hk, rfl⟩
  · exact Or.inl rfl
  · exact Or.inr (hI.2.2.2.1 j hj).2.2.2.2.1
