/-! The median on both sides. -/
theorem b01_t {c : Prop} [Decidable c] (h : ¬ b01 c = 0) : c := by
  by_cases z : c
  · exact z
  · exact absurd ((b01_0 _).mpr z) h
theorem halfN {c : Nat} (h : 1 ≤ c) (h2 : c < 2 ^ 31) : (nI c - 1) / (2 : Int32) = nI ((c - 1) / 2) := by
  rw [show (1 : Int32) = nI 1 from rfl, pk_sub h, show (2 : Int32) = nI 2 from rfl, pk_div (by omega) (by decide) (by decide)]
theorem cp_le (r : Nat → Int32) (w : Int32) : cp r w ≤ 7 := fb_ct_le _ _
theorem rkC {b j : Nat} {w : Int32} {hc : Hp} {v : Nat → Nat → Int32} {r : Nat → Int32} (hN : navs v r) (hj : j < 7) (ej : v 10 j = nv r j 6) {Q : Int32 → Hp → Prop} (q : Q (nI (rk r w j)) (cv b hc v)) : F_X1_rankWithout b (nI j) w (cv b hc v) Q := ⟨8, rankC hN hj ej q 7 0 rfl⟩
theorem midC43 {b j : Nat} {w : Int32} {hc : Hp} {v : Nat → Nat → Int32} {r : Nat → Int32} (hN : navs v r) (hj : j < 7) (hP : PB r w j = true) (h3 : 3 ≤ cp r w) (hk : rk r w j = (cp r w - 1) / 2) {Q : Int32 → Hp → Prop} (q : Q (nv r j 6) (cv b hc v)) : ∀ (m i : Nat), i + m = 7 → i ≤ j → F_X1_middleWithout_L43 b (m + 1) w (nI (cp r w)) (nI i) (cv b hc v) Q := by
  intro m
  have hcp := cp_le r w
  induction m with
  | zero => intro i e h; omega
  | succ m ih =>
    intro i e h
    have hi : i < 7 := by omega
    have ihn : i ≠ j → F_X1_middleWithout_L43 b (m + 1) w (nI (cp r w)) (nI (i + 1)) (cv b hc v) Q := fun z => ih (i + 1) (by omega) (by omega)
    refine bf' (ge7 hi) (bc _ (fun h1 => ?_) (fun h1 => takesC hi (hN i hi).1 (hN i hi).2 (bc _ (fun h2 => ?_) (fun h2 => ?_))))
    · refine nm' ?_
      rw [nI_1]
      refine ihn (fun z => ?_)
      rw [z] at h1
      exact (PB_i.mp hP).1 h1
    · refine nm' ?_
      rw [nI_1]
      refine ihn (fun z => ?_)
      rw [z] at h2
      exact (b01_0 _).mp h2 (PB_eq.mp hP).2
    · have ht := b01_t h2
      have hPi : PB r w i = true := PB_eq.mpr ⟨h1, ht⟩
      have ei := tp_est (hN i hi).1 (tpr_i.mp ht).2
      refine rkC hN hi ei ?_
      have hr : rk r w i < 7 := by have := rk_cp hi hPi; omega
      simp only [halfN (show 1 ≤ cp r w by omega) (show cp r w < 2 ^ 31 by omega), nI_eq (show rk r w i < 2 ^ 31 by omega) (show (cp r w - 1) / 2 < 2 ^ 31 by omega)]
      refine bc _ (fun h4 => ⟨vpn hi (by decide), ?_⟩) (fun h4 => ?_)
      · have hij : i = j := rk_inj hi hj hPi hP (by omega)
        subst hij
        rw [clN (by omega), cv_10, ei]
        exact q
      · refine nm' ?_
        rw [nI_1]
        refine ihn (fun z => ?_)
        rw [z] at h4
        exact h4 hk
theorem midC4 {b : Nat} {w : Int32} {hc : Hp} {v : Nat → Nat → Int32} {r : Nat → Int32} (hN : navs v r) {Q : Int32 → Hp → Prop} (q : ((3 : Int32) ≤ nI (cp r w) → ∃ n, F_X1_middleWithout_L43 b n w (nI (cp r w)) 0 (cv b hc v) Q) ∧ (¬ (3 : Int32) ≤ nI (cp r w) → Q 9999 (cv b hc v))) : ∀ (m i : Nat), i + m = 7 → F_X1_middleWithout_L4 b (m + 1) w (nI (fb_ct (PB r w) i)) (nI i) (cv b hc v) Q := by
  intro m
  induction m with
  | zero =>
    intro i e
    obtain rfl : i = 7 := by omega
    exact bt' (by decide) q
  | succ m ih =>
    intro i e
    have hi : i < 7 := by omega
    have ihn : PB r w i = false → F_X1_middleWithout_L4 b (m + 1) w (nI (fb_ct (PB r w) i)) (nI (i + 1)) (cv b hc v) Q := fun h => by
      have := ih (i + 1) (by omega)
      rw [ct_n h] at this
      exact this
    refine bf' (ge7 hi) (bc _ (fun h1 => ?_) (fun h1 => takesC hi (hN i hi).1 (hN i hi).2 (bc _ (fun h2 => ?_) (fun h2 => ?_))))
    · refine nm' ?_
      rw [nI_1]
      exact ihn (bfalse (fun z => (PB_eq.mp z).1 h1))
    · refine nm' ?_
      rw [nI_1]
      exact ihn (bfalse (fun z => (b01_0 _).mp h2 (PB_eq.mp z).2))
    · have hPi : PB r w i = true := PB_eq.mpr ⟨h1, b01_t h2⟩
      refine nm' (nm' ?_)
      rw [ct_y (p := PB r w) (i := i) hPi, nI_1]
      exact ih (i + 1) (by omega)
theorem le3 {c : Nat} (h : c ≤ 7) : (3 : Int32) ≤ nI c ↔ 3 ≤ c := by rw [show (3 : Int32) = nI 3 from rfl, nI_leI (by decide) (by omega)]
theorem midC {b j : Nat} {w : Int32} {hc : Hp} {v : Nat → Nat → Int32} {r : Nat → Int32} (hN : navs v r) (hj : j < 7) (hP : PB r w j = true) (h3 : 3 ≤ cp r w) (hk : rk r w j = (cp r w - 1) / 2) {Q : Int32 → Hp → Prop} (q : Q (nv r j 6) (cv b hc v)) : F_X1_middleWithout b w (cv b hc v) Q :=
  ⟨8, midC4 hN (bt' ((le3 (cp_le _ _)).mpr h3) ⟨8, midC43 hN hj hP h3 hk q 7 0 rfl (by omega)⟩) 7 0 rfl⟩
theorem midC_0 {b : Nat} {w : Int32} {hc : Hp} {v : Nat → Nat → Int32} {r : Nat → Int32} (hN : navs v r) (h3 : ¬ 3 ≤ cp r w) {Q : Int32 → Hp → Prop} (q : Q 9999 (cv b hc v)) : F_X1_middleWithout b w (cv b hc v) Q :=
  ⟨8, midC4 hN (bf' (fun z => h3 ((le3 (cp_le _ _)).mp z)) q) 7 0 rfl⟩
theorem partsM {w : Int32} {h : Hp} {Q : Int32 → Hp → Prop} (q : Q (nI (cp (h 1) w)) h) : F_X8_parts w h Q := by
  suffices hs : ∀ (m i : Nat), i + m = 7 → F_X8_parts_L4 (m + 1) w (nI (fb_ct (PB (h 1) w) i)) (nI i) h Q from ⟨8, hs 7 0 rfl⟩
  intro m
  induction m with
  | zero =>
    intro i e
    obtain rfl : i = 7 := by omega
    exact bt' (by decide) q
  | succ m ih =>
    intro i e
    have hi : i < 7 := by omega
    refine bf' (ge7 hi) (takesM hi (bc _ (fun h2 => ?_) (fun h2 => ?_)))
    · refine nm' (nm' ?_)
      have := ih (i + 1) (by omega)
      rw [ct_n (bfalse ((b01_0 _).mp h2))] at this
      rw [Int32.add_zero, nI_1]
      exact this
    · refine nm' (nm' ?_)
      rw [ct_y (p := PB (h 1) w) (i := i) (b01_t h2), nI_1]
      exact ih (i + 1) (by omega)
theorem lowerM {j : Nat} {w : Int32} {h : Hp} (hj : j < 7) {Q : Int32 → Hp → Prop} (q : Q (nI (rk (h 1) w j)) h) : F_X8_lower (nI j) w h Q := by
  have n6 : ∀ (i : Nat) (hi : i < 7) (h : Hp) (Q : Int32 → Hp → Prop), F_X8_number (nI i) (6 : Int32) h Q ↔ Q (nv (h 1) i 6) h := fun i hi h Q => num hi (show 6 < 8 by decide)
  suffices hs : ∀ (m i : Nat), i + m = 7 → F_X8_lower_L14 (m + 1) (nI j) w (nI (fb_ct (rkp (h 1) w j) i)) (nv (h 1) j 6) (nI i) h Q from (n6 j hj h _).mpr ⟨8, hs 7 0 rfl⟩
  intro m
  induction m with
  | zero =>
    intro i e
    obtain rfl : i = 7 := by omega
    exact bt' (by decide) q
  | succ m ih =>
    intro i e
    have hi : i < 7 := by omega
    have ihn : rkp (h 1) w j i = false → F_X8_lower_L14 (m + 1) (nI j) w (nI (fb_ct (rkp (h 1) w j) i) + 0) (nv (h 1) j 6) (nI i + 1) h Q := fun z => by
      have := ih (i + 1) (by omega)
      rw [ct_n z] at this
      rw [Int32.add_zero, nI_1]
      exact this
    have ihy : PB (h 1) w i = true → LB (h 1) i j = true → F_X8_lower_L14 (m + 1) (nI j) w (nI (fb_ct (rkp (h 1) w j) i) + 1) (nv (h 1) j 6) (nI i + 1) h Q := fun z1 z2 => by
      rw [ct_y (p := rkp (h 1) w j) (i := i) (by unfold rkp; rw [z1, z2]; rfl), nI_1]
      exact ih (i + 1) (by omega)
    have ihl : ¬ LB (h 1) i j = true → rkp (h 1) w j i = false := fun z => by unfold rkp; rw [bfalse z, Bool.and_false]
    refine bf' (ge7 hi) ((n6 i hi h _).mpr (takesM hi (bc _ (fun h2 => ?_) (fun h2 => bc _ (fun h4 => ?_) (fun h4 => bc _ (fun h5 => bc _ (fun h6 => ?_) (fun h6 => ?_)) (fun h5 => ?_))))))
    · refine nm' (nm' (ihn ?_))
      unfold rkp
      rw [bfalse ((b01_0 _).mp h2)]; rfl
    · exact nm' (nm' (ihy (b01_t h2) (LB_i.mpr (Or.inl h4))))
    · refine nm' (nm' (ihn (ihl (fun z => ?_))))
      rw [nI_leI (by omega) (by omega)] at h6
      rcases LB_i.mp z with z1 | z1
      · exact h4 z1
      · omega
    · rw [nI_leI (by omega) (by omega)] at h6
      exact nm' (nm' (ihy (b01_t h2) (LB_i.mpr (Or.inr ⟨h5, by omega⟩))))
    · refine nm' (nm' (ihn (ihl (fun z => ?_))))
      rcases LB_i.mp z with z1 | z1
      · exact h4 z1
      · exact h5 z1.1
theorem middleM {j : Nat} {w : Int32} {h : Hp} (hj : j < 7) (hP : PB (h 1) w j = true) (h3 : 3 ≤ cp (h 1) w) (hk : rk (h 1) w j = (cp (h 1) w - 1) / 2) {Q : Int32 → Hp → Prop} (q : Q (nv (h 1) j 6) h) : F_X8_middle w h Q := by
  have hcp := cp_le (h 1) w
  have n6 : ∀ (i : Nat) (hi : i < 7) (h : Hp) (Q : Int32 → Hp → Prop), F_X8_number (nI i) (6 : Int32) h Q ↔ Q (nv (h 1) i 6) h := fun i hi h Q => num hi (show 6 < 8 by decide)
  suffices hs : ∀ (m i : Nat) (y : Int32), i + m = 7 → (j < i → y = nv (h 1) j 6) → F_X8_middle_L15 (m + 1) w (nI ((cp (h 1) w - 1) / 2)) y (nI i) h Q from partsM (nm' (by
    rw [halfN (by omega) (by omega)]
    exact ⟨8, hs 7 0 0 rfl (fun z => absurd z (by omega))⟩))
  intro m
  induction m with
  | zero =>
    intro i y e hy
    obtain rfl : i = 7 := by omega
    refine bt' (by decide) ?_
    rw [hy hj]
    exact q
  | succ m ih =>
    intro i y e hy
    have hi : i < 7 := by omega
    refine bf' (ge7 hi) (takesM hi (bc _ (fun h2 => ?_) (fun h2 => lowerM hi ?_)))
    · refine nm' ?_
      rw [nI_1]
      refine ih (i + 1) y (by omega) (fun z => hy ?_)
      have : j ≠ i := fun z2 => by rw [z2] at hP; exact (b01_0 _).mp h2 hP
      omega
    · have hPi := b01_t h2
      have hr : rk (h 1) w i < 7 := by have := rk_cp hi hPi; omega
      simp only [nI_eq (show rk (h 1) w i < 2 ^ 31 by omega) (show (cp (h 1) w - 1) / 2 < 2 ^ 31 by omega), n6 i hi]
      refine bc _ (fun h4 => ?_) (fun h4 => ?_)
      · have hij : i = j := rk_inj hi hj hPi hP (by omega)
        refine nm' ?_
        rw [nI_1]
        exact ih (i + 1) _ (by omega) (fun _ => by rw [hij])
      · refine nm' ?_
        rw [nI_1]
        refine ih (i + 1) y (by omega) (fun z => hy ?_)
        have : j ≠ i := fun z2 => by rw [← z2] at h4; exact h4 hk
        omega
