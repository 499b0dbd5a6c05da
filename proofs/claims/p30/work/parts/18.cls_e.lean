/-! Questions that change nothing. -/
def estv (r : Nat → Int32) (n : Nat) : Int32 := if nv r n 5 = 1 then nv r n 6 + 5400 else -6
theorem estC {v : Nat → Nat → Int32} {r : Nat → Int32} {n : Nat} (hV : rvNav v r n) (hI : ivNav r n) : (if v 10 n = 9999 then (-6 : Int32) else v 10 n + 5400) = estv r n := by
  unfold estv
  rw [hV.2.2.2.2.2.1]
  by_cases h5 : nv r n 5 = 1
  · rw [if_pos h5, if_pos h5, if_neg (ne_9999 hI.2.2.2.2.1)]
  · rw [if_neg h5, if_neg h5, if_pos rfl]
theorem stars_k {r : Nat → Int32} (hI : IV r) : ∃ k : Nat, k ≤ 8 ∧ r 13 = nI k := by
  obtain ⟨k, hk, ek⟩ := rngN (n := 8) hI.2.2.1.1 (by decide)
  exact ⟨k, hk, ek⟩
theorem jmin8 {nt : Nat} (h : nt ≤ 999) : jmin (nI nt) 8 = nI (min nt 8) := by
  unfold jmin
  rw [show (8 : Int32) = nI 8 from rfl]
  by_cases h8 : 8 < nt
  · rw [if_pos (nI_lt h8 (by omega)), show min nt 8 = 8 by omega]
  · rw [if_neg (fun z => h8 ((nI_ltI (by decide) (by omega)).mp z)), show min nt 8 = nt by omega]
theorem lt_star {x : Int32} {k : Nat} (hk : k ≤ 8) : (¬ x < 0 ∧ x < nI k) ↔ ∃ s : Nat, s < k ∧ x = nI s := by
  constructor
  · rintro ⟨h1, h2⟩
    obtain ⟨j, hj, rfl⟩ := nI_of h1
    exact ⟨j, (nI_ltI (by omega) (by omega)).mp h2, rfl⟩
  · rintro ⟨s, hs, rfl⟩
    exact ⟨nI_pos (by omega), nI_lt hs (by omega)⟩
/-! Masks and counts. -/
def wmk (p : Nat → Bool) : Nat → Int32
  | 0 => 0
  | i + 1 => if p i = true then wmk p i ||| ((1 : Int32) <<< (nI i &&& 31)) else wmk p i
theorem wmk_t {p : Nat → Bool} {i : Nat} (h : p i = true) : wmk p (i + 1) = wmk p i ||| ((1 : Int32) <<< (nI i &&& 31)) := if_pos h
theorem wmk_f {p : Nat → Bool} {i : Nat} (h : ¬ p i = true) : wmk p (i + 1) = wmk p i := if_neg h
def canP (r : Nat → Int32) (s : Nat) : Nat → Bool := fun n => decide (rsn r n s = 0)
theorem canC {s k : Nat} {b : Nat} {hc : Hp} {v : Nat → Nat → Int32} {r : Nat → Int32} (hV : RVv v r) (hI : IV r) (hs : s < k) (hk : k ≤ 8) (ek : r 13 = nI k) {Q : Int32 → Hp → Prop} (q : Q (wmk (canP r s) 7) (cv b hc v)) : F_X6_thoseWhoCanSight b (nI s) (cv b hc v) Q := by
  suffices hs : ∀ (m i : Nat), i + m = 7 → F_X6_thoseWhoCanSight_L4 b (m + 1) (nI s) (wmk (canP r s) i) (nI i) (cv b hc v) Q from ⟨8, hs 7 0 rfl⟩
  intro m
  induction m with
  | zero =>
    intro i e
    obtain rfl : i = 7 := by omega
    exact bt' (by decide) q
  | succ m ih =>
    intro i e
    have hi : i < 7 := by omega
    refine bf' (ge7 hi) (reasonC (v := v) hV hI hi hs hk ek (bc _ (fun h => nm' (nm' ?_)) (fun h => nm' ?_)))
    · rw [← wmk_t (p := canP r s) (by unfold canP; simp [h]), nI_1]
      exact ih (i + 1) (by omega)
    · rw [nI_1, ← wmk_f (p := canP r s) (i := i) (by unfold canP; simp [h])]
      exact ih (i + 1) (by omega)
def estP (r : Nat → Int32) : Nat → Bool := fun n => decide (nv r n 5 = 1)
def sulkP (r : Nat → Int32) : Nat → Bool := fun n => decide (nv r n 7 = 2)
theorem estsC {b : Nat} {hc : Hp} {v : Nat → Nat → Int32} {r : Nat → Int32} (hN : navs v r) {Q : Int32 → Hp → Prop} (q : Q (wmk (estP r) 7) (cv b hc v)) : F_X1_thoseWithEstimate b (cv b hc v) Q := by
  suffices hs : ∀ (m i : Nat), i + m = 7 → F_X1_thoseWithEstimate_L4 b (m + 1) (wmk (estP r) i) (nI i) (cv b hc v) Q from ⟨8, hs 7 0 rfl⟩
  intro m
  induction m with
  | zero =>
    intro i e
    obtain rfl : i = 7 := by omega
    exact bt' (by decide) q
  | succ m ih =>
    intro i e
    have hi : i < 7 := by omega
    refine bf' (ge7 hi) ⟨vpn hi (by decide), ?_⟩
    rw [clN (by omega), cv_10, (hN i hi).1.2.2.2.2.2.1]
    by_cases h5 : nv r i 5 = 1
    · rw [if_pos h5]
      refine bf' (ne_9999 (hN i hi).2.2.2.2.2.1) (nm' (nm' ?_))
      rw [← wmk_t (p := estP r) (by unfold estP; simp [h5]), nI_1]
      exact ih (i + 1) (by omega)
    · rw [if_neg h5]
      refine bt' rfl (nm' ?_)
      rw [nI_1, ← wmk_f (p := estP r) (i := i) (by unfold estP; simp [h5])]
      exact ih (i + 1) (by omega)
theorem sulkC {b : Nat} {hc : Hp} {v : Nat → Nat → Int32} {r : Nat → Int32} (hN : navs v r) {Q : Int32 → Hp → Prop} (q : Q (wmk (sulkP r) 7) (cv b hc v)) : F_X1_thoseWhoSulk b (cv b hc v) Q := by
  suffices hs : ∀ (m i : Nat), i + m = 7 → F_X1_thoseWhoSulk_L4 b (m + 1) (wmk (sulkP r) i) (nI i) (cv b hc v) Q from ⟨8, hs 7 0 rfl⟩
  intro m
  induction m with
  | zero =>
    intro i e
    obtain rfl : i = 7 := by omega
    exact bt' (by decide) q
  | succ m ih =>
    intro i e
    have hi : i < 7 := by omega
    refine bf' (ge7 hi) ⟨vpn hi (by decide), ?_⟩
    rw [clN (by omega), cv_11, (hN i hi).1.2.2.2.2.2.2]
    refine bc _ (fun h5 => nm' (nm' ?_)) (fun h5 => nm' ?_)
    · rw [← wmk_t (p := sulkP r) (by unfold sulkP; simp [h5]), nI_1]
      exact ih (i + 1) (by omega)
    · rw [nI_1, ← wmk_f (p := sulkP r) (i := i) (by unfold sulkP; simp [h5])]
      exact ih (i + 1) (by omega)
def psm (r : Nat → Int32) : Nat → Int32
  | 0 => 0
  | i + 1 => psm r i + nv r i 4
theorem psm7 (r : Nat → Int32) : psm r 7 = sm7 r := by
  unfold sm7
  show (0 + nv r 0 4 + nv r 1 4 + nv r 2 4 + nv r 3 4 + nv r 4 4 + nv r 5 4 + nv r 6 4 : Int32) = _
  rw [Int32.zero_add]
theorem sumC {b : Nat} {hc : Hp} {v : Nat → Nat → Int32} {r : Nat → Int32} (hN : navs v r) {Q : Int32 → Hp → Prop} (q : Q (sm7 r) (cv b hc v)) : F_X1_sightsOfAll b (cv b hc v) Q := by
  suffices hs : ∀ (m i : Nat), i + m = 7 → F_X1_sightsOfAll_L4 b (m + 1) (psm r i) (nI i) (cv b hc v) Q from ⟨8, hs 7 0 rfl⟩
  intro m
  induction m with
  | zero =>
    intro i e
    obtain rfl : i = 7 := by omega
    rw [psm7]
    exact bt' (by decide) q
  | succ m ih =>
    intro i e
    have hi : i < 7 := by omega
    refine bf' (ge7 hi) ⟨vpn hi (by decide), nm' (nm' ?_)⟩
    rw [clN (by omega), cv_9, (hN i hi).1.2.2.2.2.1, nI_1]
    exact ih (i + 1) (by omega)
def mis (r : Nat → Int32) : Int32 := if r 5 = 1 then jabs (r 6 - r 4) else -6
theorem misC {b : Nat} {hc : Hp} {v : Nat → Nat → Int32} {r : Nat → Int32} (hV : rvCrs v r) (h6 : rng (r 6) (-5400) 5400) {Q : Int32 → Hp → Prop} (q : Q (mis r) (cv b hc v)) : F_X0_mistake (b + 12) (cv b hc v) Q := by
  obtain ⟨c0, c1, c2, c3⟩ := hV
  unfold mis at q
  unfold F_X0_mistake
  simp only [cv_12, c0, c1]
  by_cases h5 : r 5 = 1
  · rw [if_pos h5] at q
    simp only [if_pos h5]
    exact bf' (ne_9999 h6) (nm' q)
  · rw [if_neg h5] at q
    simp only [if_neg h5]
    exact bt' (by simp) q
/-! The counts. -/
/-! The best star, the nearest navigator. -/
/-! How many hours to the goal. -/
