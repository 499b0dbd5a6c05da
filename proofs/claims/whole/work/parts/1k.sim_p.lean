/-! Masks and counts. -/
def wmk (p : Nat → Bool) : Nat → Int32
  | 0 => 0
  | i + 1 => if p i = true then wmk p i ||| ((1 : Int32) <<< (nI i &&& 31)) else wmk p i
theorem wmk_t {p : Nat → Bool} {i : Nat} (h : p i = true) : wmk p (i + 1) = wmk p i ||| ((1 : Int32) <<< (nI i &&& 31)) := if_pos h
theorem wmk_f {p : Nat → Bool} {i : Nat} (h : ¬ p i = true) : wmk p (i + 1) = wmk p i := if_neg h
def canP (r : Nat → Int32) (s : Nat) : Nat → Bool := fun n => decide (rsn r n s = 0)
theorem canC {s k : Nat} {b : Nat} {hc : Hp} {v : Nat → Nat → Int32} {r : Nat → Int32} (hV : RVv v r) (hI : IV r) (hs : s < k) (hk : k ≤ 8) (ek : r 13 = nI k) {Q : Int32 → Hp → Prop} (q : Q (wmk (canP r s) 7) (cv b hc v)) : F_X6_thoseWhoCanSight b (nI s) (cv b hc v) Q := by
  suffices hs : ∀ (m i : Nat), i + m = 7 → F_X6_thoseWhoCanSight_L4 b (m + 1) (nI s) (wmk (canP r s) i) (nI i) (cv b hc v) Q from ⟨8, hs 7 0 rfl⟩
  intro m
  induction m with
  | zero =>
    intro i e
    obtain rfl : i = 7 := by omega
    exact bt' (by decide) q
  | succ m ih =>
    intro i e
    have hi : i < 7 := by omega
    refine bf' (ge7 hi) (reasonC (v := v) hV hI hi hs hk ek (bc _ (fun h => nm' (nm' ?_)) (fun h => nm' ?_)))
    · rw [← wmk_t (p := canP r s) (by unfold canP; simp [h]), nI_1]
      exact ih (i + 1) (by omega)
    · rw [nI_1, ← wmk_f (p := canP r s) (i := i) (by unfold canP; simp [h])]
      exact ih (i + 1) (by omega)
theorem canM {s : Nat} {h : Hp} (hs : s < 8) {Q : Int32 → Hp → Prop} (q : Q (wmk (canP (h 1) s) 7) h) : F_X8_whoCan (nI s) h Q := by
  suffices hs : ∀ (m i : Nat), i + m = 7 → F_X8_whoCan_L4 (m + 1) (nI s) (wmk (canP (h 1) s) i) (nI i) h Q from ⟨8, hs 7 0 rfl⟩
  intro m
  induction m with
  | zero =>
    intro i e
    obtain rfl : i = 7 := by omega
    exact bt' (by decide) q
  | succ m ih =>
    intro i e
    have hi : i < 7 := by omega
    refine bf' (ge7 hi) (reasonM hi hs (bc _ (fun h => nm' (nm' ?_)) (fun h => nm' (nm' ?_))))
    · rw [← wmk_t (p := canP _ s) (by unfold canP; simp [h]), nI_1]
      exact ih (i + 1) (by omega)
    · rw [nI_1, Int32.or_zero, ← wmk_f (p := canP _ s) (i := i) (by unfold canP; simp [h])]
      exact ih (i + 1) (by omega)
theorem sim_ofStar (x1 x2 : Int32) {hc hm : Hp} (hR : Rel hc hm) : F_X7_ofStar x1 x2 hc (fun r h1 => F_X8_ofStar x1 x2 hm (fun r2 h2 => r = r2 ∧ Rel h1 h2)) := by
  refine qry (FC := fun h Q => F_X7_ofStar x1 x2 h Q) (FM := fun h Q => F_X8_ofStar x1 x2 h Q) hR (fun v hV => ?_)
  have hI := hR.2.1
  obtain ⟨k, hk, ek⟩ := stars_k hI
  have e13 : cv 8 hc v (8 + 2) 0 = nI k := by rw [cv_2]; exact hV.2.1.1.trans ek
  by_cases hy : ∃ s : Nat, s < k ∧ x1 = nI s
  · obtain ⟨s, hs, rfl⟩ := hy
    have hs8 : s < 8 := by omega
    have hcl : (nI s).toNatClampNeg = s := clN (by omega)
    have hM0 : ∀ Q : Int32 → Hp → Prop, ((x2 = 0 → (vp_in ((15 : Int32) + nI s) 119 ∧ (Q ((hm 1 ((15 : Int32) + nI s).toNatClampNeg) + (5400 : Int32)) hm))) ∧ (¬ x2 = 0 → (((x2 = 1 → (vp_in ((23 : Int32) + nI s) 119 ∧ (Q (hm 1 ((23 : Int32) + nI s).toNatClampNeg) hm))) ∧ (¬ x2 = 1 → (((x2 = 2 → (F_X8_height (nI s) hm (fun r_9 h_10 => Q (r_9 + (5400 : Int32)) h_10))) ∧ (¬ x2 = 2 → (((x2 = 3 → (F_X8_whoCan (nI s) hm (fun r_12 h_13 => Q r_12 h_13))) ∧ (¬ x2 = 3 → (Q (-2 : Int32) hm)))))))))))) → F_X8_ofStar (nI s) x2 hm Q := fun Q q => isStar_t hk hs ek (bf' (by decide) q)
    have hC0 : ∀ Q : Int32 → Hp → Prop, F_X6_factOfStar 8 (nI s) x2 (cv 8 hc v) Q → F_X7_ofStar (nI s) x2 (cv 8 hc v) Q := fun Q q => hasStar_t hk hs e13 (bf' (by decide) q)
    by_cases e0 : x2 = 0
    · refine ⟨hm 1 (15 + s) + 5400, fun Q q => hC0 Q (bt' e0 ⟨vpn hs8 (by decide), ?_⟩), fun Q q => hM0 Q (bt' e0 ?_)⟩
      · rw [hcl, cv_3, hV.2.1.2.2 s hs8]; exact q
      · rw [ix15, clN (by omega)]; exact ⟨vpn (by omega) (by decide), q⟩
    · by_cases e1 : x2 = 1
      · refine ⟨hm 1 (23 + s), fun Q q => hC0 Q (bf' e0 (bt' e1 (cloudC hs8 hV.2.1 q))), fun Q q => hM0 Q (bf' e0 (bt' e1 ?_))⟩
        rw [ix23, clN (by omega)]; exact ⟨vpn (by omega) (by decide), q⟩
      · by_cases e2 : x2 = 2
        · exact ⟨hgt (hm 1) s + 5400, fun Q q => hC0 Q (bf' e0 (bf' e1 (bt' e2 (heightC hs8 hV.2.1.2.2 hV.2.2.2.1.1 q)))), fun Q q => hM0 Q (bf' e0 (bf' e1 (bt' e2 (heightM hs8 q))))⟩
        · by_cases e3 : x2 = 3
          · exact ⟨wmk (canP (hm 1) s) 7, fun Q q => hC0 Q (bf' e0 (bf' e1 (bf' e2 (bt' e3 (canC hV hI hs hk ek q))))), fun Q q => hM0 Q (bf' e0 (bf' e1 (bf' e2 (bt' e3 (canM hs8 q)))))⟩
          · exact ⟨-2, fun Q q => hC0 Q (bf' e0 (bf' e1 (bf' e2 (bf' e3 q)))), fun Q q => hM0 Q (bf' e0 (bf' e1 (bf' e2 (bf' e3 q))))⟩
  · exact ⟨-1, fun Q q => hasStar_f hk hy e13 (bt' rfl q), fun Q q => isStar_f hk hy ek (bt' rfl q)⟩
def estP (r : Nat → Int32) : Nat → Bool := fun n => decide (nv r n 5 = 1)
def sulkP (r : Nat → Int32) : Nat → Bool := fun n => decide (nv r n 7 = 2)
theorem estsC {b : Nat} {hc : Hp} {v : Nat → Nat → Int32} {r : Nat → Int32} (hN : navs v r) {Q : Int32 → Hp → Prop} (q : Q (wmk (estP r) 7) (cv b hc v)) : F_X1_thoseWithEstimate b (cv b hc v) Q := by
  suffices hs : ∀ (m i : Nat), i + m = 7 → F_X1_thoseWithEstimate_L4 b (m + 1) (wmk (estP r) i) (nI i) (cv b hc v) Q from ⟨8, hs 7 0 rfl⟩
  intro m
  induction m with
  | zero =>
    intro i e
    obtain rfl : i = 7 := by omega
    exact bt' (by decide) q
  | succ m ih =>
    intro i e
    have hi : i < 7 := by omega
    refine bf' (ge7 hi) ⟨vpn hi (by decide), ?_⟩
    rw [clN (by omega), cv_10, (hN i hi).1.2.2.2.2.2.1]
    by_cases h5 : nv r i 5 = 1
    · rw [if_pos h5]
      refine bf' (ne_9999 (hN i hi).2.2.2.2.2.1) (nm' (nm' ?_))
      rw [← wmk_t (p := estP r) (by unfold estP; simp [h5]), nI_1]
      exact ih (i + 1) (by omega)
    · rw [if_neg h5]
      refine bt' rfl (nm' ?_)
      rw [nI_1, ← wmk_f (p := estP r) (i := i) (by unfold estP; simp [h5])]
      exact ih (i + 1) (by omega)
theorem sulkC {b : Nat} {hc : Hp} {v : Nat → Nat → Int32} {r : Nat → Int32} (hN : navs v r) {Q : Int32 → Hp → Prop} (q : Q (wmk (sulkP r) 7) (cv b hc v)) : F_X1_thoseWhoSulk b (cv b hc v) Q := by
  suffices hs : ∀ (m i : Nat), i + m = 7 → F_X1_thoseWhoSulk_L4 b (m + 1) (wmk (sulkP r) i) (nI i) (cv b hc v) Q from ⟨8, hs 7 0 rfl⟩
  intro m
  induction m with
  | zero =>
    intro i e
    obtain rfl : i = 7 := by omega
    exact bt' (by decide) q
  | succ m ih =>
    intro i e
    have hi : i < 7 := by omega
    refine bf' (ge7 hi) ⟨vpn hi (by decide), ?_⟩
    rw [clN (by omega), cv_11, (hN i hi).1.2.2.2.2.2.2]
    refine bc _ (fun h5 => nm' (nm' ?_)) (fun h5 => nm' ?_)
    · rw [← wmk_t (p := sulkP r) (by unfold sulkP; simp [h5]), nI_1]
      exact ih (i + 1) (by omega)
    · rw [nI_1, ← wmk_f (p := sulkP r) (i := i) (by unfold sulkP; simp [h5])]
      exact ih (i + 1) (by omega)
theorem those0M {h : Hp} {Q : Int32 → Hp → Prop} (q : Q (wmk (estP (h 1)) 7) h) : F_X8_those 0 h Q := by
  suffices hs : ∀ (m i : Nat), i + m = 7 → F_X8_those_L4 (m + 1) 0 (wmk (estP (h 1)) i) (nI i) h Q from ⟨8, hs 7 0 rfl⟩
  intro m
  induction m with
  | zero =>
    intro i e
    obtain rfl : i = 7 := by omega
    exact bt' (by decide) q
  | succ m ih =>
    intro i e
    have hi : i < 7 := by omega
    refine bf' (ge7 hi) (bt' rfl ((num (f := 5) hi (by decide)).mpr (bc _ (fun h5 => nm' (nm' ?_)) (fun h5 => nm' (nm' ?_)))))
    · rw [← wmk_t (p := estP _) (by unfold estP; simp [h5]), nI_1]
      exact ih (i + 1) (by omega)
    · rw [nI_1, Int32.or_zero, ← wmk_f (p := estP _) (i := i) (by unfold estP; simp [h5])]
      exact ih (i + 1) (by omega)
theorem those1M {h : Hp} {Q : Int32 → Hp → Prop} (q : Q (wmk (sulkP (h 1)) 7) h) : F_X8_those 1 h Q := by
  suffices hs : ∀ (m i : Nat), i + m = 7 → F_X8_those_L4 (m + 1) 1 (wmk (sulkP (h 1)) i) (nI i) h Q from ⟨8, hs 7 0 rfl⟩
  intro m
  induction m with
  | zero =>
    intro i e
    obtain rfl : i = 7 := by omega
    exact bt' (by decide) q
  | succ m ih =>
    intro i e
    have hi : i < 7 := by omega
    refine bf' (ge7 hi) (bf' (by decide) ((num (f := 7) hi (by decide)).mpr (bc _ (fun h5 => nm' (nm' ?_)) (fun h5 => nm' (nm' ?_)))))
    · rw [← wmk_t (p := sulkP _) (by unfold sulkP; simp [h5]), nI_1]
      exact ih (i + 1) (by omega)
    · rw [nI_1, Int32.or_zero, ← wmk_f (p := sulkP _) (i := i) (by unfold sulkP; simp [h5])]
      exact ih (i + 1) (by omega)
def psm (r : Nat → Int32) : Nat → Int32
  | 0 => 0
  | i + 1 => psm r i + nv r i 4
theorem psm7 (r : Nat → Int32) : psm r 7 = sm7 r := by
  unfold sm7
  show (0 + nv r 0 4 + nv r 1 4 + nv r 2 4 + nv r 3 4 + nv r 4 4 + nv r 5 4 + nv r 6 4 : Int32) = _
  rw [Int32.zero_add]
theorem sumC {b : Nat} {hc : Hp} {v : Nat → Nat → Int32} {r : Nat → Int32} (hN : navs v r) {Q : Int32 → Hp → Prop} (q : Q (sm7 r) (cv b hc v)) : F_X1_sightsOfAll b (cv b hc v) Q := by
  suffices hs : ∀ (m i : Nat), i + m = 7 → F_X1_sightsOfAll_L4 b (m + 1) (psm r i) (nI i) (cv b hc v) Q from ⟨8, hs 7 0 rfl⟩
  intro m
  induction m with
  | zero =>
    intro i e
    obtain rfl : i = 7 := by omega
    rw [psm7]
    exact bt' (by decide) q
  | succ m ih =>
    intro i e
    have hi : i < 7 := by omega
    refine bf' (ge7 hi) ⟨vpn hi (by decide), nm' (nm' ?_)⟩
    rw [clN (by omega), cv_9, (hN i hi).1.2.2.2.2.1, nI_1]
    exact ih (i + 1) (by omega)
def mis (r : Nat → Int32) : Int32 := if r 5 = 1 then jabs (r 6 - r 4) else -6
theorem misM {h : Hp} {Q : Int32 → Hp → Prop} (q : Q (mis (h 1)) h) : F_X8_mistake h Q := by
  unfold mis at q
  refine bc _ (fun h1 => sizeOf_iff.mpr ?_) (fun h1 => ?_)
  · rw [if_pos h1] at q; exact q
  · rw [if_neg h1] at q; exact q
theorem misC {b : Nat} {hc : Hp} {v : Nat → Nat → Int32} {r : Nat → Int32} (hV : rvCrs v r) (h6 : rng (r 6) (-5400) 5400) {Q : Int32 → Hp → Prop} (q : Q (mis r) (cv b hc v)) : F_X0_mistake (b + 12) (cv b hc v) Q := by
  obtain ⟨c0, c1, c2, c3⟩ := hV
  unfold mis at q
  unfold F_X0_mistake
  simp only [cv_12, c0, c1]
  by_cases h5 : r 5 = 1
  · rw [if_pos h5] at q
    simp only [if_pos h5]
    exact bf' (ne_9999 h6) (nm' q)
  · rw [if_neg h5] at q
    simp only [if_neg h5]
    exact bt' (by simp) q
