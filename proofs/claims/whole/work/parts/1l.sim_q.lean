/-! The counts. -/
theorem sim_count (x1 : Int32) {hc hm : Hp} (hR : Rel hc hm) : F_X7_count x1 hc (fun r h1 => F_X8_count x1 hm (fun r2 h2 => r = r2 ∧ Rel h1 h2)) := by
  refine qry (FC := fun h Q => F_X7_count x1 h Q) (FM := fun h Q => F_X8_count x1 h Q) hR (fun v hV => ?_)
  have hI := hR.2.1
  have hN := navs_of hV hI
  obtain ⟨n, o, -, -, g2, g3, -, -⟩ := (Rel_i.mp hR).2.2.1
  obtain ⟨L, -, l1, l2, -⟩ := (Rel_i.mp hR).2.2.2.2
  have x3 : cv 8 hc v 3 1 = hm 0 7 := by rw [cv_out (by decide), l1, l2]
  have x2 : cv 8 hc v 1 2 = hm 0 3 := by rw [cv_out (by decide), g2, g3]
  by_cases e0 : x1 = 0
  · have e15 : ¬ x1 = 15 := by rw [e0]; decide
    have e16 : ¬ x1 = 16 := by rw [e0]; decide
    exact ⟨hm 1 4 + 5400, fun Q q => bf' e15 (bf' e16 (bt' e0 (by rw [cv_12, hV.2.2.2.1.1]; exact q))), fun Q q => bt' e0 q⟩
  by_cases e1 : x1 = 1
  · have e15 : ¬ x1 = 15 := by rw [e1]; decide
    have e16 : ¬ x1 = 16 := by rw [e1]; decide
    exact ⟨bel (hm 1), fun Q q => bf' e15 (bf' e16 (bf' e0 (bt' e1 (by rw [told_iff, cv_12, belC hV.2.2.2.1.2.1 hI.2.1.2.2.1]; exact q)))), fun Q q => bf' e0 (bt' e1 (belM q))⟩
  by_cases e2 : x1 = 2
  · have e15 : ¬ x1 = 15 := by rw [e2]; decide
    have e16 : ¬ x1 = 16 := by rw [e2]; decide
    exact ⟨hm 1 7 + 5400, fun Q q => bf' e15 (bf' e16 (bf' e0 (bf' e1 (bt' e2 (by rw [cv_12, hV.2.2.2.1.2.2.1]; exact q))))), fun Q q => bf' e0 (bf' e1 (bt' e2 q))⟩
  by_cases e3 : x1 = 3
  · have e15 : ¬ x1 = 15 := by rw [e3]; decide
    have e16 : ¬ x1 = 16 := by rw [e3]; decide
    exact ⟨hm 1 8, fun Q q => bf' e15 (bf' e16 (bf' e0 (bf' e1 (bf' e2 (bt' e3 (by rw [cv_12, hV.2.2.2.1.2.2.2]; exact q)))))), fun Q q => bf' e0 (bf' e1 (bf' e2 (bt' e3 (by subst e3; rw [show ((8 : Int32) + 3) - 3 = nI 8 from by decide, clN (by decide)]; exact ⟨vpn (by decide) (by decide), q⟩))))⟩
  by_cases e4 : x1 = 4
  · have e15 : ¬ x1 = 15 := by rw [e4]; decide
    have e16 : ¬ x1 = 16 := by rw [e4]; decide
    exact ⟨hm 1 9, fun Q q => bf' e15 (bf' e16 (bf' e0 (bf' e1 (bf' e2 (bf' e3 (bt' e4 (by rw [cv_0, hV.2.2.2.2.1.1]; exact q))))))), fun Q q => bf' e0 (bf' e1 (bf' e2 (bf' e3 (bt' e4 (by subst e4; rw [show ((8 : Int32) + 4) - 3 = nI 9 from by decide, clN (by decide)]; exact ⟨vpn (by decide) (by decide), q⟩)))))⟩
  by_cases e5 : x1 = 5
  · have e15 : ¬ x1 = 15 := by rw [e5]; decide
    have e16 : ¬ x1 = 16 := by rw [e5]; decide
    exact ⟨hm 1 10, fun Q q => bf' e15 (bf' e16 (bf' e0 (bf' e1 (bf' e2 (bf' e3 (bf' e4 (bt' e5 (sumC hN (by rw [← hI.2.2.2.2]; exact q))))))))), fun Q q => bf' e0 (bf' e1 (bf' e2 (bf' e3 (bf' e4 (bt' e5 (by subst e5; rw [show ((8 : Int32) + 5) - 3 = nI 10 from by decide, clN (by decide)]; exact ⟨vpn (by decide) (by decide), q⟩))))))⟩
  by_cases e6 : x1 = 6
  · have e15 : ¬ x1 = 15 := by rw [e6]; decide
    have e16 : ¬ x1 = 16 := by rw [e6]; decide
    exact ⟨hm 1 11, fun Q q => bf' e15 (bf' e16 (bf' e0 (bf' e1 (bf' e2 (bf' e3 (bf' e4 (bf' e5 (bt' e6 (by rw [cv_0, hV.2.2.2.2.1.2.1]; exact q))))))))), fun Q q => bf' e0 (bf' e1 (bf' e2 (bf' e3 (bf' e4 (bf' e5 (bt' e6 (by subst e6; rw [show ((8 : Int32) + 6) - 3 = nI 11 from by decide, clN (by decide)]; exact ⟨vpn (by decide) (by decide), q⟩)))))))⟩
  by_cases e7 : x1 = 7
  · have e15 : ¬ x1 = 15 := by rw [e7]; decide
    have e16 : ¬ x1 = 16 := by rw [e7]; decide
    exact ⟨hm 1 12, fun Q q => bf' e15 (bf' e16 (bf' e0 (bf' e1 (bf' e2 (bf' e3 (bf' e4 (bf' e5 (bf' e6 (bt' e7 (by rw [cv_0, hV.2.2.2.2.1.2.2]; exact q)))))))))), fun Q q => bf' e0 (bf' e1 (bf' e2 (bf' e3 (bf' e4 (bf' e5 (bf' e6 (bt' e7 (by subst e7; rw [show ((8 : Int32) + 7) - 3 = nI 12 from by decide, clN (by decide)]; exact ⟨vpn (by decide) (by decide), q⟩))))))))⟩
  by_cases e8 : x1 = 8
  · have e15 : ¬ x1 = 15 := by rw [e8]; decide
    have e16 : ¬ x1 = 16 := by rw [e8]; decide
    exact ⟨wmk (estP (hm 1)) 7, fun Q q => bf' e15 (bf' e16 (bf' e0 (bf' e1 (bf' e2 (bf' e3 (bf' e4 (bf' e5 (bf' e6 (bf' e7 (bt' e8 (estsC hN q))))))))))), fun Q q => bf' e0 (bf' e1 (bf' e2 (bf' e3 (bf' e4 (bf' e5 (bf' e6 (bf' e7 (bt' e8 (those0M q)))))))))⟩
  by_cases e9 : x1 = 9
  · have e15 : ¬ x1 = 15 := by rw [e9]; decide
    have e16 : ¬ x1 = 16 := by rw [e9]; decide
    exact ⟨wmk (sulkP (hm 1)) 7, fun Q q => bf' e15 (bf' e16 (bf' e0 (bf' e1 (bf' e2 (bf' e3 (bf' e4 (bf' e5 (bf' e6 (bf' e7 (bf' e8 (bt' e9 (sulkC hN q)))))))))))), fun Q q => bf' e0 (bf' e1 (bf' e2 (bf' e3 (bf' e4 (bf' e5 (bf' e6 (bf' e7 (bf' e8 (bt' e9 (those1M q))))))))))⟩
  by_cases e10 : x1 = 10
  · have e15 : ¬ x1 = 15 := by rw [e10]; decide
    have e16 : ¬ x1 = 16 := by rw [e10]; decide
    exact ⟨mis (hm 1), fun Q q => bf' e15 (bf' e16 (bf' e0 (bf' e1 (bf' e2 (bf' e3 (bf' e4 (bf' e5 (bf' e6 (bf' e7 (bf' e8 (bf' e9 (bt' e10 (misC hV.2.2.2.1 hI.2.1.2.2.1 q))))))))))))), fun Q q => bf' e0 (bf' e1 (bf' e2 (bf' e3 (bf' e4 (bf' e5 (bf' e6 (bf' e7 (bf' e8 (bf' e9 (bt' e10 (misM q)))))))))))⟩
  by_cases e11 : x1 = 11
  · have e15 : ¬ x1 = 15 := by rw [e11]; decide
    have e16 : ¬ x1 = 16 := by rw [e11]; decide
    exact ⟨hm 1 0 + 30, fun Q q => bf' e15 (bf' e16 (bf' e0 (bf' e1 (bf' e2 (bf' e3 (bf' e4 (bf' e5 (bf' e6 (bf' e7 (bf' e8 (bf' e9 (bf' e10 (bt' e11 (by rw [cv_1, hV.1 0 (by decide)]; exact q)))))))))))))), fun Q q => bf' e0 (bf' e1 (bf' e2 (bf' e3 (bf' e4 (bf' e5 (bf' e6 (bf' e7 (bf' e8 (bf' e9 (bf' e10 (bt' e11 q)))))))))))⟩
  by_cases e12 : x1 = 12
  · have e15 : ¬ x1 = 15 := by rw [e12]; decide
    have e16 : ¬ x1 = 16 := by rw [e12]; decide
    exact ⟨hm 1 1, fun Q q => bf' e15 (bf' e16 (bf' e0 (bf' e1 (bf' e2 (bf' e3 (bf' e4 (bf' e5 (bf' e6 (bf' e7 (bf' e8 (bf' e9 (bf' e10 (bf' e11 (bt' e12 (by rw [cv_1, hV.1 1 (by decide)]; exact q))))))))))))))), fun Q q => bf' e0 (bf' e1 (bf' e2 (bf' e3 (bf' e4 (bf' e5 (bf' e6 (bf' e7 (bf' e8 (bf' e9 (bf' e10 (bf' e11 (bt' e12 (by subst e12; rw [show (12 : Int32) - 11 = nI 1 from by decide, clN (by decide)]; exact ⟨vpn (by decide) (by decide), q⟩)))))))))))))⟩
  by_cases e13 : x1 = 13
  · have e15 : ¬ x1 = 15 := by rw [e13]; decide
    have e16 : ¬ x1 = 16 := by rw [e13]; decide
    exact ⟨hm 1 2, fun Q q => bf' e15 (bf' e16 (bf' e0 (bf' e1 (bf' e2 (bf' e3 (bf' e4 (bf' e5 (bf' e6 (bf' e7 (bf' e8 (bf' e9 (bf' e10 (bf' e11 (bf' e12 (bt' e13 (by rw [cv_1, hV.1 2 (by decide)]; exact q)))))))))))))))), fun Q q => bf' e0 (bf' e1 (bf' e2 (bf' e3 (bf' e4 (bf' e5 (bf' e6 (bf' e7 (bf' e8 (bf' e9 (bf' e10 (bf' e11 (bf' e12 (bt' e13 (by subst e13; rw [show (13 : Int32) - 11 = nI 2 from by decide, clN (by decide)]; exact ⟨vpn (by decide) (by decide), q⟩))))))))))))))⟩
  by_cases e14 : x1 = 14
  · have e15 : ¬ x1 = 15 := by rw [e14]; decide
    have e16 : ¬ x1 = 16 := by rw [e14]; decide
    exact ⟨hm 1 3, fun Q q => bf' e15 (bf' e16 (bf' e0 (bf' e1 (bf' e2 (bf' e3 (bf' e4 (bf' e5 (bf' e6 (bf' e7 (bf' e8 (bf' e9 (bf' e10 (bf' e11 (bf' e12 (bf' e13 (bt' e14 (by rw [cv_1, hV.1 3 (by decide)]; exact q))))))))))))))))), fun Q q => bf' e0 (bf' e1 (bf' e2 (bf' e3 (bf' e4 (bf' e5 (bf' e6 (bf' e7 (bf' e8 (bf' e9 (bf' e10 (bf' e11 (bf' e12 (bf' e13 (bt' e14 (by subst e14; rw [show (14 : Int32) - 11 = nI 3 from by decide, clN (by decide)]; exact ⟨vpn (by decide) (by decide), q⟩)))))))))))))))⟩
  by_cases e15 : x1 = 15
  · exact ⟨hm 0 7, fun Q q => bt' e15 (by rw [x3]; exact q), fun Q q => bf' e0 (bf' e1 (bf' e2 (bf' e3 (bf' e4 (bf' e5 (bf' e6 (bf' e7 (bf' e8 (bf' e9 (bf' e10 (bf' e11 (bf' e12 (bf' e13 (bf' e14 (bt' e15 q)))))))))))))))⟩
  by_cases e16 : x1 = 16
  · exact ⟨hm 0 3, fun Q q => bf' e15 (bt' e16 (by rw [x2]; exact q)), fun Q q => bf' e0 (bf' e1 (bf' e2 (bf' e3 (bf' e4 (bf' e5 (bf' e6 (bf' e7 (bf' e8 (bf' e9 (bf' e10 (bf' e11 (bf' e12 (bf' e13 (bf' e14 (bf' e15 (bt' e16 q))))))))))))))))⟩
  exact ⟨-2, fun Q q => bf' e15 (bf' e16 (bf' e0 (bf' e1 (bf' e2 (bf' e3 (bf' e4 (bf' e5 (bf' e6 (bf' e7 (bf' e8 (bf' e9 (bf' e10 (bf' e11 (bf' e12 (bf' e13 (bf' e14 (q))))))))))))))))), fun Q q => bf' e0 (bf' e1 (bf' e2 (bf' e3 (bf' e4 (bf' e5 (bf' e6 (bf' e7 (bf' e8 (bf' e9 (bf' e10 (bf' e11 (bf' e12 (bf' e13 (bf' e14 (bf' e15 (bf' e16 (q)))))))))))))))))⟩
/-! The best star, the nearest navigator. -/
theorem bests {k : Nat} {hc hm : Hp} {v : Nat → Nat → Int32} (hV : RVv v (hm 1)) (hk : k ≤ 8) (ek : hm 1 13 = nI k) : ∀ (m i : Nat) (y : Int32), i + m = k → (y = -6 ∨ ∃ s : Nat, s < k ∧ y = nI s) → ∃ z : Int32, (∀ Q : Int32 → Hp → Prop, Q z (cv 8 hc v) → F_X6_highestStar_L5 8 (m + 1) y (nI i) (cv 8 hc v) Q) ∧ (∀ Q : Int32 → Hp → Prop, Q z hm → F_X8_bestStar_L5 (m + 1) y (nI i) hm Q) := by
  have e13 : cv 8 hc v (8 + 2) 0 = nI k := by rw [cv_2]; exact hV.2.1.1.trans ek
  intro m
  induction m with
  | zero =>
    intro i y e hy
    refine ⟨y, fun Q q => bt' ?_ q, fun Q q => bt' ?_ q⟩
    · rw [e13, nI_leI (by omega) (by omega)]; omega
    · rw [ek, nI_leI (by omega) (by omega)]; omega
  | succ m ih =>
    intro i y e hy
    have hi : i < k := by omega
    have hi8 : i < 8 := by omega
    have hle : ¬ nI k ≤ nI i := nI_ge hi (by omega)
    have hvp : vp_in ((23 : Int32) + nI i) 119 := by rw [ix23]; exact vpn (by omega) (by decide)
    have hcx : ((23 : Int32) + nI i).toNatClampNeg = 23 + i := by rw [ix23, clN (by omega)]
    have s3 : cv 8 hc v (8 + 1) 3 = hm 1 3 := by rw [cv_1]; exact hV.1 3 (by decide)
    have hC : ∀ (s : Nat) (hs : s < 8) (Q : Int32 → Hp → Prop), Q (hgt (hm 1) s) (cv 8 hc v) → F_X6_heightOf 8 (nI s) (cv 8 hc v) Q := fun s hs Q q => heightC hs hV.2.1.2.2 hV.2.2.2.1.1 q
    obtain ⟨z1, c1, m1⟩ := ih (i + 1) y (by omega) hy
    obtain ⟨z2, c2, m2⟩ := ih (i + 1) (nI i) (by omega) (Or.inr ⟨i, hi, rfl⟩)
    by_cases hcl : hm 1 (23 + i) = 0
    · by_cases hh : hgt (hm 1) i < hm 1 3
      · refine ⟨z1, fun Q q => bf' (by rw [e13]; exact hle) (cloudC hi8 hV.2.1 (bt' hcl (hC i hi8 _ (bt' (by rw [s3]; exact hh) (nm' ?_))))), fun Q q => bf' (by rw [ek]; exact hle) ⟨hvp, bt' (by rw [hcx]; exact hcl) (heightM hi8 (bt' hh (nm' ?_)))⟩⟩
        · rw [nI_1]; exact c1 Q q
        · rw [nI_1]; exact m1 Q q
      · by_cases h6 : y = -6
        · refine ⟨z2, fun Q q => bf' (by rw [e13]; exact hle) (cloudC hi8 hV.2.1 (bt' hcl (hC i hi8 _ (bf' (by rw [s3]; exact hh) (bt' h6 (nm' ?_)))))), fun Q q => bf' (by rw [ek]; exact hle) ⟨hvp, bt' (by rw [hcx]; exact hcl) (heightM hi8 (bf' hh (bt' h6 (nm' ?_))))⟩⟩
          · rw [nI_1]; exact c2 Q q
          · rw [nI_1]; exact m2 Q q
        · obtain ⟨s, hs, rfl⟩ : ∃ s : Nat, s < k ∧ y = nI s := by
            rcases hy with z | z
            · exact absurd z h6
            · exact z
          by_cases h7 : hgt (hm 1) i ≤ hgt (hm 1) s
          · refine ⟨z1, fun Q q => bf' (by rw [e13]; exact hle) (cloudC hi8 hV.2.1 (bt' hcl (hC i hi8 _ (bf' (by rw [s3]; exact hh) (bf' h6 (hC i hi8 _ (hC s (by omega) _ (bt' h7 (nm' ?_))))))))), fun Q q => bf' (by rw [ek]; exact hle) ⟨hvp, bt' (by rw [hcx]; exact hcl) (heightM hi8 (bf' hh (bf' h6 (heightM hi8 (heightM (show s < 8 by omega) (bt' h7 (nm' ?_)))))))⟩⟩
            · rw [nI_1]; exact c1 Q q
            · rw [nI_1]; exact m1 Q q
          · refine ⟨z2, fun Q q => bf' (by rw [e13]; exact hle) (cloudC hi8 hV.2.1 (bt' hcl (hC i hi8 _ (bf' (by rw [s3]; exact hh) (bf' h6 (hC i hi8 _ (hC s (by omega) _ (bf' h7 (nm' ?_))))))))), fun Q q => bf' (by rw [ek]; exact hle) ⟨hvp, bt' (by rw [hcx]; exact hcl) (heightM hi8 (bf' hh (bf' h6 (heightM hi8 (heightM (show s < 8 by omega) (bf' h7 (nm' ?_)))))))⟩⟩
            · rw [nI_1]; exact c2 Q q
            · rw [nI_1]; exact m2 Q q
    · refine ⟨z1, fun Q q => bf' (by rw [e13]; exact hle) (cloudC hi8 hV.2.1 (bf' hcl (nm' ?_))), fun Q q => bf' (by rw [ek]; exact hle) ⟨hvp, bf' (by rw [hcx]; exact hcl) (nm' ?_)⟩⟩
      · rw [nI_1]; exact c1 Q q
      · rw [nI_1]; exact m1 Q q
theorem sim_bestStar {hc hm : Hp} (hR : Rel hc hm) : F_X7_bestStar hc (fun r h1 => F_X8_bestStar hm (fun r2 h2 => r = r2 ∧ Rel h1 h2)) := by
  refine qry (FC := fun h Q => F_X7_bestStar h Q) (FM := fun h Q => F_X8_bestStar h Q) hR (fun v hV => ?_)
  obtain ⟨k, hk, ek⟩ := stars_k hR.2.1
  obtain ⟨z, hC, hM⟩ := bests (hc := hc) hV hk ek k 0 (-6) (by omega) (Or.inl rfl)
  exact ⟨z, fun Q q => ⟨k + 1, hC Q q⟩, fun Q q => ⟨k + 1, hM Q q⟩⟩
theorem nears {hc hm : Hp} {v : Nat → Nat → Int32} (x : Int32) (hV : RVv v (hm 1)) (hI : IV (hm 1)) : ∀ (m i : Nat) (y2 y3 : Int32), i + m = 7 → ∃ z : Int32, (∀ Q : Int32 → Hp → Prop, Q z (cv 8 hc v) → F_X6_nearestNavigator_L21 8 (m + 1) x y2 y3 (nI i) (cv 8 hc v) Q) ∧ (∀ Q : Int32 → Hp → Prop, Q z hm → F_X8_nearest_L21 (m + 1) x y2 y3 (nI i) hm Q) := by
  have hN := navs_of hV hI
  intro m
  induction m with
  | zero =>
    intro i y2 y3 e
    obtain rfl : i = 7 := by omega
    by_cases h0 : x = 0
    · exact ⟨y2, fun Q q => bt' (by decide) (bt' h0 q), fun Q q => bt' (by decide) (bt' h0 q)⟩
    · exact ⟨y3, fun Q q => bt' (by decide) (bf' h0 q), fun Q q => bt' (by decide) (bf' h0 q)⟩
  | succ m ih =>
    intro i y2 y3 e
    have hi : i < 7 := by omega
    have hcl : (nI i).toNatClampNeg = i := clN (by omega)
    have hvp : vp_in (nI i) 7 := vpn hi (by decide)
    have n5 : ∀ (h : Hp) (Q : Int32 → Hp → Prop), F_X8_number (nI i) (5 : Int32) h Q ↔ Q (nv (h 1) i 5) h := fun h Q => num hi (show 5 < 8 by decide)
    have n6 : ∀ (h : Hp) (Q : Int32 → Hp → Prop), F_X8_number (nI i) (6 : Int32) h Q ↔ Q (nv (h 1) i 6) h := fun h Q => num hi (show 6 < 8 by decide)
    have e10 : cv 8 hc v (8 + 10) i = if nv (hm 1) i 5 = 1 then nv (hm 1) i 6 else 9999 := by rw [cv_10]; exact (hN i hi).1.2.2.2.2.2.1
    have e12 : cv 8 hc v (8 + 12) 0 = hm 1 4 := by rw [cv_12]; exact hV.2.2.2.1.1
    obtain ⟨z1, c1, m1⟩ := ih (i + 1) y2 y3 (by omega)
    obtain ⟨z2, c2, m2⟩ := ih (i + 1) (nI i) (jabs (nv (hm 1) i 6 - hm 1 4)) (by omega)
    have gC : ∀ Q : Int32 → Hp → Prop, ((cv 8 hc v (8 + 10) i = 9999 → F_X6_nearestNavigator_L21 8 (m + 1) x y2 y3 (nI i + 1) (cv 8 hc v) Q) ∧ (¬ cv 8 hc v (8 + 10) i = 9999 → ((y2 = -6 → F_X6_nearestNavigator_L21 8 (m + 1) x (nI i) (jabs (cv 8 hc v (8 + 10) i - cv 8 hc v (8 + 12) 0)) (nI i + 1) (cv 8 hc v) Q) ∧ (¬ y2 = -6 → ((y3 ≤ jabs (cv 8 hc v (8 + 10) i - cv 8 hc v (8 + 12) 0) → F_X6_nearestNavigator_L21 8 (m + 1) x y2 y3 (nI i + 1) (cv 8 hc v) Q) ∧ (¬ y3 ≤ jabs (cv 8 hc v (8 + 10) i - cv 8 hc v (8 + 12) 0) → F_X6_nearestNavigator_L21 8 (m + 1) x (nI i) (jabs (cv 8 hc v (8 + 10) i - cv 8 hc v (8 + 12) 0)) (nI i + 1) (cv 8 hc v) Q)))))) → F_X6_nearestNavigator_L21 8 (m + 1 + 1) x y2 y3 (nI i) (cv 8 hc v) Q := fun Q q => by
      refine bf' (ge7 hi) ⟨hvp, ?_⟩
      rw [hcl]
      exact ⟨fun h => nm' (q.1 h), fun h => ⟨hvp, nm' ⟨fun h2 => nm' (((q.2 h).1 h2)), fun h2 => ⟨fun h3 => nm' (((q.2 h).2 h2).1 h3), fun h3 => nm' (((q.2 h).2 h2).2 h3)⟩⟩⟩⟩
    have gM : ∀ Q : Int32 → Hp → Prop, ((nv (hm 1) i 5 = 1 → ((y2 = -6 → F_X8_nearest_L21 (m + 1) x (nI i) (jabs (nv (hm 1) i 6 - hm 1 4)) (nI i + 1) hm Q) ∧ (¬ y2 = -6 → ((y3 ≤ jabs (nv (hm 1) i 6 - hm 1 4) → F_X8_nearest_L21 (m + 1) x y2 y3 (nI i + 1) hm Q) ∧ (¬ y3 ≤ jabs (nv (hm 1) i 6 - hm 1 4) → F_X8_nearest_L21 (m + 1) x (nI i) (jabs (nv (hm 1) i 6 - hm 1 4)) (nI i + 1) hm Q))))) ∧ (¬ nv (hm 1) i 5 = 1 → F_X8_nearest_L21 (m + 1) x y2 y3 (nI i + 1) hm Q)) → F_X8_nearest_L21 (m + 1 + 1) x y2 y3 (nI i) hm Q := fun Q q => by
      refine bf' (ge7 hi) ((n6 _ _).mpr (sizeOf_iff.mpr ((n5 _ _).mpr ?_)))
      exact ⟨fun h => ⟨fun h2 => nm' ((q.1 h).1 h2), fun h2 => ⟨fun h3 => nm' (((q.1 h).2 h2).1 h3), fun h3 => nm' (((q.1 h).2 h2).2 h3)⟩⟩, fun h => nm' (q.2 h)⟩
    simp only [e10, e12, nI_1] at gC gM
    by_cases h5 : nv (hm 1) i 5 = 1
    · simp only [if_pos h5] at gC
      have h9 := ne_9999 (hN i hi).2.2.2.2.2.1
      by_cases h6 : y2 = -6
      · exact ⟨z2, fun Q q => gC Q (bf' h9 (bt' h6 (c2 Q q))), fun Q q => gM Q (bt' h5 (bt' h6 (m2 Q q)))⟩
      · by_cases h7 : y3 ≤ jabs (nv (hm 1) i 6 - hm 1 4)
        · exact ⟨z1, fun Q q => gC Q (bf' h9 (bf' h6 (bt' h7 (c1 Q q)))), fun Q q => gM Q (bt' h5 (bf' h6 (bt' h7 (m1 Q q))))⟩
        · exact ⟨z2, fun Q q => gC Q (bf' h9 (bf' h6 (bf' h7 (c2 Q q)))), fun Q q => gM Q (bt' h5 (bf' h6 (bf' h7 (m2 Q q))))⟩
    · simp only [if_neg h5] at gC
      exact ⟨z1, fun Q q => gC Q (bt' (by simp) (c1 Q q)), fun Q q => gM Q (bf' h5 (m1 Q q))⟩
theorem sim_nearest (x1 : Int32) {hc hm : Hp} (hR : Rel hc hm) : F_X7_nearest x1 hc (fun r h1 => F_X8_nearest x1 hm (fun r2 h2 => r = r2 ∧ Rel h1 h2)) := by
  refine qry (FC := fun h Q => F_X7_nearest x1 h Q) (FM := fun h Q => F_X8_nearest x1 h Q) hR (fun v hV => ?_)
  obtain ⟨z, hC, hM⟩ := nears (hc := hc) x1 hV hR.2.1 7 0 (-6) (-6) rfl
  by_cases h0 : x1 = 0
  · exact ⟨z, fun Q q => bt' h0 ⟨8, hC Q q⟩, fun Q q => within_iff.mpr (bf' (fun w => (b01_0 _).mp w (by rw [h0]; decide)) ⟨8, hM Q q⟩)⟩
  · by_cases h1 : x1 = 1
    · exact ⟨z, fun Q q => bf' h0 (bt' h1 ⟨8, hC Q q⟩), fun Q q => within_iff.mpr (bf' (fun w => (b01_0 _).mp w (by rw [h1]; decide)) ⟨8, hM Q q⟩)⟩
    · refine ⟨-2, fun Q q => bf' h0 (bf' h1 q), fun Q q => within_iff.mpr (bt' ((b01_0 _).mpr (fun w => ?_)) q)⟩
      obtain ⟨j, hj, e⟩ := slot01 w
      rcases (show j = 0 ∨ j = 1 by omega) with rfl | rfl
      · exact h0 e
      · exact h1 e
