/-! Questions that change nothing. -/
theorem qry {FC FM : Hp → (Int32 → Hp → Prop) → Prop} {hc hm : Hp} (hR : Rel hc hm) (h : ∀ v : Nat → Nat → Int32, RVv v (hm 1) → ∃ z : Int32, (∀ Q : Int32 → Hp → Prop, Q z (cv 8 hc v) → FC (cv 8 hc v) Q) ∧ (∀ Q : Int32 → Hp → Prop, Q z hm → FM hm Q)) : FC hc (fun r h1 => FM hm (fun r2 h2 => r = r2 ∧ Rel h1 h2)) := by
  obtain ⟨z, hC, hM⟩ := h (fun o => hc (8 + o)) hR.1
  rw [cv_self] at hC
  exact hC (fun r h1 => FM hm (fun r2 h2 => r = r2 ∧ Rel h1 h2)) (hM (fun r2 h2 => z = r2 ∧ Rel hc h2) ⟨rfl, hR⟩)
def estv (r : Nat → Int32) (n : Nat) : Int32 := if nv r n 5 = 1 then nv r n 6 + 5400 else -6
theorem estC {v : Nat → Nat → Int32} {r : Nat → Int32} {n : Nat} (hV : rvNav v r n) (hI : ivNav r n) : (if v 10 n = 9999 then (-6 : Int32) else v 10 n + 5400) = estv r n := by
  unfold estv
  rw [hV.2.2.2.2.2.1]
  by_cases h5 : nv r n 5 = 1
  · rw [if_pos h5, if_pos h5, if_neg (ne_9999 hI.2.2.2.2.1)]
  · rw [if_neg h5, if_neg h5, if_pos rfl]
theorem estM {n : Nat} {h : Hp} (hn : n < 7) {Q : Int32 → Hp → Prop} (q : Q (estv (h 1) n) h) : F_X8_estimate (nI n) h Q := by
  unfold estv at q
  refine (num (f := 5) hn (by decide)).mpr (bc _ (fun h5 => (num (f := 6) hn (by decide)).mpr ?_) (fun h5 => ?_))
  · rw [if_pos h5] at q; exact q
  · rw [if_neg h5] at q; exact q
theorem sim_of (x1 x2 : Int32) {hc hm : Hp} (hR : Rel hc hm) : F_X7_of x1 x2 hc (fun r h1 => F_X8_of x1 x2 hm (fun r2 h2 => r = r2 ∧ Rel h1 h2)) := by
  refine qry (FC := fun h Q => F_X7_of x1 x2 h Q) (FM := fun h Q => F_X8_of x1 x2 h Q) hR (fun v hV => ?_)
  have hI := hR.2.1
  by_cases hx : ∃ n : Nat, n < 7 ∧ x1 = nI n
  · obtain ⟨n, hn, rfl⟩ := hx
    have hxc := nav_c.mpr ⟨n, hn, rfl⟩
    have hcl : (nI n).toNatClampNeg = n := clN (by omega)
    have hvp : vp_in (nI n) 7 := vpn hn (by decide)
    obtain ⟨a5, a6, a7, a8, a9, a10, a11⟩ := hV.2.2.1 n hn
    simp only [F_X7_of, F_X8_of, isNavC_iff, isNavM_iff, b01_0, F_X1_factOf, told_iff, hcl, cv_5, cv_6, cv_7, cv_8, cv_9, cv_10, cv_11, a5, a6, a7, a8, a9, a11, estC (hV.2.2.1 n hn) (hI.2.2.2.1 n hn)]
    by_cases e0 : x2 = 0
    · subst e0
      exact ⟨nv (hm 1) n 0, fun Q q => bf' (fun z => z hxc) (bt' rfl ⟨hvp, q⟩), fun Q q => bf' (fun z => z hxc) (bt' rfl ((num (f := 0) hn (by decide)).mpr q))⟩
    · by_cases e1 : x2 = 1
      · subst e1
        exact ⟨nv (hm 1) n 1 + 60, fun Q q => bf' (fun z => z hxc) (bf' e0 (bt' rfl ⟨hvp, q⟩)), fun Q q => bf' (fun z => z hxc) (bf' e0 (bt' rfl ((num (f := 1) hn (by decide)).mpr q)))⟩
      · by_cases e2 : x2 = 2
        · subst e2
          exact ⟨nv (hm 1) n 2, fun Q q => bf' (fun z => z hxc) (bf' e0 (bf' e1 (bt' rfl ⟨hvp, q⟩))), fun Q q => bf' (fun z => z hxc) (bf' e0 (bf' e1 (bt' rfl ((num (f := 2) hn (by decide)).mpr q))))⟩
        · by_cases e3 : x2 = 3
          · subst e3
            exact ⟨nv (hm 1) n 3, fun Q q => bf' (fun z => z hxc) (bf' e0 (bf' e1 (bf' e2 (bt' rfl ⟨hvp, q⟩)))), fun Q q => bf' (fun z => z hxc) (bf' e0 (bf' e1 (bf' e2 (bt' rfl ((num (f := 3) hn (by decide)).mpr q)))))⟩
          · by_cases e4 : x2 = 4
            · subst e4
              exact ⟨nv (hm 1) n 4, fun Q q => bf' (fun z => z hxc) (bf' e0 (bf' e1 (bf' e2 (bf' e3 (bt' rfl ⟨hvp, q⟩))))), fun Q q => bf' (fun z => z hxc) (bf' e0 (bf' e1 (bf' e2 (bf' e3 (bt' rfl ((num (f := 4) hn (by decide)).mpr q))))))⟩
            · by_cases e5 : x2 = 5
              · subst e5
                exact ⟨estv (hm 1) n, fun Q q => bf' (fun z => z hxc) (bf' e0 (bf' e1 (bf' e2 (bf' e3 (bf' e4 (bt' rfl ⟨hvp, q⟩)))))), fun Q q => bf' (fun z => z hxc) (bf' e0 (bf' e1 (bf' e2 (bf' e3 (bf' e4 (bt' rfl (estM hn q)))))))⟩
              · by_cases e6 : x2 = 6
                · subst e6
                  exact ⟨nv (hm 1) n 7, fun Q q => bf' (fun z => z hxc) (bf' e0 (bf' e1 (bf' e2 (bf' e3 (bf' e4 (bf' e5 (bt' rfl ⟨hvp, q⟩))))))), fun Q q => bf' (fun z => z hxc) (bf' e0 (bf' e1 (bf' e2 (bf' e3 (bf' e4 (bf' e5 (bt' rfl ((num (f := 7) hn (by decide)).mpr q))))))))⟩
                · by_cases e7 : x2 = 7
                  · subst e7
                    exact ⟨errv (hm 1) n + 999, fun Q q => bf' (fun z => z hxc) (bf' e0 (bf' e1 (bf' e2 (bf' e3 (bf' e4 (bf' e5 (bf' e6 (bt' rfl (errorC hn (hV.2.2.1 n hn) q))))))))), fun Q q => bf' (fun z => z hxc) (bf' e0 (bf' e1 (bf' e2 (bf' e3 (bf' e4 (bf' e5 (bf' e6 (bt' rfl (errorM hn q)))))))))⟩
                  · exact ⟨-2, fun Q q => bf' (fun z => z hxc) (bf' e0 (bf' e1 (bf' e2 (bf' e3 (bf' e4 (bf' e5 (bf' e6 (bf' e7 q)))))))), fun Q q => bf' (fun z => z hxc) (bf' e0 (bf' e1 (bf' e2 (bf' e3 (bf' e4 (bf' e5 (bf' e6 (bf' e7 q))))))))⟩
  · refine ⟨-1, fun Q q => ?_, fun Q q => ?_⟩
    · simp only [F_X7_of, isNavC_iff, b01_0]
      exact bt' (fun z => hx (nav_c.mp z)) q
    · simp only [F_X8_of, isNavM_iff, b01_0]
      exact bt' (fun z => hx (nav_c.mp z)) q
theorem stars_k {r : Nat → Int32} (hI : IV r) : ∃ k : Nat, k ≤ 8 ∧ r 13 = nI k := by
  obtain ⟨k, hk, ek⟩ := rngN (n := 8) hI.2.2.1.1 (by decide)
  exact ⟨k, hk, ek⟩
theorem sim_why (x1 x2 : Int32) {hc hm : Hp} (hR : Rel hc hm) : F_X7_why x1 x2 hc (fun r h1 => F_X8_why x1 x2 hm (fun r2 h2 => r = r2 ∧ Rel h1 h2)) := by
  refine qry (FC := fun h Q => F_X7_why x1 x2 h Q) (FM := fun h Q => F_X8_why x1 x2 h Q) hR (fun v hV => ?_)
  have hI := hR.2.1
  obtain ⟨k, hk, ek⟩ := stars_k hI
  by_cases hx : ∃ n : Nat, n < 7 ∧ x1 = nI n
  · by_cases hy : ∃ s : Nat, s < k ∧ x2 = nI s
    · obtain ⟨n, hn, rfl⟩ := hx
      obtain ⟨s, hs, rfl⟩ := hy
      refine ⟨rsn (hm 1) n s, fun Q q => ?_, fun Q q => ?_⟩
      · show F_X6_reasonAgainst 8 (nI n) (nI s) (cv 8 hc v) (fun r_1 h_2 => Q r_1 h_2)
        exact reasonC (v := v) hV hI hn hs hk ek q
      · show F_X8_isNavigator _ _ _
        exact isNavM_iff.mpr (bf' (fun z => (b01_0 _).mp z (nav_c.mpr ⟨n, hn, rfl⟩)) (isStar_t hk hs ek (bf' (by decide) (reasonM hn (by omega) q))))
    · obtain ⟨n, hn, rfl⟩ := hx
      refine ⟨-1, fun Q q => ?_, fun Q q => ?_⟩
      · show F_X6_reasonAgainst 8 (nI n) x2 (cv 8 hc v) (fun r_1 h_2 => Q r_1 h_2)
        exact reasonC_s (v := v) hk (hV.2.1.1.trans ek) hy q
      · show F_X8_isNavigator _ _ _
        exact isNavM_iff.mpr (bf' (fun z => (b01_0 _).mp z (nav_c.mpr ⟨n, hn, rfl⟩)) (isStar_f hk hy ek (bt' (by decide) q)))
  · refine ⟨-1, fun Q q => ?_, fun Q q => ?_⟩
    · show F_X6_reasonAgainst 8 x1 x2 (cv 8 hc v) (fun r_1 h_2 => Q r_1 h_2)
      exact reasonC_n (v := v) hx q
    · show F_X8_isNavigator _ _ _
      exact isNavM_iff.mpr (bt' ((b01_0 _).mpr (fun z => hx (nav_c.mp z))) q)
theorem sim_ifSighted (x1 x2 : Int32) {hc hm : Hp} (hR : Rel hc hm) : F_X7_ifSighted x1 x2 hc (fun r h1 => F_X8_ifSighted x1 x2 hm (fun r2 h2 => r = r2 ∧ Rel h1 h2)) := by
  refine qry (FC := fun h Q => F_X7_ifSighted x1 x2 h Q) (FM := fun h Q => F_X8_ifSighted x1 x2 h Q) hR (fun v hV => ?_)
  have hI := hR.2.1
  obtain ⟨k, hk, ek⟩ := stars_k hI
  by_cases hx : ∃ n : Nat, n < 7 ∧ x1 = nI n
  · by_cases hy : ∃ s : Nat, s < k ∧ x2 = nI s
    · obtain ⟨n, hn, rfl⟩ := hx
      obtain ⟨s, hs, rfl⟩ := hy
      refine ⟨if rsn (hm 1) n s = 0 then est (hm 1) n s + 5400 else -5, fun Q q => ?_, fun Q q => ?_⟩
      · show F_X6_tellSight 8 (nI n) (nI s) (cv 8 hc v) (fun r_1 h_2 => Q r_1 h_2)
        exact tellC (v := v) hV hI hn hs hk ek q
      · show F_X8_whyNot (nI n) (nI s) hm _
        refine whyNotM hn hs hk ek ?_
        by_cases he : rsn (hm 1) n s = 0
        · rw [if_pos he] at q
          rw [if_pos he]
          exact bt' rfl (wouldM hn (by omega) q)
        · rw [if_neg he] at q
          rw [if_neg he]
          exact bf' (by decide) q
    · obtain ⟨n, hn, rfl⟩ := hx
      refine ⟨-1, fun Q q => ?_, fun Q q => ?_⟩
      · show F_X6_tellSight 8 (nI n) x2 (cv 8 hc v) (fun r_1 h_2 => Q r_1 h_2)
        unfold F_X6_tellSight
        exact reasonC_s (v := v) hk (hV.2.1.1.trans ek) hy (bf' (by decide) q)
      · show F_X8_whyNot (nI n) x2 hm _
        exact whyNotM_s hk ek hy (bf' (by decide) q)
  · refine ⟨-1, fun Q q => ?_, fun Q q => ?_⟩
    · show F_X6_tellSight 8 x1 x2 (cv 8 hc v) (fun r_1 h_2 => Q r_1 h_2)
      unfold F_X6_tellSight
      exact reasonC_n (v := v) hx (bf' (by decide) q)
    · show F_X8_whyNot x1 x2 hm _
      exact whyNotM_n hx (bf' (by decide) q)
theorem jmin8 {nt : Nat} (h : nt ≤ 999) : jmin (nI nt) 8 = nI (min nt 8) := by
  unfold jmin
  rw [show (8 : Int32) = nI 8 from rfl]
  by_cases h8 : 8 < nt
  · rw [if_pos (nI_lt h8 (by omega)), show min nt 8 = 8 by omega]
  · rw [if_neg (fun z => h8 ((nI_ltI (by decide) (by omega)).mp z)), show min nt 8 = nt by omega]
theorem lt_star {x : Int32} {k : Nat} (hk : k ≤ 8) : (¬ x < 0 ∧ x < nI k) ↔ ∃ s : Nat, s < k ∧ x = nI s := by
  constructor
  · rintro ⟨h1, h2⟩
    obtain ⟨j, hj, rfl⟩ := nI_of h1
    exact ⟨j, (nI_ltI (by omega) (by omega)).mp h2, rfl⟩
  · rintro ⟨s, hs, rfl⟩
    exact ⟨nI_pos (by omega), nI_lt hs (by omega)⟩
theorem sim_log (x1 x2 : Int32) {hc hm : Hp} (hR : Rel hc hm) : F_X7_log x1 x2 hc (fun r h1 => F_X8_log x1 x2 hm (fun r2 h2 => r = r2 ∧ Rel h1 h2)) := by
  refine qry (FC := fun h Q => F_X7_log x1 x2 h Q) (FM := fun h Q => F_X8_log x1 x2 h Q) hR (fun v hV => ?_)
  obtain ⟨nt, hnt, e9, e14, hlog⟩ := hV.2.2.2.2.2
  have m5 : v 0 5 = nI nt := hV.2.2.2.2.1.1.trans e9
  by_cases hx : ∃ j : Nat, j < min nt 8 ∧ x1 = nI j
  · obtain ⟨j, hj, rfl⟩ := hx
    have hjw := (star_c (x := nI j) (k := min nt 8) (by omega)).mpr ⟨j, hj, rfl⟩
    have e4 : (4 : Int32) = nI 4 := rfl
    by_cases hy : ∃ k : Nat, k < 4 ∧ x2 = nI k
    · obtain ⟨k, hk, rfl⟩ := hy
      have hkw : 0 ≤ nI k ∧ nI k ≤ 3 := ⟨nI_pos' (by omega), by rw [show (3 : Int32) = nI 3 from rfl, nI_leI (by omega) (by decide)]; omega⟩
      refine ⟨hm 1 (87 + 4 * j + k), fun Q q => ?_, fun Q q => ?_⟩
      · simp only [F_X7_log, F_X6_factOfLog, cv_0, m5, forall_eq, jmin8 hnt]
        refine bf' (nI_pos (by omega)) (bt' (nI_lt hj (by omega)) (bf' (nI_pos (by omega)) (bt' (nI_lt (b := 4) hk (by decide)) ?_)))
        have ei : nI nt - 1 - nI j = nI (nt - 1 - j) := by rw [show (1 : Int32) = nI 1 from rfl, pk_sub (by omega), pk_sub (by omega)]
        have ei2 : (nI (nt - 1 - j) - nI (nt - 1 - j) / (8 : Int32) * (8 : Int32)) * (4 : Int32) + nI k = nI ((nt - 1 - j) % 8 * 4 + k) := by rw [show (8 : Int32) = nI 8 from rfl, pk_rem (by omega) (by decide) (by decide), e4, pk_mul, nI_add]
        unfold F_X3_read
        rw [ei, ei2, clN (by omega), cv_14]
        refine ⟨vpn (by omega) (by decide), ?_⟩
        have := hlog j k hj hk
        rw [show 4 * ((nt - 1 - j) % 8) + k = (nt - 1 - j) % 8 * 4 + k by omega] at this
        rw [this]
        exact q
      · have ei : ((87 : Int32) + (4 : Int32) * nI j) + nI k = nI (87 + 4 * j + k) := by rw [e4, pk_mul, show (87 : Int32) = nI 87 from rfl, nI_add, nI_add]
        simp only [F_X8_log, within_iff, b01_0, e14, ei, clN (show 87 + 4 * j + k < 2 ^ 31 by omega)]
        exact bf' (fun z => z hjw) (bf' (fun z => z hkw) ⟨vpn (by omega) (by decide), q⟩)
    · have hkw : ¬ (0 ≤ x2 ∧ x2 ≤ 3) := fun z => hy (by
        obtain ⟨k, hk, e⟩ := ofN (M := 3) (n := 3) (by decide) z
        exact ⟨k, by omega, e⟩)
      refine ⟨-2, fun Q q => ?_, fun Q q => ?_⟩
      · simp only [F_X7_log, F_X6_factOfLog, cv_0, m5, forall_eq, jmin8 hnt]
        refine bf' (nI_pos (by omega)) (bt' (nI_lt hj (by omega)) (bc _ (fun _ => q) (fun h0 => bf' (fun z => hy ?_) q)))
        exact (lt_star (by decide)).mp ⟨h0, z⟩
      · simp only [F_X8_log, within_iff, b01_0, e14]
        exact bf' (fun z => z hjw) (bt' hkw q)
  · refine ⟨-1, fun Q q => ?_, fun Q q => ?_⟩
    · simp only [F_X7_log, F_X6_factOfLog, cv_0, m5, forall_eq, jmin8 hnt]
      exact bc _ (fun _ => q) (fun h0 => bf' (fun z => hx ((lt_star (by omega)).mp ⟨h0, z⟩)) q)
    · simp only [F_X8_log, within_iff, b01_0, e14]
      exact bt' (fun z => hx ((star_c (by omega)).mp z)) q
