theorem est_rng (r : Nat → Int32) (n s : Nat) : rng (est r n s) (-5400) 5400 := bd_rng _
theorem told_nn {x : Int32} (h : rng x (-5400) 5400) : ¬ x + 5400 < 0 := by
  rw [fa_lt, fb_addI (by have := h.1; have := h.2; rw [show (5400 : Int32).toInt = 5400 by decide]; omega) (by have := h.1; have := h.2; rw [show (5400 : Int32).toInt = 5400 by decide]; omega), show (5400 : Int32).toInt = 5400 by decide, show (0 : Int32).toInt = 0 by decide]
  have := h.1
  omega
theorem ne_9999 {x : Int32} (h : rng x (-5400) 5400) : ¬ x = 9999 := by
  intro e
  have := h.2
  rw [e, show (9999 : Int32).toInt = 9999 by decide] at this
  omega
theorem rsn_nn {r : Nat → Int32} {n s : Nat} (h : rng (nv r n 7) 0 2) : 0 ≤ rsn r n s := by
  unfold rsn
  rcases how3 h with e | e | e
  · rw [if_pos e]
    split
    · decide
    · split <;> decide
  · rw [if_neg (by rw [e]; decide), e]; decide
  · rw [if_neg (by rw [e]; decide), e]; decide
theorem tellC {b n s k : Nat} {hc : Hp} {v : Nat → Nat → Int32} {r : Nat → Int32} (hV : RVv v r) (hI : IV r) (hn : n < 7) (hs : s < k) (hk : k ≤ 8) (ek : r 13 = nI k) {Q : Int32 → Hp → Prop} (q : Q (if rsn r n s = 0 then est r n s + 5400 else -5) (cv b hc v)) : F_X6_tellSight b (nI n) (nI s) (cv b hc v) Q := by
  have h0 := rsn_nn (s := s) (hI.2.2.2.1 n hn).2.2.2.2.2
  refine reasonC hV hI hn hs hk ek (bt' h0 (bc _ (fun h1 => ?_) (fun h1 => ?_)))
  · have e0 : rsn r n s = 0 := by
      rw [fa_eq]; rw [fa_le] at h0 h1; omega
    rw [if_pos e0] at q
    exact reckonC hV hn (by omega) q
  · have e0 : ¬ rsn r n s = 0 := fun e => h1 (by rw [e]; decide)
    rw [if_neg e0] at q
    exact q
theorem whyNotM {n s k : Nat} {h : Hp} (hn : n < 7) (hs : s < k) (hk : k ≤ 8) (ek : h 1 13 = nI k) {Q : Int32 → Hp → Prop} (q : Q (if rsn (h 1) n s = 0 then 0 else -5) h) : F_X8_whyNot (nI n) (nI s) h Q := by
  simp only [F_X8_whyNot, isNavM_iff, b01_0]
  refine bf' (fun z => z (nav_c.mpr ⟨n, hn, rfl⟩)) (isStar_t hk hs ek (bf' (by decide) (reasonM hn (by omega) (bc _ (fun h1 => ?_) (fun h1 => ?_)))))
  · rw [if_pos h1] at q; exact q
  · rw [if_neg h1] at q; exact q
theorem whyNotM_n {x1 x2 : Int32} {h : Hp} (hx : ¬ ∃ n : Nat, n < 7 ∧ x1 = nI n) {Q : Int32 → Hp → Prop} (q : Q (-1) h) : F_X8_whyNot x1 x2 h Q := by
  simp only [F_X8_whyNot, isNavM_iff, b01_0]
  exact bt' (fun z => hx (nav_c.mp z)) q
theorem whyNotM_s {x1 x2 : Int32} {k : Nat} {h : Hp} (hk : k ≤ 8) (ek : h 1 13 = nI k) (hx : ¬ ∃ s : Nat, s < k ∧ x2 = nI s) {Q : Int32 → Hp → Prop} (q : Q (-1) h) : F_X8_whyNot x1 x2 h Q := by
  simp only [F_X8_whyNot, isNavM_iff]
  exact bc _ (fun _ => q) (fun _ => isStar_f hk hx ek (bt' rfl q))
theorem sm7_inc {r r' : Nat → Int32} {n : Nat} (hn : n < 7) (ho : ∀ m, m < 7 → m ≠ n → nv r' m 4 = nv r m 4) (h1 : nv r' n 4 = nv r n 4 + 1) : sm7 r' = sm7 r + 1 := by
  unfold sm7
  rcases (show n = 0 ∨ n = 1 ∨ n = 2 ∨ n = 3 ∨ n = 4 ∨ n = 5 ∨ n = 6 by omega) with rfl | rfl | rfl | rfl | rfl | rfl | rfl
  · rw [h1, ho 1 (by decide) (by decide), ho 2 (by decide) (by decide), ho 3 (by decide) (by decide), ho 4 (by decide) (by decide), ho 5 (by decide) (by decide), ho 6 (by decide) (by decide)]; ac_rfl
  · rw [h1, ho 0 (by decide) (by decide), ho 2 (by decide) (by decide), ho 3 (by decide) (by decide), ho 4 (by decide) (by decide), ho 5 (by decide) (by decide), ho 6 (by decide) (by decide)]; ac_rfl
  · rw [h1, ho 0 (by decide) (by decide), ho 1 (by decide) (by decide), ho 3 (by decide) (by decide), ho 4 (by decide) (by decide), ho 5 (by decide) (by decide), ho 6 (by decide) (by decide)]; ac_rfl
  · rw [h1, ho 0 (by decide) (by decide), ho 1 (by decide) (by decide), ho 2 (by decide) (by decide), ho 4 (by decide) (by decide), ho 5 (by decide) (by decide), ho 6 (by decide) (by decide)]; ac_rfl
  · rw [h1, ho 0 (by decide) (by decide), ho 1 (by decide) (by decide), ho 2 (by decide) (by decide), ho 3 (by decide) (by decide), ho 5 (by decide) (by decide), ho 6 (by decide) (by decide)]; ac_rfl
  · rw [h1, ho 0 (by decide) (by decide), ho 1 (by decide) (by decide), ho 2 (by decide) (by decide), ho 3 (by decide) (by decide), ho 4 (by decide) (by decide), ho 6 (by decide) (by decide)]; ac_rfl
  · rw [h1, ho 0 (by decide) (by decide), ho 1 (by decide) (by decide), ho 2 (by decide) (by decide), ho 3 (by decide) (by decide), ho 4 (by decide) (by decide), ho 5 (by decide) (by decide)]; ac_rfl
theorem sim_sights (x1 x2 : Int32) : SimV (fun b h Q => F_X6_takeSight b x1 x2 h Q) (fun h Q => F_X8_sights x1 x2 h Q) := by
  intro b hc v hm r hV hI
  have hst := hV.2.1.1
  obtain ⟨k, hk, ek⟩ := rngN (n := 8) hI.2.2.1.1 (by decide)
  by_cases hx : ∃ n : Nat, n < 7 ∧ x1 = nI n
  · by_cases hy : ∃ s : Nat, s < k ∧ x2 = nI s
    · obtain ⟨n, hn, rfl⟩ := hx
      obtain ⟨s, hs, rfl⟩ := hy
      by_cases he : rsn r n s = 0
      · obtain ⟨a5, a6, a7, a8, a9, a10, a11⟩ := hV.2.2.1 n hn
        obtain ⟨j0, j1, j2, j5, j6, j7⟩ := hI.2.2.2.1 n hn
        have hcl : (nI n).toNatClampNeg = n := clN (by omega)
        obtain ⟨w, ew⟩ : ∃ w, w = est r n s := ⟨_, rfl⟩
        have hw : rng w (-5400) 5400 := by rw [ew]; exact est_rng r n s
        obtain ⟨r', er⟩ : ∃ r', r' = upd (upd (upd (upd r (31 + 8 * n + 6) w) (31 + 8 * n + 5) 1) (31 + 8 * n + 4) (nv r n 4 + 1)) 10 (r 10 + 1) := ⟨_, rfl⟩
        have hr : ∀ k, (k < 31 + 8 * n ∨ 39 + 8 * n ≤ k) → k ≠ 10 → r' k = r k := fun k h1 h2 => by rw [er, upd_n' (by omega), upd_n' (by omega), upd_n' (by omega), upd_n' (by omega)]
        have hf : ∀ m g, m < 7 → g < 8 → nv r' m g = if m = n ∧ g = 4 then nv r n 4 + 1 else if m = n ∧ g = 5 then 1 else if m = n ∧ g = 6 then w else nv r m g := fun m g hm hg => by
          rw [er, upd_nv (by omega) hg hm, nv_upd (by decide) hg, nv_upd (by decide) hg, nv_upd (by decide) hg]
        have hfn : ∀ g, g < 8 → nv r' n g = if g = 4 then nv r n 4 + 1 else if g = 5 then 1 else if g = 6 then w else nv r n g := fun g hg => by rw [hf n g hn hg]; simp
        refine ⟨w + 5400, up1 (up1 v 10 (upd (v 10) n w)) 9 (upd (v 9) n (nv r n 4 + 1)), r', fun Q q => ?_, fun Q q => ?_, ?_, ?_, fun h => absurd h (told_nn hw)⟩
        · refine tellC hV hI hn hs hk ek ?_
          rw [if_pos he, ← ew]
          refine bf' (told_nn hw) ⟨vpn hn (by decide), fun h4 e4 => ⟨vpn hn (by decide), vpn hn (by decide), fun h7 e7 => ?_⟩⟩
          rw [Int32.add_sub_cancel, hcl, cv_10, cu_10] at e4
          subst e4
          rw [hcl, cv_9, cu_9, up1_n v _ (by decide), a9] at e7
          subst e7
          exact q
        · refine whyNotM hn hs hk (by rw [up1_1]; exact ek) ?_
          rw [up1_1, if_pos he]
          refine bt' rfl (wouldM hn (by omega) ?_)
          rw [up1_1, ← ew]
          rw [show F_X8_setOf (nI n) (6 : Int32) w = F_X8_setOf (nI n) (nI 6) w from rfl, sof hn (by decide), up1_1, up1_up1, show F_X8_setOf (nI n) (5 : Int32) (1 : Int32) = F_X8_setOf (nI n) (nI 5) 1 from rfl, sof hn (by decide), up1_1, up1_up1]
          rw [show F_X8_number (nI n) (4 : Int32) = F_X8_number (nI n) (nI 4) from rfl, num hn (by decide), up1_1, nv_upd (by decide) (by decide), nv_upd (by decide) (by decide), if_neg (by omega), if_neg (by omega)]
          rw [show F_X8_setOf (nI n) (4 : Int32) (nv r n 4 + 1) = F_X8_setOf (nI n) (nI 4) (nv r n 4 + 1) from rfl, sof hn (by decide), up1_1, up1_up1]
          intro h14 e14
          rw [up1_1, up1_up1, upd_n' (show (10 : Nat) ≠ 31 + 8 * n + 4 by omega), upd_n' (show (10 : Nat) ≠ 31 + 8 * n + 5 by omega), upd_n' (show (10 : Nat) ≠ 31 + 8 * n + 6 by omega), ← er] at e14
          subst e14
          rw [show F_X8_number (nI n) (6 : Int32) = F_X8_number (nI n) (nI 6) from rfl, num hn (by decide), up1_1, hfn 6 (by decide), if_neg (by decide), if_neg (by decide), if_pos rfl]
          exact q
        · refine RV_nav hn hV (fun o j ho => by rw [up1_n _ _ (by omega), up1_n _ _ (by omega)]) (fun o j hj => ?_) hr ?_
          · by_cases ho : o = 9
            · subst ho; rw [up1_s, upd_n' hj]
            · rw [up1_n _ _ ho]
              by_cases ho2 : o = 10
              · subst ho2; rw [up1_s, upd_n' hj]
              · rw [up1_n _ _ ho2]
          · unfold rvNav
            rw [hfn 0 (by decide), hfn 1 (by decide), hfn 2 (by decide), hfn 3 (by decide), hfn 4 (by decide), hfn 5 (by decide), hfn 6 (by decide), hfn 7 (by decide)]
            refine ⟨a5, a6, a7, a8, ?_, ?_, a11⟩
            · rw [up1_s, upd_s']; rfl
            · rw [up1_n _ _ (by decide), up1_s, upd_s']; rfl
        · refine IV_nav hn hI hr ?_ ?_
          · unfold ivNav
            rw [hfn 0 (by decide), hfn 1 (by decide), hfn 2 (by decide), hfn 5 (by decide), hfn 6 (by decide), hfn 7 (by decide)]
            exact ⟨j0, j1, j2, (show rng (1 : Int32) 0 1 from ⟨by decide, by decide⟩), hw, j7⟩
          · exact Eq.trans (b := sm7 r + 1) (by rw [er, upd_s', hI.2.2.2.2]) (sm7_inc (r := r) hn (fun m hm hmn => by rw [hf m 4 hm (by decide)]; simp [hmn]) (by rw [hfn 4 (by decide)]; rfl)).symm
      · refine ⟨-5, v, r, fun Q q => ?_, fun Q q => ?_, hV, hI, fun _ => ⟨rfl, rfl⟩⟩
        · refine tellC hV hI hn hs hk ek ?_
          rw [if_neg he]
          exact bt' (by decide) q
        · refine whyNotM hn hs hk (by rw [up1_1]; exact ek) ?_
          rw [up1_1, if_neg he]
          exact bf' (by decide) q
    · refine ⟨-1, v, r, fun Q q => ?_, fun Q q => ?_, hV, hI, fun _ => ⟨rfl, rfl⟩⟩
      · show F_X6_takeSight b x1 x2 (cv b hc v) Q
        unfold F_X6_takeSight F_X6_tellSight
        exact reasonC_s (v := v) hk (by rw [hst, ek]) hy (bf' (by decide) (bt' (by decide) q))
      · exact whyNotM_s hk (by rw [up1_1]; exact ek) hy (bf' (by decide) q)
  · refine ⟨-1, v, r, fun Q q => ?_, fun Q q => ?_, hV, hI, fun _ => ⟨rfl, rfl⟩⟩
    · show F_X6_takeSight b x1 x2 (cv b hc v) Q
      unfold F_X6_takeSight F_X6_tellSight
      exact reasonC_n (v := v) hx (bf' (by decide) (bt' (by decide) q))
    · exact whyNotM_n hx (bf' (by decide) q)
