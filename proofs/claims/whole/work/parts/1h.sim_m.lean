/-! The settings and the navigators' natures. -/
theorem rel_err2 {hc hm : Hp} {n o : Nat} {w : Nat → Nat → Int32} (hR : Rel hc hm) (hh : histR hc hm n o) : Rel (cv (ringP o n) hc w) hm := by
  have := rel_err (w := w) (y := hm 2) hR hh
  rw [up1_self] at this
  exact this
def asd (hm : Hp) : Hp := up1 hm 2 (fb_put (hm 2) (hm 1) 0 119)
theorem op_sim2 {B : Nat → Hp → (Int32 → Hp → Prop) → Prop} {hc hm : Hp} (M : (Int32 → Hp → Prop) → Prop) (hR : Rel hc hm) (hS : ∀ (b : Nat) (hc : Hp) (v : Nat → Nat → Int32), RVv v (hm 1) → (∃ x : Int32, x < 0 ∧ (∀ Q : Int32 → Hp → Prop, Q x (cv b hc v) → B b (cv b hc v) Q) ∧ (∀ Q : Int32 → Hp → Prop, Q x hm → M Q)) ∨ (∃ (x : Int32) (v' : Nat → Nat → Int32) (r' : Nat → Int32), ¬ x < 0 ∧ (∀ Q : Int32 → Hp → Prop, Q x (cv b hc v') → B b (cv b hc v) Q) ∧ (∀ Q : Int32 → Hp → Prop, F_X8_recorded x (up1 (asd hm) 1 r') Q → M Q) ∧ RVv v' r' ∧ IV r')) : F_X2_hold 8 hc (fun h_2 => B 8 h_2 (fun r_3 h_4 => F_X2_keepUnlessError r_3 h_4 (fun r_5 h_6 => M (fun r5 h6 => r_5 = r5 ∧ Rel h_6 h6)))) := by
  obtain ⟨n, o, hh⟩ := (Rel_i.mp hR).2.2.1
  obtain ⟨hn, ho, e2, e0, e1, hrow⟩ := id hh
  have hb := ringP_b o n
  obtain ⟨w, hw, hH⟩ := holdC hn ho e2 e1
  refine hH _ ?_
  have V1 : RVv (fun k => cv (ringP o n) hc w (8 + k)) (hm 1) := RV_out (b2 := 8) (Or.inl (by omega)) hR.1
  rcases hS 8 (cv (ringP o n) hc w) (fun k => cv (ringP o n) hc w (8 + k)) V1 with ⟨x, hx, hC, hM⟩ | ⟨x, v', r', hx, hC, hM, hV', hI'⟩
  · rw [cv_self] at hC
    exact hC _ (keepE hx (hM _ ⟨rfl, rel_err2 hR hh⟩))
  · rw [cv_self] at hC
    refine hC _ ?_
    have e8 : cv 8 (cv (ringP o n) hc w) v' 1 = hc 1 := (cv_out (by omega)).trans (cv_out (by omega))
    refine keepC hn ho (by rw [e8]; exact e2) (by rw [e8]; exact e1) hx (hM _ (bf' hx (pushM hn ?_ ⟨rfl, rel_chg hR hh hw hV' hI'⟩)))
    exact e0
theorem leastM {j : Nat} (hj : j ≤ 3) {h : Hp} {Q : Int32 → Hp → Prop} (q : Q (stLS j) h) : F_X8_leastOf (nI j) h Q := by
  rcases (show j = 0 ∨ j = 1 ∨ j = 2 ∨ j = 3 by omega) with rfl | rfl | rfl | rfl
  · exact bt' (by decide) q
  · exact bf' (by decide) (bf' (by decide) q)
  · exact bf' (by decide) (bt' (by decide) q)
  · exact bf' (by decide) (bf' (by decide) q)
theorem mostM {j : Nat} (hj : j ≤ 3) {h : Hp} {Q : Int32 → Hp → Prop} (q : Q (stMS j) h) : F_X8_mostOf (nI j) h Q := by
  rcases (show j = 0 ∨ j = 1 ∨ j = 2 ∨ j = 3 by omega) with rfl | rfl | rfl | rfl
  · exact bf' (by decide) (bf' (by decide) q)
  · exact bf' (by decide) (bf' (by decide) q)
  · exact bt' (by decide) q
  · exact bf' (by decide) (bt' (by decide) q)
theorem rng_lm {x lo hi : Int32} {l u : Int} (h1 : ¬ x < lo) (h2 : x ≤ hi) (hl : lo.toInt = l) (hu : hi.toInt = u) : rng x l u := rng_in ⟨nlt.mp h1, h2⟩ hl hu
theorem iv_set {r : Nat → Int32} {j : Nat} {x2 : Int32} (hj : j ≤ 3) (h1 : ¬ x2 < stLS j) (h2 : x2 ≤ stMS j) (hI : IV r) : IV (upd r j x2) := by
  obtain ⟨⟨a, b, c, d⟩, icrs, isky, inav, isum⟩ := hI
  refine ⟨?_, ivCrs_c (fun k h1 h2 => upd_n' (by omega)) icrs, ivSky_c (upd_n' (by omega)) (fun k h1 h2 => upd_n' (by omega)) isky, fun n hn => ivNav_c (nv_c hn (fun k h1 h2 => upd_n' (by omega))) (inav n hn), Eq.trans (b := sm7 r) (by rw [upd_n' (by omega)]; exact isum) (sm7_c (fun n hn => nv_c hn (fun k h1 h2 => upd_n' (by omega)) 4 (by decide))).symm⟩
  rcases (show j = 0 ∨ j = 1 ∨ j = 2 ∨ j = 3 by omega) with rfl | rfl | rfl | rfl
  · exact ⟨by rw [upd_s']; exact rng_lm h1 h2 (by decide) (by decide), by rw [upd_n' (by decide)]; exact b, by rw [upd_n' (by decide)]; exact c, by rw [upd_n' (by decide)]; exact d⟩
  · exact ⟨by rw [upd_n' (by decide)]; exact a, by rw [upd_s']; exact rng_lm h1 h2 (by decide) (by decide), by rw [upd_n' (by decide)]; exact c, by rw [upd_n' (by decide)]; exact d⟩
  · exact ⟨by rw [upd_n' (by decide)]; exact a, by rw [upd_n' (by decide)]; exact b, by rw [upd_s']; exact rng_lm h1 h2 (by decide) (by decide), by rw [upd_n' (by decide)]; exact d⟩
  · exact ⟨by rw [upd_n' (by decide)]; exact a, by rw [upd_n' (by decide)]; exact b, by rw [upd_n' (by decide)]; exact c, by rw [upd_s']; exact rng_lm h1 h2 (by decide) (by decide)⟩
theorem add_nn {x y : Int32} {k : Int} (h : rng x (-k) 100000) (hy : y.toInt = k) (hk : 0 ≤ k) (hk2 : k ≤ 100000) : ¬ x + y < 0 := by
  obtain ⟨a, b⟩ := h
  rw [fa_lt, fb_addI (by omega) (by omega), show (0 : Int32).toInt = 0 by decide]
  omega
theorem rng_w {x : Int32} {a b c d : Int} (h : rng x a b) (h1 : c ≤ a) (h2 : b ≤ d) : rng x c d := by
  obtain ⟨p, q⟩ := h
  exact ⟨by omega, by omega⟩
theorem lt4 {j : Nat} (hj : j ≤ 3) : ¬ (4 : Int32) ≤ nI j := nI_ge (a := j) (b := 4) (by omega) (by decide)
theorem sim_set (x1 x2 : Int32) {hc hm : Hp} (hR : Rel hc hm) : F_X7_set x1 x2 hc (fun r h1 => F_X8_set x1 x2 hm (fun r2 h2 => r = r2 ∧ Rel h1 h2)) := by
  refine op_sim2 (B := fun b h Q => F_X6_changeSetting b x1 x2 h Q) (fun Q => F_X8_set x1 x2 hm Q) hR (fun b hc v hV => ?_)
  have hI := hR.2.1
  by_cases hx : 0 ≤ x1 ∧ x1 ≤ 3
  · obtain ⟨j, hj, rfl⟩ := ofN (x := x1) (M := 3) (n := 3) (by decide) hx
    have hcl : (nI j).toNatClampNeg = j := clN (by omega)
    by_cases h1 : x2 < stLS j
    · refine Or.inl ⟨-2, by decide, fun Q q => ?_, fun Q q => ?_⟩
      · simp only [F_X6_changeSetting, hcl]
        exact bf' (nI_pos (by omega)) (bf' (lt4 hj) ⟨vpn (by omega) (by decide), bt' h1 q⟩)
      · simp only [F_X8_set, within_iff, b01_0]
        exact bf' (fun z => z hx) (leastM hj (mostM hj (bt' (fun z => nlt.mpr z.1 h1) q)))
    · by_cases h2 : x2 ≤ stMS j
      · have hnn : ¬ hm 1 j + 30 < 0 := by
          obtain ⟨a, b, c, d⟩ := hI.1
          refine add_nn (k := 30) ?_ (by decide) (by decide) (by decide)
          rcases (show j = 0 ∨ j = 1 ∨ j = 2 ∨ j = 3 by omega) with rfl | rfl | rfl | rfl
          · exact rng_w a (by decide) (by decide)
          · exact rng_w b (by decide) (by decide)
          · exact rng_w c (by decide) (by decide)
          · exact rng_w d (by decide) (by decide)
        refine Or.inr ⟨hm 1 j + 30, up1 v 1 (upd (v 1) j x2), upd (hm 1) j x2, hnn, fun Q q => ?_, fun Q q => ?_, ?_, iv_set hj h1 h2 hI⟩
        · simp only [F_X6_changeSetting, hcl, cv_1, cu_1, forall_eq, hV.1 j (by omega)]
          exact bf' (nI_pos (by omega)) (bf' (lt4 hj) ⟨vpn (by omega) (by decide), bf' h1 ⟨vpn (by omega) (by decide), bt' h2 ⟨vpn (by omega) (by decide), vpn (by omega) (by decide), q⟩⟩⟩)
        · simp only [F_X8_set, within_iff, b01_0]
          refine bf' (fun z => z hx) (leastM hj (mostM hj (bf' (fun z => z ⟨nlt.mp h1, h2⟩) (putM ⟨vpn (by omega) (by decide), nm' ⟨vpn (by omega) (by decide), nm' ?_⟩⟩))))
          rw [hcl]
          exact q
        · refine ⟨fun k hk => ?_, rvSky_c (fun j hj => rfl) (fun j hj => rfl) (upd_n' (by omega)) (fun k h1 h2 => upd_n' (by omega)) hV.2.1, fun n hn => rvNav_c (fun o h1 h2 => by rw [up1_n _ _ (by omega)]) (nv_c hn (fun k h1 h2 => upd_n' (by omega))) (hV.2.2.1 n hn), rvCrs_c (fun j hj => rfl) (fun k h1 h2 => upd_n' (by omega)) hV.2.2.2.1, rvMisc_c (fun j h1 h2 => rfl) (upd_n' (by omega)) (upd_n' (by omega)) (upd_n' (by omega)) hV.2.2.2.2.1, rvLog_c (fun j hj => rfl) (upd_n' (by omega)) (upd_n' (by omega)) (fun k h1 h2 => upd_n' (by omega)) hV.2.2.2.2.2⟩
          rw [up1_s]
          by_cases hkj : k = j
          · subst hkj; rw [upd_s', upd_s']
          · rw [upd_n' hkj, upd_n' hkj]; exact hV.1 k hk
      · refine Or.inl ⟨-2, by decide, fun Q q => ?_, fun Q q => ?_⟩
        · simp only [F_X6_changeSetting, hcl]
          exact bf' (nI_pos (by omega)) (bf' (lt4 hj) ⟨vpn (by omega) (by decide), bf' h1 ⟨vpn (by omega) (by decide), bf' h2 q⟩⟩)
        · simp only [F_X8_set, within_iff, b01_0]
          exact bf' (fun z => z hx) (leastM hj (mostM hj (bt' (fun z => h2 z.2) q)))
  · refine Or.inl ⟨-2, by decide, fun Q q => bc _ (fun _ => q) (fun h0 => bt' ?_ q), fun Q q => ?_⟩
    · have := nlt.mp h0
      by_cases h4 : (4 : Int32) ≤ x1
      · exact h4
      · refine absurd ⟨this, ?_⟩ hx
        rw [fa_le] at h4 ⊢
        rw [show (4 : Int32).toInt = 4 by decide] at h4
        rw [show (3 : Int32).toInt = 3 by decide]
        omega
    · simp only [F_X8_set, within_iff, b01_0]
      exact bt' hx q
theorem valueM {f : Nat} {x3 : Int32} (hf : f ≤ 2) {h : Hp} {Q : Int32 → Hp → Prop} (q : Q (b01 (stLT f ≤ x3 ∧ x3 ≤ stMT f)) h) : F_X8_isValue (nI f) x3 h Q := by
  rcases (show f = 0 ∨ f = 1 ∨ f = 2 by omega) with rfl | rfl | rfl
  · exact bt' (by decide) (within_iff.mpr ⟨b01_n _, q⟩)
  · exact bf' (by decide) (bt' (by decide) (within_iff.mpr ⟨b01_n _, q⟩))
  · refine bf' (by decide) (bf' (by decide) (bt' (by decide) (within_iff.mpr (bc _ (fun h0 => ?_) (fun h0 => ?_)))))
    · rw [show b01 (stLT 2 ≤ x3 ∧ x3 ≤ stMT 2) = 0 from h0] at q; exact q
    · rw [(b01_1 _).mpr (b01_t h0 : stLT 2 ≤ x3 ∧ x3 ≤ stMT 2)] at q; exact q
theorem lt3 {f : Nat} (hf : f ≤ 2) : ¬ (3 : Int32) ≤ nI f := nI_ge (a := f) (b := 3) (by omega) (by decide)
theorem sim_navigator (x1 x2 x3 : Int32) {hc hm : Hp} (hR : Rel hc hm) : F_X7_navigator x1 x2 x3 hc (fun r h1 => F_X8_navigator x1 x2 x3 hm (fun r2 h2 => r = r2 ∧ Rel h1 h2)) := by
  refine op_sim2 (B := fun b h Q => F_X6_changeNavigator b x1 x2 x3 h Q) (fun Q => F_X8_navigator x1 x2 x3 hm Q) hR (fun b hc v hV => ?_)
  have hI := hR.2.1
  by_cases hx : ∃ n : Nat, n < 7 ∧ x1 = nI n
  · obtain ⟨n, hn, rfl⟩ := hx
    have hxc := nav_c.mpr ⟨n, hn, rfl⟩
    have hcl : (nI n).toNatClampNeg = n := clN (by omega)
    by_cases hy : 0 ≤ x2 ∧ x2 ≤ 2
    · obtain ⟨f, hf, rfl⟩ := ofN (x := x2) (M := 2) (n := 2) (by decide) hy
      have hcf : (nI f).toNatClampNeg = f := clN (by omega)
      by_cases h1 : x3 < stLT f
      · refine Or.inl ⟨-2, by decide, fun Q q => ?_, fun Q q => ?_⟩
        · simp only [F_X6_changeNavigator, isNavC_iff, b01_0, hcl, hcf]
          exact bf' (fun z => z hxc) (bf' (nI_pos (by omega)) (bf' (lt3 hf) ⟨vpn (by omega) (by decide), bt' h1 q⟩))
        · simp only [F_X8_navigator, isNavM_iff, b01_0]
          exact bf' (fun z => z hxc) (valueM hf (bt' ((b01_0 _).mpr (fun z => nlt.mpr z.1 h1)) q))
      · by_cases h2 : x3 ≤ stMT f
        · have hr : ∀ k, (k < 31 + 8 * n ∨ 39 + 8 * n ≤ k) → k ≠ 10 → upd (hm 1) (31 + 8 * n + f) x3 k = hm 1 k := fun k h1 h2 => upd_n' (by omega)
          have hfn : ∀ g, g < 8 → nv (upd (hm 1) (31 + 8 * n + f) x3) n g = if g = f then x3 else nv (hm 1) n g := fun g hg => by rw [nv_upd (by omega) hg]; simp
          obtain ⟨a5, a6, a7, a8, a9, a10, a11⟩ := hV.2.2.1 n hn
          obtain ⟨j0, j1, j2, j5, j6, j7⟩ := hI.2.2.2.1 n hn
          have hnn : ¬ nv (hm 1) n f + 60 < 0 := by
            refine add_nn (k := 60) ?_ (by decide) (by decide) (by decide)
            rcases (show f = 0 ∨ f = 1 ∨ f = 2 by omega) with rfl | rfl | rfl
            · exact rng_w j0 (by decide) (by decide)
            · exact rng_w j1 (by decide) (by decide)
            · exact rng_w j2 (by decide) (by decide)
          refine Or.inr ⟨nv (hm 1) n f + 60, up1 v (5 + f) (upd (v (5 + f)) n x3), upd (hm 1) (31 + 8 * n + f) x3, hnn, fun Q q => ?_, fun Q q => ?_, ?_, ?_⟩
          · rcases (show f = 0 ∨ f = 1 ∨ f = 2 by omega) with rfl | rfl | rfl
            · simp only [F_X6_changeNavigator, isNavC_iff, b01_0, hcl, hcf, cv_5, cu_5, forall_eq, a5]
              exact bf' (fun z => z hxc) (bf' (nI_pos (by omega)) (bf' (lt3 hf) ⟨vpn (by omega) (by decide), bf' h1 ⟨vpn (by omega) (by decide), bt' h2 (bt' (by decide) ⟨vpn (by omega) (by decide), vpn (by omega) (by decide), q⟩)⟩⟩))
            · simp only [F_X6_changeNavigator, isNavC_iff, b01_0, hcl, hcf, cv_6, cu_6, forall_eq, a6]
              exact bf' (fun z => z hxc) (bf' (nI_pos (by omega)) (bf' (lt3 hf) ⟨vpn (by omega) (by decide), bf' h1 ⟨vpn (by omega) (by decide), bt' h2 (bf' (by decide) (bt' (by decide) ⟨vpn (by omega) (by decide), vpn (by omega) (by decide), q⟩))⟩⟩))
            · simp only [F_X6_changeNavigator, isNavC_iff, b01_0, hcl, hcf, cv_7, cu_7, forall_eq, a7]
              exact bf' (fun z => z hxc) (bf' (nI_pos (by omega)) (bf' (lt3 hf) ⟨vpn (by omega) (by decide), bf' h1 ⟨vpn (by omega) (by decide), bt' h2 (bf' (by decide) (bf' (by decide) ⟨vpn (by omega) (by decide), vpn (by omega) (by decide), q⟩))⟩⟩))
          · simp only [F_X8_navigator, isNavM_iff, b01_0]
            refine bf' (fun z => z hxc) (valueM hf (bf' (fun z => (b01_0 _).mp z ⟨nlt.mp h1, h2⟩) (putM ((num hn (by omega)).mpr ((sof hn (by omega)).mpr ?_)))))
            exact q
          · refine RV_nav hn hV (fun o j ho => by rw [up1_n _ _ (by omega)]) (fun o j hj => ?_) hr ?_
            · by_cases ho : o = 5 + f
              · subst ho; rw [up1_s, upd_n' hj]
              · rw [up1_n _ _ ho]
            · unfold rvNav
              rcases (show f = 0 ∨ f = 1 ∨ f = 2 by omega) with rfl | rfl | rfl
              · simp only [hfn _ (show 0 < 8 by decide), hfn _ (show 1 < 8 by decide), hfn _ (show 2 < 8 by decide), hfn _ (show 3 < 8 by decide), hfn _ (show 4 < 8 by decide), hfn _ (show 5 < 8 by decide), hfn _ (show 6 < 8 by decide), hfn _ (show 7 < 8 by decide)]
                exact ⟨by rw [up1_s, upd_s']; rfl, a6, a7, a8, a9, a10, a11⟩
              · simp only [hfn _ (show 0 < 8 by decide), hfn _ (show 1 < 8 by decide), hfn _ (show 2 < 8 by decide), hfn _ (show 3 < 8 by decide), hfn _ (show 4 < 8 by decide), hfn _ (show 5 < 8 by decide), hfn _ (show 6 < 8 by decide), hfn _ (show 7 < 8 by decide)]
                exact ⟨a5, by rw [up1_s, upd_s']; rfl, a7, a8, a9, a10, a11⟩
              · simp only [hfn _ (show 0 < 8 by decide), hfn _ (show 1 < 8 by decide), hfn _ (show 2 < 8 by decide), hfn _ (show 3 < 8 by decide), hfn _ (show 4 < 8 by decide), hfn _ (show 5 < 8 by decide), hfn _ (show 6 < 8 by decide), hfn _ (show 7 < 8 by decide)]
                exact ⟨a5, a6, by rw [up1_s, upd_s']; rfl, a8, a9, a10, a11⟩
          · refine IV_nav hn hI hr ?_ (Eq.trans (b := sm7 (hm 1)) (by rw [upd_n' (by omega)]; exact hI.2.2.2.2) (sm7_same hn hr (by rw [hfn 4 (by decide), if_neg (by omega)])).symm)
            unfold ivNav
            rw [hfn 0 (by decide), hfn 1 (by decide), hfn 2 (by decide), hfn 5 (by decide), hfn 6 (by decide), hfn 7 (by decide)]
            rcases (show f = 0 ∨ f = 1 ∨ f = 2 by omega) with rfl | rfl | rfl
            · exact ⟨rng_lm h1 h2 (by decide) (by decide), j1, j2, j5, j6, j7⟩
            · exact ⟨j0, rng_lm h1 h2 (by decide) (by decide), j2, j5, j6, j7⟩
            · exact ⟨j0, j1, rng_lm h1 h2 (by decide) (by decide), j5, j6, j7⟩
        · refine Or.inl ⟨-2, by decide, fun Q q => ?_, fun Q q => ?_⟩
          · simp only [F_X6_changeNavigator, isNavC_iff, b01_0, hcl, hcf]
            exact bf' (fun z => z hxc) (bf' (nI_pos (by omega)) (bf' (lt3 hf) ⟨vpn (by omega) (by decide), bf' h1 ⟨vpn (by omega) (by decide), bf' h2 q⟩⟩))
          · simp only [F_X8_navigator, isNavM_iff, b01_0]
            exact bf' (fun z => z hxc) (valueM hf (bt' ((b01_0 _).mpr (fun z => h2 z.2)) q))
    · refine Or.inl ⟨-2, by decide, fun Q q => ?_, fun Q q => ?_⟩
      · simp only [F_X6_changeNavigator, isNavC_iff, b01_0]
        refine bf' (fun z => z hxc) (bc _ (fun _ => q) (fun h0 => bt' ?_ q))
        have := nlt.mp h0
        by_cases h4 : (3 : Int32) ≤ x2
        · exact h4
        · refine absurd ⟨this, ?_⟩ hy
          rw [fa_le] at h4 ⊢
          rw [show (3 : Int32).toInt = 3 by decide] at h4
          rw [show (2 : Int32).toInt = 2 by decide]
          omega
      · simp only [F_X8_navigator, isNavM_iff, b01_0]
        refine bf' (fun z => z hxc) (bf' (fun z => hy ?_) (bf' (fun z => hy ?_) (bf' (fun z => hy ?_) (bt' rfl q))))
        · rw [z]; decide
        · rw [z]; decide
        · rw [z]; decide
  · refine Or.inl ⟨-1, by decide, fun Q q => ?_, fun Q q => ?_⟩
    · simp only [F_X6_changeNavigator, isNavC_iff, b01_0]
      exact bt' (fun z => hx (nav_c.mp z)) q
    · simp only [F_X8_navigator, isNavM_iff, b01_0]
      exact bt' (fun z => hx (nav_c.mp z)) q
