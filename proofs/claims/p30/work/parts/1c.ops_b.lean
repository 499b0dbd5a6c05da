/-! Hours, nights, medians: the law's own ways. -/
def stp (g : Hp) : Int32 := jmax (-(g 158 1)) (jmin (g 158 1) (g 158 6 - g 158 5))
def hourQ (g : Hp) : Nat → Int32 := if g 158 5 = 9999 then upd (upd (g 158) 4 (bd (g 158 4 + g 158 0))) 7 (g 158 7 + 1) else upd (upd (upd (upd (g 158) 4 (bd (g 158 4 + stp g))) 5 (bd (g 158 5 + stp g))) 4 (bd (bd (g 158 4 + stp g) + g 158 0))) 7 (g 158 7 + 1)
def hourG (g : Hp) : Hp := up1 g 158 (hourQ g)
theorem stp_a {p f : Int32} (h1 : f ≤ p) (h2 : -p ≤ f) : jmax (-p) (jmin p f) = f := by
  unfold jmax jmin
  rw [fa_le] at h1 h2
  rw [fa_eq]
  simp only [fa_lt]
  split <;> (split <;> omega)
theorem stp_b {p f : Int32} (hp : rng p 0 30) (h1 : f ≤ p) (h2 : ¬ -p ≤ f) : jmax (-p) (jmin p f) = -p := by
  have en := fb_negI (x := p) (by have := hp.1; omega)
  unfold jmax jmin
  rw [fa_le] at h1 h2
  rw [fa_eq]
  simp only [fa_lt]
  have := hp.1
  split <;> (split <;> omega)
theorem stp_c {p f : Int32} (hp : rng p 0 30) (h1 : ¬ f ≤ p) : jmax (-p) (jmin p f) = p := by
  have en := fb_negI (x := p) (by have := hp.1; omega)
  unfold jmax jmin
  rw [fa_le] at h1
  rw [fa_eq]
  simp only [fa_lt]
  have := hp.1
  split <;> (split <;> omega)
theorem hourL {g : Hp} (hp : rng (g 158 1) 0 30) {Q : Hp → Prop} (q : Q (hourG g)) : F_L_hour g Q := by
  unfold hourG hourQ stp at q
  unfold F_L_hour
  simp only [boundL, forall_eq, up1_s, up1_up1, upd_s', upd_n' (show (7 : Nat) ≠ 4 by decide), upd_n' (show (7 : Nat) ≠ 5 by decide), upd_n' (show (5 : Nat) ≠ 4 by decide), upd_n' (show (4 : Nat) ≠ 5 by decide), upd_n' (show (0 : Nat) ≠ 4 by decide), upd_n' (show (0 : Nat) ≠ 5 by decide)]
  refine bc _ (fun h1 => ?_) (fun h1 => bc _ (fun h2 => bc _ (fun h3 => ?_) (fun h3 => ?_)) (fun h2 => ?_))
  · rw [if_pos h1] at q; exact q
  · rw [if_neg h1, stp_a h2 h3] at q; exact q
  · rw [if_neg h1, stp_b hp h2 h3] at q; exact q
  · rw [if_neg h1, stp_c hp h2] at q; exact q
theorem hourM_0 {r : Nat → Int32} (h5 : r 5 = 0) (h6 : r 6 = 0) (h4 : rng (r 4) (-5400) 5400) : hourM r = upd (upd r 4 (bd (r 4 + r 0))) 8 (r 8 + 1) := by
  have hb : byv r = 0 := by unfold byv; rw [if_pos h5]
  have b0 : bd (0 + 0) = 0 := by decide
  unfold hourM
  rw [hb, Int32.add_zero, bd_id h4, h6, b0, fa_upd_same (f := r) (i := 4) rfl, fa_upd_same (f := r) (i := 6) h6]
theorem lrow_hour {g : Hp} (hC : ivC (lrow g)) : lrow (hourG g) = hourM (lrow g) := by
  have e0 : g 158 0 = lrow g 0 := (lr_q (by decide)).symm
  have e1 : g 158 1 = lrow g 1 := (lr_q (by decide)).symm
  have e4 : g 158 4 = lrow g 4 := (lr_q (by decide)).symm
  have e6 : g 158 6 = lrow g 7 := (lr_p (by decide) (by decide)).symm
  have e7 : g 158 7 = lrow g 8 := (lr_p (by decide) (by decide)).symm
  have l5 := lr_5 (g := g)
  have l6 := lr_6 (g := g)
  show rwA (hourQ g) (g 159) (g 160) (g 161) = _
  unfold hourQ
  by_cases h9 : g 158 5 = 9999
  · rw [h9, hs9_9] at l5
    rw [h9, vl9_9] at l6
    rw [if_pos h9, ra_p (by decide) (by decide), ra_q (by decide), hourM_0 l5 l6 hC.1, e4, e0, e7]
    rfl
  · rw [hs9_n h9] at l5
    rw [vl9_n h9] at l6
    have es : stp g = byv (lrow g) := by
      unfold stp byv
      rw [if_neg (by rw [l5]; decide), e1, e6, l6]
    have hb9 : ∀ x, ¬ bd x = 9999 := fun x => ne_9999 (bd_rng x)
    rw [if_neg h9, ra_p (by decide) (by decide), ra_q (by decide), ra_5, ra_q (by decide), hs9_n (hb9 _), vl9_n (hb9 _), es, e4, e0, e7, ← l6]
    unfold hourM
    rw [fa_upd_same (f := upd (rwA (g 158) (g 159) (g 160) (g 161)) 4 _) (i := 5) (by rw [upd_n' (by decide)]; exact l5)]
    rfl
def hgs : Nat → Hp → Hp
  | 0, g => g
  | n + 1, g => hgs n (hourG g)
theorem hourG_o {g : Hp} {c : Nat} (h : c ≠ 158) : hourG g c = g c := up1_n _ _ h
theorem hourG_12 {g : Hp} : hourG g 158 12 = g 158 12 := by
  unfold hourG hourQ
  rw [up1_s]
  split
  · rw [upd_n' (by decide), upd_n' (by decide)]
  · rw [upd_n' (by decide), upd_n' (by decide), upd_n' (by decide), upd_n' (by decide)]
theorem hgs_o : ∀ (m : Nat) (g : Hp) (c : Nat), c ≠ 158 → hgs m g c = g c
  | 0, _, _, _ => rfl
  | m + 1, g, c, h => (hgs_o m (hourG g) c h).trans (hourG_o h)
theorem hgs_12 : ∀ (m : Nat) (g : Hp), hgs m g 158 12 = g 158 12
  | 0, _ => rfl
  | m + 1, g => (hgs_12 m (hourG g)).trans hourG_12
theorem hoursL {X : Nat} {a1 b4 w : Int32} {Q : Int32 → Hp → Prop} (hX : X ≤ 99) : ∀ (m j : Nat) (g : Hp), j + m = X → rng (lrow g 1) 0 30 → ivC (lrow g) → (Q (hrs m (lrow g) 4 + 5400) (hgs m g) → F_L_due_L120 (m + 1) a1 (nI X) b4 w (nI j) g Q) ∧ lrow (hgs m g) = hrs m (lrow g) := by
  intro m
  induction m with
  | zero =>
    intro j g e hp hC
    refine ⟨fun q => bt' ?_ ?_, rfl⟩
    · rw [nI_leI (by omega) (by omega)]; omega
    · rw [show g 158 4 = lrow g 4 from (lr_q (by decide)).symm]; exact q
  | succ m ih =>
    intro j g e hp hC
    have eh := lrow_hour hC
    obtain ⟨i1, i2⟩ := ih (j + 1) (hourG g) (by omega) (by rw [eh, hour_out (by decide)]; exact hp) (by rw [eh]; exact hour_ivC hC)
    rw [eh] at i1 i2
    refine ⟨fun q => bf' ?_ (hourL (by rw [show g 158 1 = lrow g 1 from (lr_q (by decide)).symm]; exact hp) (nm' ?_)), i2⟩
    · rw [nI_leI (by omega) (by omega)]; omega
    · rw [nI_1]
      exact i1 q
theorem sim_sails (b4 w : Int32) {X : Nat} (hX1 : 1 ≤ X) (hX : X ≤ 99) : SimV (fun b h Q => F_X6_sailHours b (nI X) h Q) (fun g Q => F_L_due 2 (nI X) b4 w g Q) (sailsF X) := by
  intro b hc v r hV hI hG
  have hc3 : v 12 3 = r 8 := hV.2.2.2.1.2.2.2
  obtain ⟨H, hH, eH⟩ := rngN (n := 9999) hI.2.1.2.2.2.2 (by decide)
  have hH2 : H ≤ 4851 := by have := hG.1; rw [eH, nI_toInt (by omega)] at this; omega
  have h1 : ¬ nI X < 1 := by rw [show (1 : Int32) = nI 1 from rfl, nI_ltI (by omega) (by decide)]; omega
  have h2 : nI X ≤ 99 := by rw [show (99 : Int32) = nI 99 from rfl, nI_leI (by omega) (by decide)]; omega
  have hle : r 8 + nI X ≤ 9999 := by
    rw [eH, nI_add, show (9999 : Int32) = nI 9999 from rfl, nI_leI (by omega) (by decide)]; omega
  have hb := hrs_RV X v r hV (ivCrs_C hI.2.1)
  refine ⟨hrs X r 4 + 5400, hvs X v, hrs X r, rfl, fun Q q => ?_, ?_, hb.1, hrs_IV hI eH (by omega) hb.2, fun h => absurd h (told_nn hb.2.1)⟩
  · refine bf' h1 (bt' h2 (bt' ?_ ⟨X + 1, ?_⟩))
    · rw [cv_12, hc3]; exact hle
    · refine sailC hX X 0 v (by omega) ?_
      rw [show hvs X v 12 0 = hrs X r 4 from hb.1.2.2.2.1.1]
      exact q
  · intro g eg hd
    obtain ⟨l1, l2⟩ := hoursL (a1 := 2) (b4 := b4) (w := w) (Q := fun _ _ => True) hX X 0 g (by omega) (by rw [eg]; exact hI.1.2.1) (by rw [eg]; exact ivCrs_C hI.2.1)
    refine ⟨hgs X g, fun Q q => bf' (by decide) (bf' (by decide) (bt' rfl ⟨X + 1, (hoursL hX X 0 g (by omega) (by rw [eg]; exact hI.1.2.1) (by rw [eg]; exact ivCrs_C hI.2.1)).1 (by rw [eg]; exact q)⟩)), by rw [l2, eg], DI_c (hgs_12 X g) (hgs_o X g 159 (by decide)) hd, fun c hc2 => hgs_o X g c (by omega)⟩
theorem sim_set (a x2 : Int32) {j : Nat} (hj : j ≤ 3) (h1 : ¬ x2 < stLS j) (h2 : x2 ≤ stMS j) : SimV (fun b h Q => F_X6_changeSetting b (nI j) x2 h Q) (fun g Q => F_L_due 9 a (nI j) x2 g Q) (setF j x2) := by
  intro b hc v r hV hI hG
  have hcl : (nI j).toNatClampNeg = j := clN (by omega)
  have hnn : ¬ r j + 30 < 0 := by
    obtain ⟨a, b, c, d⟩ := hI.1
    refine add_nn (k := 30) ?_ (by decide) (by decide) (by decide)
    rcases (show j = 0 ∨ j = 1 ∨ j = 2 ∨ j = 3 by omega) with rfl | rfl | rfl | rfl
    · exact rng_w a (by decide) (by decide)
    · exact rng_w b (by decide) (by decide)
    · exact rng_w c (by decide) (by decide)
    · exact rng_w d (by decide) (by decide)
  refine ⟨r j + 30, up1 v 1 (upd (v 1) j x2), upd r j x2, rfl, fun Q q => ?_, ?_, ?_, iv_set hj h1 h2 hI, fun h => absurd h hnn⟩
  · simp only [F_X6_changeSetting, hcl, cv_1, cu_1, forall_eq, hV.1 j (by omega)]
    exact bf' (nI_pos (by omega)) (bf' (lt4 hj) ⟨vpn (by omega) (by decide), bf' h1 ⟨vpn (by omega) (by decide), bt' h2 ⟨vpn (by omega) (by decide), vpn (by omega) (by decide), q⟩⟩⟩)
  · intro g eg hd
    refine ⟨up1 g 158 (upd (g 158) j x2), fun Q q => bf' (by decide) (bf' (by decide) (bf' (by decide) (bf' (by decide) (bf' (by decide) (bf' (by decide) (bf' (by decide) (bf' (by decide) (bf' (by decide) ⟨vpn (by omega) (by decide), nm' (bf' (by decide) (bf' (by decide) ⟨vpn (by omega) (by decide), nm' ?_⟩))⟩)))))))), ?_, DI_c (by rw [up1_s, upd_n' (by omega)]) (up1_n _ _ (by decide)) hd, fun c hc2 => up1_n _ _ (by omega)⟩
    · rw [hcl, show g 158 j = r j by rw [← eg]; exact (lr_q (by omega)).symm]
      exact q
    · rw [lu_q (by omega), eg]
  · refine ⟨fun k hk => ?_, rvSky_c (fun j hj => rfl) (fun j hj => rfl) (upd_n' (by omega)) (fun k h1 h2 => upd_n' (by omega)) hV.2.1, fun n hn => rvNav_c (fun o h1 h2 => by rw [up1_n _ _ (by omega)]) (nv_c hn (fun k h1 h2 => upd_n' (by omega))) (hV.2.2.1 n hn), rvCrs_c (fun j hj => rfl) (fun k h1 h2 => upd_n' (by omega)) hV.2.2.2.1, rvMisc_c (fun j h1 h2 => rfl) (upd_n' (by omega)) (upd_n' (by omega)) (upd_n' (by omega)) hV.2.2.2.2.1, rvLog_c (fun j hj => rfl) (upd_n' (by omega)) (upd_n' (by omega)) (fun k h1 h2 => upd_n' (by omega)) hV.2.2.2.2.2⟩
    rw [up1_s]
    by_cases hkj : k = j
    · subst hkj; rw [upd_s', upd_s']
    · rw [upd_n' hkj, upd_n' hkj]; exact hV.1 k hk
theorem sim_navigator (x3 : Int32) {n f : Nat} (hn : n < 7) (hf : f ≤ 2) (h1 : ¬ x3 < stLT f) (h2 : x3 ≤ stMT f) : SimV (fun b h Q => F_X6_changeNavigator b (nI n) (nI f) x3 h Q) (fun g Q => F_L_due 8 (nI n) (nI f) x3 g Q) (navF n f x3) := by
  intro b hc v r hV hI hG
  have hxc := nav_c.mpr ⟨n, hn, rfl⟩
  have hcl : (nI n).toNatClampNeg = n := clN (by omega)
  have hcf : (nI f).toNatClampNeg = f := clN (by omega)
  have hr : ∀ k, (k < 31 + 8 * n ∨ 39 + 8 * n ≤ k) → k ≠ 10 → upd r (31 + 8 * n + f) x3 k = r k := fun k h1 h2 => upd_n' (by omega)
  have hfn : ∀ g, g < 8 → nv (upd r (31 + 8 * n + f) x3) n g = if g = f then x3 else nv r n g := fun g hg => by rw [nv_upd (by omega) hg]; simp
  obtain ⟨a5, a6, a7, a8, a9, a10, a11⟩ := hV.2.2.1 n hn
  obtain ⟨j0, j1, j2, j5, j6, j7⟩ := hI.2.2.2.1 n hn
  have hnn : ¬ nv r n f + 60 < 0 := by
    refine add_nn (k := 60) ?_ (by decide) (by decide) (by decide)
    rcases (show f = 0 ∨ f = 1 ∨ f = 2 by omega) with rfl | rfl | rfl
    · exact rng_w j0 (by decide) (by decide)
    · exact rng_w j1 (by decide) (by decide)
    · exact rng_w j2 (by decide) (by decide)
  refine ⟨nv r n f + 60, up1 v (5 + f) (upd (v (5 + f)) n x3), upd r (31 + 8 * n + f) x3, rfl, fun Q q => ?_, ?_, ?_, ?_, fun h => absurd h hnn⟩
  · rcases (show f = 0 ∨ f = 1 ∨ f = 2 by omega) with rfl | rfl | rfl
    · simp only [F_X6_changeNavigator, isNavC_iff, b01_0, hcl, hcf, cv_5, cu_5, forall_eq, a5]
      exact bf' (fun z => z hxc) (bf' (nI_pos (by omega)) (bf' (lt3 hf) ⟨vpn (by omega) (by decide), bf' h1 ⟨vpn (by omega) (by decide), bt' h2 (bt' (by decide) ⟨vpn (by omega) (by decide), vpn (by omega) (by decide), q⟩)⟩⟩))
    · simp only [F_X6_changeNavigator, isNavC_iff, b01_0, hcl, hcf, cv_6, cu_6, forall_eq, a6]
      exact bf' (fun z => z hxc) (bf' (nI_pos (by omega)) (bf' (lt3 hf) ⟨vpn (by omega) (by decide), bf' h1 ⟨vpn (by omega) (by decide), bt' h2 (bf' (by decide) (bt' (by decide) ⟨vpn (by omega) (by decide), vpn (by omega) (by decide), q⟩))⟩⟩))
    · simp only [F_X6_changeNavigator, isNavC_iff, b01_0, hcl, hcf, cv_7, cu_7, forall_eq, a7]
      exact bf' (fun z => z hxc) (bf' (nI_pos (by omega)) (bf' (lt3 hf) ⟨vpn (by omega) (by decide), bf' h1 ⟨vpn (by omega) (by decide), bt' h2 (bf' (by decide) (bf' (by decide) ⟨vpn (by omega) (by decide), vpn (by omega) (by decide), q⟩))⟩⟩))
  · intro g eg hd
    have iv : vp_in ((7 : Int32) * nI n + nI f) 49 := by rw [iv7]; exact vpn (by omega) (by decide)
    have ic : ((7 : Int32) * nI n + nI f).toNatClampNeg = 7 * n + f := by rw [iv7]; exact clN (by omega)
    refine ⟨up1 g 160 (upd (g 160) (7 * n + f) x3), fun Q q => bf' (by decide) (bf' (by decide) (bf' (by decide) (bf' (by decide) (bf' (by decide) (bf' (by decide) (bf' (by decide) (bf' (by decide) (bt' rfl ⟨iv, nm' (bt' rfl ⟨iv, nm' ?_⟩)⟩)))))))), ?_, DI_c (by rw [up1_n _ _ (by decide)]) (up1_n _ _ (by decide)) hd, fun c hc2 => up1_n _ _ (by omega)⟩
    · rw [ic, show g 160 (7 * n + f) = nv r n f by rw [← eg]; exact (lr_v hn (by omega)).symm]
      exact q
    · rw [lu_v hn (by omega), eg]
  · refine RV_nav hn hV (fun o j ho => by rw [up1_n _ _ (by omega)]) (fun o j hj => ?_) hr ?_
    · by_cases ho : o = 5 + f
      · subst ho; rw [up1_s, upd_n' hj]
      · rw [up1_n _ _ ho]
    · unfold rvNav
      rcases (show f = 0 ∨ f = 1 ∨ f = 2 by omega) with rfl | rfl | rfl
      · simp only [hfn _ (show 0 < 8 by decide), hfn _ (show 1 < 8 by decide), hfn _ (show 2 < 8 by decide), hfn _ (show 3 < 8 by decide), hfn _ (show 4 < 8 by decide), hfn _ (show 5 < 8 by decide), hfn _ (show 6 < 8 by decide), hfn _ (show 7 < 8 by decide)]
        exact ⟨by rw [up1_s, upd_s']; rfl, a6, a7, a8, a9, a10, a11⟩
      · simp only [hfn _ (show 0 < 8 by decide), hfn _ (show 1 < 8 by decide), hfn _ (show 2 < 8 by decide), hfn _ (show 3 < 8 by decide), hfn _ (show 4 < 8 by decide), hfn _ (show 5 < 8 by decide), hfn _ (show 6 < 8 by decide), hfn _ (show 7 < 8 by decide)]
        exact ⟨a5, by rw [up1_s, upd_s']; rfl, a7, a8, a9, a10, a11⟩
      · simp only [hfn _ (show 0 < 8 by decide), hfn _ (show 1 < 8 by decide), hfn _ (show 2 < 8 by decide), hfn _ (show 3 < 8 by decide), hfn _ (show 4 < 8 by decide), hfn _ (show 5 < 8 by decide), hfn _ (show 6 < 8 by decide), hfn _ (show 7 < 8 by decide)]
        exact ⟨a5, a6, by rw [up1_s, upd_s']; rfl, a8, a9, a10, a11⟩
  · refine IV_nav hn hI hr ?_ (Eq.trans (b := sm7 r) (by rw [upd_n' (by omega)]; exact hI.2.2.2.2) (sm7_same hn hr (by rw [hfn 4 (by decide), if_neg (by omega)])).symm)
    unfold ivNav
    rw [hfn 0 (by decide), hfn 1 (by decide), hfn 2 (by decide), hfn 5 (by decide), hfn 6 (by decide), hfn 7 (by decide)]
    rcases (show f = 0 ∨ f = 1 ∨ f = 2 by omega) with rfl | rfl | rfl
    · exact ⟨rng_lm h1 h2 (by decide) (by decide), j1, j2, j5, j6, j7⟩
    · exact ⟨j0, rng_lm h1 h2 (by decide) (by decide), j2, j5, j6, j7⟩
    · exact ⟨j0, j1, rng_lm h1 h2 (by decide) (by decide), j5, j6, j7⟩
