/-! Carrying the orders out. -/
theorem ord_L {H M : Hp} {t : Nat → Nat} {L : Nat} (hT : TX H M t L) : ¬ (ordF t L L).1 = true := by
  intro h
  obtain ⟨f1, g1, a1, a2, a3, -⟩ := ordRead (f := fun k => if k = 1 then nI L else nI L) (g := fun k => if k = 7 then nI L else nI L) hT (Nat.le_refl L) ⟨rfl, rfl⟩ ⟨rfl, rfl⟩
  have := a3 h
  omega
theorem runLoop {H M : Hp} {t : Nat → Nat} {L : Nat} (hT : TX H M t L) : ∀ (m p y : Nat) (f g : Nat → Int32) (v : Nat → Nat → Int32) (r : Nat → Int32), okT t L m p → 2 * y ≤ p → p ≤ L → PC L p f → PM L p g → RVv v r → IV r → ∃ (k : Nat) (v' : Nat → Nat → Int32) (r' f' g' : Nat → Int32), k ≤ 100 ∧ RVv v' r' ∧ IV r' ∧ f' 1 = 0 ∧ g' 7 = 0 ∧ g' 3 = g 3 ∧ (∀ Q : Int32 → Hp → Prop, F_X2_keepUnlessError (nI k) (up1 (cv 8 H v') 3 f') Q → F_X7_carryOut_L35 (m + 1) (nI y) (up1 (cv 8 H v) 3 f) Q) ∧ (∀ Q : Int32 → Hp → Prop, Q (nI k) (up1 (up1 M 1 r') 0 g') → F_X8_carryOut_L29 (m + 1) (nI y) 1 (up1 (up1 M 1 r) 0 g) Q) := by
  have hL := hT.1
  intro m
  induction m with
  | zero => intro p y f g v r h; exact absurd h (fun z => z)
  | succ m ih =>
    intro p y f g v r hok hy hp hf hg hV hI
    obtain ⟨ho, hend⟩ := hok
    have hTv : ∀ (w : Nat → Nat → Int32) (s : Nat → Int32), TX (cv 8 H w) (up1 M 1 s) t L := fun w s => TX_c (cv_out (by decide)) (up1_n _ _ (by decide)) hT
    obtain ⟨f1, g1, a1, a2, a3, a4, a5, a6, a7, aC, aM⟩ := ordRead (hTv v r) hp hf hg
    rw [bI_1 ho] at aC aM
    obtain ⟨b3, b9, b8, bx, by5⟩ := a7 ho
    have hpe := a3 ho
    obtain ⟨x, v1, r1, hC, hM, hV1, hI1⟩ := doOrder (H := H) (M := M) hV hI b3 b9 b8 bx by5
    have hge : ∀ k : Nat, k ≤ 42 → ¬ (80 : Int32) ≤ nI k := fun k hk => nI_ge (a := k) (b := 80) (by omega) (by decide)
    have e13 : g1 3 = g 3 := a6 3 (by decide) (by decide) (by decide) (by decide)
    have hle : ¬ up1 (up1 M 1 r) 0 g 0 7 ≤ up1 (up1 M 1 r) 0 g 0 8 := by
      rw [up1_s, hg.1, hg.2]
      exact nI_ge (by omega) (by omega)
    by_cases hx : x < 0
    · refine ⟨y, v1, r1, upd f1 1 0, upd (upd g1 8 (nI ((ordF t L p).2 + 1))) 7 0, by omega, hV1, hI1, upd_s', upd_s', by rw [upd_n' (by decide), upd_n' (by decide)]; exact e13, fun Q q => ?_, fun Q q => ?_⟩
      · refine bf' (hge y (by omega)) (aC _ (bf' (by decide) (hC _ (bt' hx (nm' (nm' ?_))))))
        rw [up1_s, up1_up1]
        exact q
      · refine bf' (by decide) (bf' hle (aM _ (bf' (by decide) (hM _ (bt' hx (nm' (nm' (bt' rfl (nm' ?_)))))))))
        simp only [Int32.add_zero, up1_s, up1_up1, a5.2, nI_1]
        exact q
    · rcases hend with hE | ⟨hlt, h59, hrest⟩
      · have hTv1 := hTv v1 r1
        have f1L : PC L L f1 := by rw [← hE]; exact ⟨by rw [a4.1, hE], a4.2⟩
        obtain ⟨f2, g2, c1, c2, c3, c4, -, -, -, cC, -⟩ := ordRead (g := fun k => if k = 7 then nI L else nI L) hTv1 (Nat.le_refl L) f1L ⟨rfl, rfl⟩
        rw [bI_0 (ord_L hT)] at cC
        refine ⟨y + 1, v1, r1, upd f2 1 0, upd (upd g1 8 (nI ((ordF t L p).2 + 1))) 7 0, by omega, hV1, hI1, upd_s', upd_s', by rw [upd_n' (by decide), upd_n' (by decide)]; exact e13, fun Q q => ?_, fun Q q => ?_⟩
        · refine bf' (hge y (by omega)) (aC _ (bf' (by decide) (hC _ (bf' hx (nm' (nextC hTv1 a2 a4 (bf' ?_ ?_)))))))
          · rw [hE]
            unfold cdT
            rw [if_neg (by omega)]
            decide
          · rw [nI_1]
            refine bf' (hge (y + 1) (by omega)) (cC _ (bt' rfl (nm' (nm' ?_))))
            rw [up1_s, up1_up1]
            exact q
        · refine bf' (by decide) (bf' hle (aM _ (bf' (by decide) (hM _ (bf' hx (nm' (nm' (bf' (by decide) (bt' ?_ (nm' ?_))))))))))
          · simp only [up1_s, a5.2, nI_1, upd_s', upd_n' (show (7 : Nat) ≠ 8 by decide), a5.1]
            rw [nI_leI (by omega) (by omega)]
            omega
          · simp only [up1_s, up1_up1, a5.2, nI_1]
            exact q
      · have hTv1 := hTv v1 r1
        obtain ⟨k, v', r', f', g', d1, d2, d3, d4, d5, d6, dC, dM⟩ := ih ((ordF t L p).2 + 1) (y + 1) (upd f1 2 (nI ((ordF t L p).2 + 1))) (upd g1 8 (nI ((ordF t L p).2 + 1))) v1 r1 hrest (by omega) (by omega) ⟨by rw [upd_n' (by decide)]; exact a4.1, upd_s'⟩ ⟨by rw [upd_n' (by decide)]; exact a5.1, upd_s'⟩ hV1 hI1
        refine ⟨k, v', r', f', g', d1, d2, d3, d4, d5, by rw [d6, upd_n' (by decide)]; exact e13, fun Q q => ?_, fun Q q => ?_⟩
        · refine bf' (hge y (by omega)) (aC _ (bf' (by decide) (hC _ (bf' hx (nm' (nextC hTv1 a2 a4 (bt' ?_ (nm' ?_))))))))
          · unfold cdT
            rw [if_pos hlt, h59]
            decide
          · rw [up1_s, up1_up1, a4.2, nI_1, nI_1]
            exact dC Q q
        · refine bf' (by decide) (bf' hle (aM _ (bf' (by decide) (hM _ (bf' hx (nm' (nm' ?_)))))))
          simp only [up1_s, up1_up1, a5.2, nI_1]
          exact dM Q q
theorem rel_okG {hc hm hc' hm' : Hp} {n o : Nat} {g : Nat → Int32} (hR : Rel hc hm) (hh : histR hc hm n o) (c1 : hc' 1 = keptN n o (hc 1)) (cR : RV (ringP o n) hc' (hm 1)) (cv8 : RV 8 hc' (hm' 1)) (cI' : IV (hm' 1)) (cfr : ∀ c, c ≠ 1 → c ≠ 3 → ¬ (8 ≤ c ∧ c < 23) → ¬ (ringP o n ≤ c ∧ c < ringP o n + 15) → hc' c = hc c) (m0 : hm' 0 3 = nI (min (n + 1) 6)) (m3 : hm' 3 = pushed n (hm 3) g) (hg : ∀ k, k < 119 → g k = hm 1 k) (m4 : hm' 4 = hm 4) (m5 : hm' 5 = hm 5) (m6 : hm' 6 = hm 6) (hp : padR hc' hm') : Rel hc' hm' := by
  have hb := ringP_b o n
  have hR2 : Rel (up1 hc' 3 (hc 3)) (up1 hm' 0 (upd (hm 0) 3 (nI (min (n + 1) 6)))) := by
    refine rel_ok (g := g) hh hR.2.2.2.1 hR.2.2.2.2 hR.2.1 ?_ (RV_fr (fun c h1 h2 => up1_n _ _ (by omega)) cR) (RV_fr (fun c h1 h2 => up1_n _ _ (by omega)) cv8) cI' (fun c h0 h1 h2 => ?_) (up1_s _ _ _) m3 hg m4 m5 m6
    · exact (up1_n _ _ (by decide)).trans c1
    · by_cases h3 : c = 3
      · subst h3; exact up1_s _ _ _
      · rw [up1_n _ _ h3]; exact cfr c h0 h3 h1 h2
  exact rel_pad hR2 (fun c h3 _ => (up1_n _ _ h3).symm) (fun c h0 _ => (up1_n _ _ h0).symm) (by rw [up1_s, upd_s']; exact m0) hp
theorem sim_carryOut {hc hm : Hp} (hR : Rel hc hm) : F_X7_carryOut hc (fun r h1 => F_X8_carryOut hm (fun r2 h2 => r = r2 ∧ Rel h1 h2)) := by
  obtain ⟨t, L, hT, a, b⟩ := text_of (Rel_i.mp hR).2.2.2.2
  obtain ⟨z, f', g', c1, c2, cR, c4, cC, cM⟩ := faults hR hT a b
  unfold F_X7_carryOut F_X8_carryOut
  by_cases hz : z = -6
  · obtain ⟨n, o, hh⟩ := (Rel_i.mp cR).2.2.1
    obtain ⟨hn, ho, e2, e0, e1, hrow⟩ := id hh
    have hb := ringP_b o n
    obtain ⟨w, hw, hH⟩ := holdC hn ho e2 e1
    have V1 : RVv (fun k => cv (ringP o n) (up1 hc 3 f') w (8 + k)) (hm 1) := RV_out (b2 := 8) (Or.inl (by omega)) cR.1
    have H3 : cv (ringP o n) (up1 hc 3 f') w 3 = f' := (cv_out (by omega)).trans (up1_s _ _ _)
    have H4 : cv (ringP o n) (up1 hc 3 f') w 4 = hc 4 := (cv_out (by omega)).trans (up1_n _ _ (by decide))
    obtain ⟨M0, eM0⟩ : ∃ X, X = up1 (up1 (up1 (up1 hm 0 g') 2 (fb_put (up1 hm 0 g' 2) (up1 hm 0 g' 1) 0 119)) 3 (pushed n (up1 (up1 hm 0 g') 2 (fb_put (up1 hm 0 g' 2) (up1 hm 0 g' 1) 0 119) 3) (up1 (up1 hm 0 g') 2 (fb_put (up1 hm 0 g' 2) (up1 hm 0 g' 1) 0 119) 2))) 0 (upd (up1 (up1 hm 0 g') 2 (fb_put (up1 hm 0 g' 2) (up1 hm 0 g' 1) 0 119) 0) 3 (nI (min (n + 1) 6))) := ⟨_, rfl⟩
    have M01 : M0 1 = hm 1 := by rw [eM0]; rfl
    have M06 : M0 6 = hm 6 := by rw [eM0]; rfl
    have M00 : M0 0 = upd g' 3 (nI (min (n + 1) 6)) := by rw [eM0]; rfl
    have hT2 : TX (cv (ringP o n) (up1 hc 3 f') w) M0 t L := TX_c H4 M06 hT
    obtain ⟨k, v2, r2, f2, g2, d1, d2, d3, d4, d5, d6, dC, dM⟩ := runLoop hT2 (L + 1) 0 0 (upd f' 2 0) (upd (M0 0) 8 0) (fun k => cv (ringP o n) (up1 hc 3 f') w (8 + k)) (hm 1) (c4 hz) (by omega) (by omega) ⟨by rw [upd_n' (by decide)]; exact c1, upd_s'⟩ ⟨by rw [upd_n' (by decide), M00, upd_n' (by decide)]; exact c2, upd_s'⟩ V1 hR.2.1
    rw [cv_self] at dC
    rw [← M01, up1_self] at dM
    refine cC _ (bt' hz (hH _ (nm' ⟨L + 2, ?_⟩)))
    rw [H3]
    refine dC _ ?_
    have k1 : up1 (cv 8 (cv (ringP o n) (up1 hc 3 f') w) v2) 3 f2 1 = up1 hc 3 f' 1 := (up1_n _ _ (by decide)).trans ((cv_out (by decide)).trans (cv_out (by omega)))
    refine keepC hn ho (by rw [k1]; exact e2) (by rw [k1]; exact e1) (nI_pos (by omega)) (cM _ (bt' hz (putM (pushM (h := up1 (up1 hm 0 g') 2 (fb_put (up1 hm 0 g' 2) (up1 hm 0 g' 1) 0 119)) hn e0 ?_))))
    rw [← eM0]
    refine nm' ⟨L + 2, dM _ ⟨rfl, ?_⟩⟩
    refine rel_okG (g := fb_put (up1 hm 0 g' 2) (up1 hm 0 g' 1) 0 119) cR hh ?_ ?_ ?_ d3 (fun c x1 x3 x8 xr => ?_) ?_ ?_ (fun k hk => by rw [fb_put_in (by omega) (by omega)]; rfl) (by rw [eM0]; rfl) (by rw [eM0]; rfl) (by rw [eM0]; rfl) ⟨0, by decide, ?_, ?_, fun i hi => absurd hi (by omega)⟩
    · rw [up1_s, k1]
    · refine RV_fr (h := cv (ringP o n) (up1 hc 3 f') w) (fun c x1 x2 => ?_) (RV_in (RVv_c hw (fun _ _ => rfl) cR.1))
      rw [up1_n _ _ (by omega), up1_n _ _ (by omega)]
      exact cv_out (by omega)
    · refine RV_fr (h := cv 8 (cv (ringP o n) (up1 hc 3 f') w) v2) (fun c x1 x2 => ?_) (RV_in d2)
      rw [up1_n _ _ (by omega), up1_n _ _ (by omega)]
    · rw [up1_n _ _ x1, up1_n _ _ x3, cv_out (by omega), cv_out (by omega)]
    · rw [up1_s, d6, upd_n' (by decide), M00, upd_s']
    · rw [eM0]; rfl
    · rw [up1_n _ _ (by decide), up1_s, d4]; exact nI_0.symm
    · rw [up1_s, d5]; exact nI_0.symm
  · exact cC _ (bf' hz (cM _ (bf' hz ⟨rfl, cR⟩)))
