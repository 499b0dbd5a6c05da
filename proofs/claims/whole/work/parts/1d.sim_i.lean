/-! The median query, and the agreement. -/
theorem Rel_v {hc hm : Hp} (h : Rel hc hm) : RVv (fun o => hc (8 + o)) (hm 1) := h.1
theorem navs_of {v : Nat → Nat → Int32} {r : Nat → Int32} (hV : RVv v r) (hI : IV r) : navs v r := fun n hn => ⟨hV.2.2.1 n hn, hI.2.2.2.1 n hn⟩
theorem medBoth (w : Int32) {hc hm : Hp} (hV : RVv (fun o => hc (8 + o)) (hm 1)) (hI : IV (hm 1)) : ∃ z : Int32, (∀ Q : Int32 → Hp → Prop, Q z hc → F_X1_middleWithout 8 w hc (fun r_2 h_3 => (r_2 = (9999 : Int32) → Q (-5 : Int32) h_3) ∧ (¬ r_2 = (9999 : Int32) → Q (r_2 + (5400 : Int32)) h_3))) ∧ (∀ Q : Int32 → Hp → Prop, Q z hm → F_X8_parts w hm (fun r_2 h_3 => ((3 : Int32) ≤ r_2 → F_X8_middle w h_3 (fun r_5 h_6 => Q (r_5 + (5400 : Int32)) h_6)) ∧ (¬ (3 : Int32) ≤ r_2 → Q (-5 : Int32) h_3))) := by
  have hN := navs_of hV hI
  have es := cv_self 8 hc
  by_cases h3 : 3 ≤ cp (hm 1) w
  · obtain ⟨j, hj, hP, hk⟩ := rk_onto (r := hm 1) (w := w) (y := (cp (hm 1) w - 1) / 2) (by omega)
    refine ⟨nv (hm 1) j 6 + 5400, fun Q q => ?_, fun Q q => ?_⟩
    · have := midC (b := 8) (hc := hc) hN hj hP h3 hk (Q := fun r_2 h_3 => (r_2 = (9999 : Int32) → Q (-5 : Int32) h_3) ∧ (¬ r_2 = (9999 : Int32) → Q (r_2 + (5400 : Int32)) h_3)) (bf' (ne_9999 (hN j hj).2.2.2.2.2.1) (by rw [es]; exact q))
      rw [es] at this
      exact this
    · exact partsM (bt' ((le3 (cp_le _ _)).mpr h3) (middleM hj hP h3 hk q))
  · refine ⟨-5, fun Q q => ?_, fun Q q => ?_⟩
    · have := midC_0 (b := 8) (hc := hc) hN h3 (Q := fun r_2 h_3 => (r_2 = (9999 : Int32) → Q (-5 : Int32) h_3) ∧ (¬ r_2 = (9999 : Int32) → Q (r_2 + (5400 : Int32)) h_3)) (bt' rfl (by rw [es]; exact q))
      rw [es] at this
      exact this
    · exact partsM (bf' (fun z => h3 ((le3 (cp_le _ _)).mp z)) q)
theorem sim_median (x : Int32) {hc hm : Hp} (hR : Rel hc hm) : F_X7_median x hc (fun r h1 => F_X8_median x hm (fun r2 h2 => r = r2 ∧ Rel h1 h2)) := by
  obtain ⟨z, hC, hM⟩ := medBoth x (Rel_v hR) hR.2.1
  refine bc _ (fun h1 => ?_) (fun h1 => isNavC_iff.mpr (bc _ (fun h2 => ?_) (fun h2 => ?_)))
  · exact hC (fun r h1 => F_X8_median x hm (fun r2 h2 => r = r2 ∧ Rel h1 h2)) (bt' h1 (hM (fun r2 h2 => z = r2 ∧ Rel hc h2) ⟨rfl, hR⟩))
  · exact bf' h1 (isNavM_iff.mpr (bt' h2 ⟨rfl, hR⟩))
  · exact hC (fun r h1 => F_X8_median x hm (fun r2 h2 => r = r2 ∧ Rel h1 h2)) (bf' h1 (isNavM_iff.mpr (bf' h2 (hM (fun r2 h2 => z = r2 ∧ Rel hc h2) ⟨rfl, hR⟩))))
/-- the state within the quarrel -/
def jP (v : Nat → Nat → Int32) (r : Nat → Int32) (v' : Nat → Nat → Int32) (c : Int32) (r' : Nat → Int32) : Prop := (∀ o, o ≠ 8 → o ≠ 10 → o ≠ 11 → v' o = v o) ∧ (∀ k, (k < 31 ∨ 87 ≤ k) → k ≠ 12 → r' k = r k) ∧ r' 12 = r 12 + c ∧ navs v' r' ∧ ∀ n, n < 7 → nv r' n 4 = nv r n 4
theorem jstep {v v' v'' : Nat → Nat → Int32} {r r' r'' : Nat → Int32} {c d : Int32} {i : Nat} (hi : i < 7) (h : jP v r v' c r') (hv : ∀ o, o ≠ 8 → o ≠ 10 → o ≠ 11 → v'' o = v' o) (hvn : ∀ o j, j ≠ i → v'' o j = v' o j) (hr : ∀ k, (k < 31 ∨ 87 ≤ k) → k ≠ 12 → r'' k = r' k) (h12 : r'' 12 = r' 12 + d) (hrn : ∀ n f, n < 7 → f < 8 → n ≠ i → nv r'' n f = nv r' n f) (hri : ∀ f, f < 8 → f ≠ 3 → f ≠ 5 → f ≠ 6 → f ≠ 7 → nv r'' i f = nv r' i f) (h8 : v'' 8 i = nv r'' i 3) (h5 : nv r'' i 5 = 0) (h6 : nv r'' i 6 = 0) (h10 : v'' 10 i = 9999) (h7 : v'' 11 i = nv r'' i 7) (h77 : rng (nv r'' i 7) 0 2) : jP v r v'' (c + d) r'' := by
  obtain ⟨p1, p2, p3, p4, p5⟩ := h
  refine ⟨fun o a b c => (hv o a b c).trans (p1 o a b c), fun k a b => (hr k a b).trans (p2 k a b), by rw [h12, p3, Int32.add_assoc], fun n hn => ?_, fun n hn => ?_⟩
  · by_cases hni : n = i
    · subst hni
      obtain ⟨⟨a5, a6, a7, a8, a9, a10, a11⟩, ⟨j0, j1, j2, j5, j6, j7⟩⟩ := p4 n hn
      refine ⟨⟨?_, ?_, ?_, h8, ?_, ?_, h7⟩, ?_, ?_, ?_, ?_, ?_, h77⟩
      · rw [hv 5 (by decide) (by decide) (by decide), hri 0 (by decide) (by decide) (by decide) (by decide) (by decide)]; exact a5
      · rw [hv 6 (by decide) (by decide) (by decide), hri 1 (by decide) (by decide) (by decide) (by decide) (by decide)]; exact a6
      · rw [hv 7 (by decide) (by decide) (by decide), hri 2 (by decide) (by decide) (by decide) (by decide) (by decide)]; exact a7
      · rw [hv 9 (by decide) (by decide) (by decide), hri 4 (by decide) (by decide) (by decide) (by decide) (by decide)]; exact a9
      · rw [h10, h5, if_neg (by decide)]
      · rw [hri 0 (by decide) (by decide) (by decide) (by decide) (by decide)]; exact j0
      · rw [hri 1 (by decide) (by decide) (by decide) (by decide) (by decide)]; exact j1
      · rw [hri 2 (by decide) (by decide) (by decide) (by decide) (by decide)]; exact j2
      · rw [h5]; exact rng0 (by decide) (by decide)
      · rw [h6]; exact rng0 (by decide) (by decide)
    · exact ⟨rvNav_c (fun o _ _ => hvn o n hni) (fun f hf => hrn n f hn hf hni) (p4 n hn).1, ivNav_c (fun f hf => hrn n f hn hf hni) (p4 n hn).2⟩
  · by_cases hni : n = i
    · subst hni
      rw [hri 4 (by decide) (by decide) (by decide) (by decide) (by decide)]; exact p5 n hn
    · rw [hrn n 4 hn (by decide) hni]; exact p5 n hn
theorem ne_m6 {i : Nat} (hi : i < 7) : ¬ nI i = -6 := fun e => nI_pos (n := i) (by omega) (by rw [e]; decide)
def finQ (med : Int32) (Q : Int32 → Hp → Prop) (h0 : Hp) : Prop := ∀ h_7 : Hp, h_7 = up1 h0 1 (upd (h0 1) 5 (1 : Int32)) → (∀ h_8 : Hp, h_8 = up1 h_7 1 (upd (h_7 1) 6 med) → (∀ h_9 : Hp, h_9 = up1 h_8 1 (upd (h_8 1) 11 ((h_8 1 11) + (1 : Int32))) → (Q (med + (5400 : Int32)) h_9)))
theorem judges {b : Nat} {hc hm : Hp} {v : Nat → Nat → Int32} {r : Nat → Int32} {med : Int32} : ∀ (m i : Nat) (v' : Nat → Nat → Int32) (c : Int32) (r' : Nat → Int32), i + m = 7 → jP v r v' c r' → ∃ (v2 : Nat → Nat → Int32) (c2 : Int32) (r2 : Nat → Int32), jP v r v2 c2 r2 ∧ (∀ Q : Int32 → Hp → Prop, Q c2 (cv b hc v2) → F_X1_quarrelOver_L5 b (m + 1) med (r 2) c (nI i) (cv b hc v') Q) ∧ (∀ Q : Int32 → Hp → Prop, finQ med Q (up1 hm 1 r2) → F_X8_agrees_L22 (m + 1) med (nI i) (up1 hm 1 r') Q) := by
  intro m
  induction m with
  | zero =>
    intro i v' c r' e hJ
    obtain rfl : i = 7 := by omega
    exact ⟨v', c, r', hJ, fun Q q => bt' (by decide) q, fun Q q => bt' (by decide) q⟩
  | succ m ih =>
    intro i v' c r' e hJ
    have hi : i < 7 := by omega
    have hcl : (nI i).toNatClampNeg = i := clN (by omega)
    have n3 : ∀ (h : Hp) (Q : Int32 → Hp → Prop), F_X8_number (nI i) (3 : Int32) h Q ↔ Q (nv (h 1) i 3) h := fun h Q => num hi (show 3 < 8 by decide)
    have n6 : ∀ (h : Hp) (Q : Int32 → Hp → Prop), F_X8_number (nI i) (6 : Int32) h Q ↔ Q (nv (h 1) i 6) h := fun h Q => num hi (show 6 < 8 by decide)
    have s3 : ∀ (h : Hp) (y : Int32) (Q : Hp → Prop), F_X8_setOf (nI i) (3 : Int32) y h Q ↔ Q (up1 h 1 (upd (h 1) (31 + 8 * i + 3) y)) := fun h y Q => sof hi (show 3 < 8 by decide)
    have s5 : ∀ (h : Hp) (y : Int32) (Q : Hp → Prop), F_X8_setOf (nI i) (5 : Int32) y h Q ↔ Q (up1 h 1 (upd (h 1) (31 + 8 * i + 5) y)) := fun h y Q => sof hi (show 5 < 8 by decide)
    have s6 : ∀ (h : Hp) (y : Int32) (Q : Hp → Prop), F_X8_setOf (nI i) (6 : Int32) y h Q ↔ Q (up1 h 1 (upd (h 1) (31 + 8 * i + 6) y)) := fun h y Q => sof hi (show 6 < 8 by decide)
    have s7 : ∀ (h : Hp) (y : Int32) (Q : Hp → Prop), F_X8_setOf (nI i) (7 : Int32) y h Q ↔ Q (up1 h 1 (upd (h 1) (31 + 8 * i + 7) y)) := fun h y Q => sof hi (show 7 < 8 by decide)
    obtain ⟨hNv, hNi⟩ := hJ.2.2.2.1 i hi
    have e2 : r' 2 = r 2 := hJ.2.1 2 (by decide) (by decide)
    have ux : ∀ (y : Int32), upd r' (31 + 8 * i + 3) y 12 = r' 12 := fun y => upd_n' (by omega)
    have a8 : v' 8 i = nv r' i 3 := hNv.2.2.2.1
    by_cases ht : tpr r' i = true
    · have hP : PB r' (-6) i = true := PB_eq.mpr ⟨ne_m6 hi, ht⟩
      have e10 : v' 10 i = nv r' i 6 := tp_est hNv (tpr_i.mp ht).2
      have htM : ∀ Q : Int32 → Hp → Prop, Q (b01 (PB r' (-6) i = true)) (up1 hm 1 r') → F_X8_takesPart (nI i) (-6) (up1 hm 1 r') Q := fun Q q => takesM hi (by rw [up1_1]; exact q)
      have gC : ∀ Q : Int32 → Hp → Prop, ((∀ x_7 : Int32, x_7 = jabs (nv r' i 6 - med) → ((x_7 ≤ r 2 → ∀ x, x = nI i + 1 → F_X1_quarrelOver_L5 b (m + 1) med (r 2) c x (cv b hc (up1 (up1 v' 8 (upd (v' 8) i 0)) 10 (upd (v' 10) i 9999))) Q) ∧ (¬ x_7 ≤ r 2 → ((nv r' i 3 + 1 < 3 → ∀ x, x = nI i + 1 → F_X1_quarrelOver_L5 b (m + 1) med (r 2) (c + 1) x (cv b hc (up1 (up1 v' 8 (upd (v' 8) i (nv r' i 3 + 1))) 10 (upd (v' 10) i 9999))) Q) ∧ (¬ nv r' i 3 + 1 < 3 → ∀ x, x = nI i + 1 → F_X1_quarrelOver_L5 b (m + 1) med (r 2) (c + 1) x (cv b hc (up1 (up1 (up1 v' 8 (upd (v' 8) i (nv r' i 3 + 1))) 11 (upd (v' 11) i 2)) 10 (upd (v' 10) i 9999))) Q)))))) → F_X1_quarrelOver_L5 b (m + 1 + 1) med (r 2) c (nI i) (cv b hc v') Q := fun Q q => by
        refine bf' (ge7 hi) (takesC hi hNv hNi (bf' (fun z => (b01_0 _).mp z ht) ?_))
        have q1 := q _ rfl
        simp only [F_X1_makeAngrier, hcl, cv_8, cv_10, cv_11, cu_8, cu_10, cu_11, forall_eq, e10, a8, up1_s, up1_n _ _ (show (10 : Nat) ≠ 8 by decide), up1_n _ _ (show (11 : Nat) ≠ 8 by decide), up1_n _ _ (show (10 : Nat) ≠ 11 by decide), upd_s', up1_up1] at q1 ⊢
        exact ⟨vpn hi (by decide), fun h => ⟨vpn hi (by decide), vpn hi (by decide), q1.1 h⟩, fun h => ⟨vpn hi (by decide), vpn hi (by decide), vpn hi (by decide), fun h2 => ⟨vpn hi (by decide), (q1.2 h).1 h2⟩, fun h2 => ⟨vpn hi (by decide), vpn hi (by decide), (q1.2 h).2 h2⟩⟩⟩
      by_cases hle : jabs (nv r' i 6 - med) ≤ r 2
      · have hst : jP v r (up1 (up1 v' 8 (upd (v' 8) i 0)) 10 (upd (v' 10) i 9999)) (c + 0) (upd (upd (upd (upd r' (31 + 8 * i + 3) 0) 12 (r' 12 + 0)) (31 + 8 * i + 5) 0) (31 + 8 * i + 6) 0) := by
          have hf : ∀ n f, n < 7 → f < 8 → nv (upd (upd (upd (upd r' (31 + 8 * i + 3) 0) 12 (r' 12 + 0)) (31 + 8 * i + 5) 0) (31 + 8 * i + 6) 0) n f = if n = i ∧ f = 6 then 0 else if n = i ∧ f = 5 then 0 else if n = i ∧ f = 3 then 0 else nv r' n f := fun n f hn hf => by rw [nv_upd (by decide) hf, nv_upd (by decide) hf, upd_nv (by decide) hf hn, nv_upd (by decide) hf]
          refine jstep hi hJ (fun o h8 h10 h11 => by rw [up1_n _ _ h10, up1_n _ _ h8]) (fun o j hj => ?_) (fun k hk h12 => by rw [upd_n' (by omega), upd_n' (by omega), upd_n' h12, upd_n' (by omega)]) (by rw [upd_n' (by omega), upd_n' (by omega), upd_s']) (fun n f hn hf2 hne => by rw [hf n f hn hf2]; simp [hne]) (fun f hf2 h3 h5 h6 h7 => by rw [hf i f hi hf2]; simp [h3, h5, h6]) ?_ (by rw [hf i 5 hi (by decide)]; simp) (by rw [hf i 6 hi (by decide)]; simp) (by rw [up1_s, upd_s']) ?_ ?_
          · by_cases h10 : o = 10
            · subst h10; rw [up1_s, upd_n' hj]
            · rw [up1_n _ _ h10]
              by_cases h8 : o = 8
              · subst h8; rw [up1_s, upd_n' hj]
              · rw [up1_n _ _ h8]
          · rw [up1_n _ _ (by decide), up1_s, upd_s', hf i 3 hi (by decide)]; simp
          · rw [up1_n _ _ (by decide), up1_n _ _ (by decide), hf i 7 hi (by decide)]; simp [hNv.2.2.2.2.2.2]
          · rw [hf i 7 hi (by decide)]; simp [hNi.2.2.2.2.2]
        rw [Int32.add_zero] at hst
        obtain ⟨v2, c2, r2, hJ2, hC, hM⟩ := ih (i + 1) _ c _ (by omega) hst
        refine ⟨v2, c2, r2, hJ2, fun Q q => gC Q (nm' (bt' hle (nm' ?_))), fun Q q => bf' (ge7 hi) (htM _ (bf' (fun z => (b01_0 _).mp z hP) ?_))⟩
        · rw [nI_1]; exact hC Q q
        · unfold F_X8_judge
          simp only [n6, sizeOf_iff, s3, s5, s6, up1_1, up1_up1, forall_eq, e2, ux, nI_1]
          exact bt' hle (hM Q q)
      · by_cases h3 : nv r' i 3 + 1 < 3
        · have hst : jP v r (up1 (up1 v' 8 (upd (v' 8) i (nv r' i 3 + 1))) 10 (upd (v' 10) i 9999)) (c + 1) (upd (upd (upd (upd r' (31 + 8 * i + 3) (nv r' i 3 + 1)) 12 (r' 12 + 1)) (31 + 8 * i + 5) 0) (31 + 8 * i + 6) 0) := by
            have hf : ∀ n f, n < 7 → f < 8 → nv (upd (upd (upd (upd r' (31 + 8 * i + 3) (nv r' i 3 + 1)) 12 (r' 12 + 1)) (31 + 8 * i + 5) 0) (31 + 8 * i + 6) 0) n f = if n = i ∧ f = 6 then 0 else if n = i ∧ f = 5 then 0 else if n = i ∧ f = 3 then (nv r' i 3 + 1) else nv r' n f := fun n f hn hf => by rw [nv_upd (by decide) hf, nv_upd (by decide) hf, upd_nv (by decide) hf hn, nv_upd (by decide) hf]
            refine jstep hi hJ (fun o h8 h10 h11 => by rw [up1_n _ _ h10, up1_n _ _ h8]) (fun o j hj => ?_) (fun k hk h12 => by rw [upd_n' (by omega), upd_n' (by omega), upd_n' h12, upd_n' (by omega)]) (by rw [upd_n' (by omega), upd_n' (by omega), upd_s']) (fun n f hn hf2 hne => by rw [hf n f hn hf2]; simp [hne]) (fun f hf2 h3 h5 h6 h7 => by rw [hf i f hi hf2]; simp [h3, h5, h6]) ?_ (by rw [hf i 5 hi (by decide)]; simp) (by rw [hf i 6 hi (by decide)]; simp) (by rw [up1_s, upd_s']) ?_ ?_
            · by_cases h10 : o = 10
              · subst h10; rw [up1_s, upd_n' hj]
              · rw [up1_n _ _ h10]
                by_cases h8 : o = 8
                · subst h8; rw [up1_s, upd_n' hj]
                · rw [up1_n _ _ h8]
            · rw [up1_n _ _ (by decide), up1_s, upd_s', hf i 3 hi (by decide)]; simp
            · rw [up1_n _ _ (by decide), up1_n _ _ (by decide), hf i 7 hi (by decide)]; simp [hNv.2.2.2.2.2.2]
            · rw [hf i 7 hi (by decide)]; simp [hNi.2.2.2.2.2]
          obtain ⟨v2, c2, r2, hJ2, hC, hM⟩ := ih (i + 1) _ _ _ (by omega) hst
          refine ⟨v2, c2, r2, hJ2, fun Q q => gC Q (nm' (bf' hle (bt' h3 (nm' ?_)))), fun Q q => bf' (ge7 hi) (htM _ (bf' (fun z => (b01_0 _).mp z hP) ?_))⟩
          · rw [nI_1]; exact hC Q q
          · unfold F_X8_judge
            simp only [n6, n3, sizeOf_iff, s3, s5, s6, s7, up1_1, up1_up1, forall_eq, e2, ux, nI_1]
            exact bf' hle (bt' h3 (hM Q q))
        · have hst : jP v r (up1 (up1 (up1 v' 8 (upd (v' 8) i (nv r' i 3 + 1))) 11 (upd (v' 11) i 2)) 10 (upd (v' 10) i 9999)) (c + 1) (upd (upd (upd (upd (upd r' (31 + 8 * i + 3) (nv r' i 3 + 1)) 12 (r' 12 + 1)) (31 + 8 * i + 5) 0) (31 + 8 * i + 6) 0) (31 + 8 * i + 7) 2) := by
            have hf : ∀ n f, n < 7 → f < 8 → nv (upd (upd (upd (upd (upd r' (31 + 8 * i + 3) (nv r' i 3 + 1)) 12 (r' 12 + 1)) (31 + 8 * i + 5) 0) (31 + 8 * i + 6) 0) (31 + 8 * i + 7) 2) n f = if n = i ∧ f = 7 then 2 else if n = i ∧ f = 6 then 0 else if n = i ∧ f = 5 then 0 else if n = i ∧ f = 3 then (nv r' i 3 + 1) else nv r' n f := fun n f hn hf => by rw [nv_upd (by decide) hf, nv_upd (by decide) hf, nv_upd (by decide) hf, upd_nv (by decide) hf hn, nv_upd (by decide) hf]
            refine jstep hi hJ (fun o h8 h10 h11 => by rw [up1_n _ _ h10, up1_n _ _ h11, up1_n _ _ h8]) (fun o j hj => ?_) (fun k hk h12 => by rw [upd_n' (by omega), upd_n' (by omega), upd_n' (by omega), upd_n' h12, upd_n' (by omega)]) (by rw [upd_n' (by omega), upd_n' (by omega), upd_n' (by omega), upd_s']) (fun n f hn hf2 hne => by rw [hf n f hn hf2]; simp [hne]) (fun f hf2 h3 h5 h6 h7 => by rw [hf i f hi hf2]; simp [h3, h5, h6, h7]) ?_ (by rw [hf i 5 hi (by decide)]; simp) (by rw [hf i 6 hi (by decide)]; simp) (by rw [up1_s, upd_s']) ?_ ?_
            · by_cases h10 : o = 10
              · subst h10; rw [up1_s, upd_n' hj]
              · rw [up1_n _ _ h10]
                by_cases h11 : o = 11
                · subst h11; rw [up1_s, upd_n' hj]
                · rw [up1_n _ _ h11]
                  by_cases h8 : o = 8
                  · subst h8; rw [up1_s, upd_n' hj]
                  · rw [up1_n _ _ h8]
            · rw [up1_n _ _ (by decide), up1_n _ _ (by decide), up1_s, upd_s', hf i 3 hi (by decide)]; simp
            · rw [up1_n _ _ (by decide), up1_s, upd_s', hf i 7 hi (by decide)]; simp
            · rw [hf i 7 hi (by decide)]; simp; exact ⟨by decide, by decide⟩
          obtain ⟨v2, c2, r2, hJ2, hC, hM⟩ := ih (i + 1) _ _ _ (by omega) hst
          refine ⟨v2, c2, r2, hJ2, fun Q q => gC Q (nm' (bf' hle (bf' h3 (nm' ?_)))), fun Q q => bf' (ge7 hi) (htM _ (bf' (fun z => (b01_0 _).mp z hP) ?_))⟩
          · rw [nI_1]; exact hC Q q
          · unfold F_X8_judge
            simp only [n6, n3, sizeOf_iff, s3, s5, s6, s7, up1_1, up1_up1, forall_eq, e2, ux, nI_1]
            exact bf' hle (bf' h3 (hM Q q))
    · obtain ⟨v2, c2, r2, hJ2, hC, hM⟩ := ih (i + 1) v' c r' (by omega) hJ
      refine ⟨v2, c2, r2, hJ2, fun Q q => bf' (ge7 hi) (takesC hi hNv hNi (bt' ((b01_0 _).mpr ht) (nm' ?_))), fun Q q => bf' (ge7 hi) (takesM hi (bt' ((b01_0 _).mpr (fun z => ht ?_)) (nm' ?_)))⟩
      · rw [nI_1]; exact hC Q q
      · rw [up1_1] at z; exact (PB_eq.mp z).2
      · rw [nI_1]; exact hM Q q
