/-! How many hours to the goal. -/
theorem jabs_sub {a b : Int32} (ha : rng a (-5400) 5400) (hb : rng b (-5400) 5400) : jabs (a - b) = jabs (b - a) := by
  obtain ⟨a1, a2⟩ := ha
  obtain ⟨b1, b2⟩ := hb
  have h1 : (a - b).toInt = a.toInt - b.toInt := fb_subI (by omega) (by omega)
  have h2 : (b - a).toInt = b.toInt - a.toInt := fb_subI (by omega) (by omega)
  rw [fa_eq, jabs_i (by omega), jabs_i (by omega), h1, h2]
  split <;> split <;> omega
theorem gt500 {i : Nat} (h : i ≤ 501) : (500 : Int32) < nI i ↔ i = 501 := by
  rw [show (500 : Int32) = nI 500 from rfl, nI_ltI (by decide) (by omega)]
  omega
theorem le500 {i : Nat} (h : i ≤ 501) : nI i ≤ (500 : Int32) ↔ i ≠ 501 := by
  rw [show (500 : Int32) = nI 500 from rfl, nI_leI (by omega) (by decide)]
  omega
theorem hours {hc A : Hp} {x d p : Int32} (ed : hc (8 + 1) 0 = d) (ep : hc (8 + 1) 1 = p) (hp : rng p 0 30) : ∀ (m i : Nat) (c r' : Nat → Int32), i + m = 501 → crsR c r' → ivC r' → r' 0 = d → r' 1 = p → ∃ (z : Int32) (c' r'' : Nat → Int32), (∀ Q : Int32 → Hp → Prop, Q z (up1 hc 7 c') → F_X6_hoursToGoal_L24 8 7 (m + 1) x (nI i) (up1 hc 7 c) Q) ∧ (∀ Q : Int32 → Hp → Prop, Q z (up1 A 1 (fb_put r'' (A 2) 0 119)) → F_X8_arrivesIn_L20 (m + 1) x (nI i) (up1 A 1 r') Q) := by
  intro m
  induction m with
  | zero =>
    intro i c r' e hcr hC e0 e1
    obtain rfl : i = 501 := by omega
    refine ⟨-6, c, r', fun Q q => bt' (by decide) q, fun Q q => bt' (by decide) (backM (bf' (by decide) ?_))⟩
    rw [up1_s, up1_up1, up1_n _ _ (show (2 : Nat) ≠ 1 by decide)]
    exact q
  | succ m ih =>
    intro i c r' e hcr hC e0 e1
    have hlt : ¬ (500 : Int32) < nI i := fun z => by have := (gt500 (by omega)).mp z; omega
    have hj : jabs (c 2 - c 0) = jabs (r' 4 - r' 7) := by
      rw [hcr.1, hcr.2.2.1]
      exact jabs_sub hC.2.2.2 hC.1
    by_cases hd : jabs (r' 4 - r' 7) ≤ x
    · refine ⟨nI i, c, r', fun Q q => bf' hlt (nm' (bf' ?_ q)), fun Q q => bf' hlt (sizeOf_iff.mpr (bt' ?_ (backM (bt' ((le500 (by omega)).mpr (by omega)) ?_))))⟩
      · rw [up1_s, hj]; exact nlt.mpr hd
      · rw [up1_s]; exact hd
      · rw [up1_s, up1_up1, up1_n _ _ (show (2 : Nat) ≠ 1 by decide)]
        exact q
    · obtain ⟨z, c', r'', hQC, hQM⟩ := ih (i + 1) (hourC d p c) (hourM r') (by omega) (by have := hour_crs hC hcr; rw [e0, e1] at this; exact this) (hour_ivC hC) (by rw [hour_out (by decide)]; exact e0) (by rw [hour_out (by decide)]; exact e1)
      refine ⟨z, c', r'', fun Q q => bf' hlt (nm' (bt' ?_ (hourC_run (nm' ?_)))), fun Q q => bf' hlt (sizeOf_iff.mpr (bf' ?_ (hourM_run (by rw [e1]; exact hp) hC (nm' ?_))))⟩
      · rw [up1_s, hj]; exact nle.mp hd
      · rw [up1_s, up1_up1, up1_n _ _ (show 8 + 1 ≠ 7 by decide), ed, ep, nI_1]; exact hQC Q q
      · rw [up1_s]; exact hd
      · rw [nI_1]; exact hQM Q q
theorem sim_arrivesIn (x1 : Int32) {hc hm : Hp} (hR : Rel hc hm) : F_X7_arrivesIn x1 hc (fun r h1 => F_X8_arrivesIn x1 hm (fun r2 h2 => r = r2 ∧ Rel h1 h2)) := by
  obtain ⟨hV, hI, ⟨n, o, hh⟩, hs, hp⟩ := Rel_i.mp hR
  have es : (0 : Int32).toInt = 0 := by decide
  have et : (999 : Int32).toInt = 999 := by decide
  unfold F_X7_arrivesIn F_X6_hoursToGoal F_X8_arrivesIn
  by_cases h0 : x1 < 0
  · exact bt' h0 (within_iff.mpr (bt' ((b01_0 _).mpr (fun w => nlt.mpr w.1 h0)) ⟨rfl, hR⟩))
  · by_cases h9 : x1 ≤ 999
    · obtain ⟨c0, c1, c2, c3⟩ := hV.2.2.2.1
      have hC : ivC (hm 1) := ivCrs_C hI.2.1
      obtain ⟨z, c', r'', hQC, hQM⟩ := hours (hc := hc) (A := up1 hm 2 (fb_put (hm 2) (hm 1) 0 119)) (x := x1) (d := hm 1 0) (p := hm 1 1) (hV.1 0 (by decide)) (hV.1 1 (by decide)) hI.1.2.1 501 0 (upd (upd (upd (upd (hc 7) 0 (hc (8 + 12) 0)) 1 (hc (8 + 12) 1)) 2 (hc (8 + 12) 2)) 3 (hc (8 + 12) 3)) (hm 1) rfl ⟨c0, c1, c2, c3⟩ hC rfl rfl
      rw [up1_c1] at hQM
      refine bf' h0 (bt' h9 ?_)
      unfold F_X0_copyFrom
      simp only [forall_eq, up1_s, up1_up1, up1_n _ _ (show 8 + 12 ≠ 7 by decide)]
      refine ⟨502, hQC _ (within_iff.mpr (bf' (fun w => (b01_0 _).mp w ⟨nlt.mp h0, h9⟩) (putM ⟨502, hQM _ ⟨rfl, ?_⟩⟩)))⟩
      have er : ∀ k, k < 119 → fb_put r'' (up1 hm 2 (fb_put (hm 2) (hm 1) 0 119) 2) 0 119 k = hm 1 k := fun k hk => by
        rw [fb_put_in (by omega) (by omega), up1_s, fb_put_in (by omega) (by omega)]; rfl
      have hf : ∀ c, c ≠ 7 → up1 hc 7 c' c = hc c := fun c h => up1_n _ _ h
      exact Rel_i.mpr ⟨RVv_c (VEq_refl _) er (RV_fr (fun c h1 h2 => hf c (by omega)) hV), IV_c er hI, ⟨n, o, hist_c (hf 1 (by decide)) (fun i c hi h1 h2 => hf c (by have := ringP_b o i; omega)) rfl rfl hh⟩, slot_c (hf 6 (by decide)) (fun c h => hf c (by omega)) rfl rfl hs, pad_c (by rw [hf 3 (by decide)]) (hf 4 (by decide)) rfl rfl hp⟩
    · exact bf' h0 (bf' h9 (within_iff.mpr (bt' ((b01_0 _).mpr (fun w => h9 w.2)) ⟨rfl, hR⟩)))
