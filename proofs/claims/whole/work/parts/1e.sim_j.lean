/-! The agreement, both sides. -/
theorem sim_agrees : SimV (fun b h Q => F_X6_agreeOnMedian b h Q) (fun h Q => F_X8_agrees h Q) := by
  intro b hc v hm r hV hI
  have hN := navs_of hV hI
  by_cases h3 : 3 ≤ cp r (-6)
  · obtain ⟨j, hj, hP, hk⟩ := rk_onto (r := r) (w := -6) (y := (cp r (-6) - 1) / 2) (by omega)
    have hmed : rng (nv r j 6) (-5400) 5400 := (hN j hj).2.2.2.2.2.1
    obtain ⟨med, emed⟩ : ∃ m, m = nv r j 6 := ⟨_, rfl⟩
    rw [← emed] at hmed
    have hN1 : navs (up1 v 12 (upd (v 12) 1 med)) r := fun n hn => ⟨rvNav_c (fun o h1 h2 => by rw [up1_n _ _ (by omega)]) (fun f hf => rfl) (hN n hn).1, (hN n hn).2⟩
    obtain ⟨v2, c2, r2, ⟨p1, p2, p3, p4, p5⟩, hC, hM⟩ := judges (b := b) (hc := hc) (hm := hm) (med := med) 7 0 (up1 v 12 (upd (v 12) 1 med)) 0 r rfl ⟨fun _ _ _ _ => rfl, fun _ _ _ => rfl, (Int32.add_zero _).symm, hN1, fun _ _ => rfl⟩
    have e20 : v2 0 = v 0 := (p1 0 (by decide) (by decide) (by decide)).trans (up1_n _ _ (by decide))
    have hv3 : ∀ o, o ≠ 0 → o ≠ 8 → o ≠ 10 → o ≠ 11 → o ≠ 12 → up1 v2 0 (upd (upd (v 0) 7 (v 0 7 + c2)) 6 (v 0 6 + 1)) o = v o := fun o h0 h8 h10 h11 h12 => by rw [up1_n _ _ h0, p1 o h8 h10 h11, up1_n _ _ h12]
    have e12 : up1 v2 0 (upd (upd (v 0) 7 (v 0 7 + c2)) 6 (v 0 6 + 1)) 12 = upd (v 12) 1 med := by rw [up1_n _ _ (by decide), p1 12 (by decide) (by decide) (by decide), up1_s]
    have hr3 : ∀ k, k < 31 ∨ 87 ≤ k → k ≠ 5 → k ≠ 6 → k ≠ 11 → k ≠ 12 → upd (upd (upd r2 5 1) 6 med) 11 (r2 11 + 1) k = r k := fun k hk h5 h6 h11 h12 => by rw [upd_n' h11, upd_n' h6, upd_n' h5]; exact p2 k hk h12
    have hnv : ∀ n f, n < 7 → f < 8 → nv (upd (upd (upd r2 5 1) 6 med) 11 (r2 11 + 1)) n f = nv r2 n f := fun n f hn hf => by rw [upd_nv (by decide) hf hn, upd_nv (by decide) hf hn, upd_nv (by decide) hf hn]
    refine ⟨med + 5400, up1 v2 0 (upd (upd (v 0) 7 (v 0 7 + c2)) 6 (v 0 6 + 1)), upd (upd (upd r2 5 1) 6 med) 11 (r2 11 + 1), fun Q q => ?_, fun Q q => ?_, ?_, ?_, fun h => absurd h (told_nn hmed)⟩
    · refine midC hN hj hP h3 hk ?_
      rw [← emed]
      refine bf' (ne_9999 hmed) ?_
      have hs2 : v 1 2 = r 2 := hV.1 2 (by decide)
      simp only [cv_12, cu_12, forall_eq, cv_1, cv_0, up1_n _ _ (show (1 : Nat) ≠ 12 by decide), up1_n _ _ (show (0 : Nat) ≠ 12 by decide), hs2]
      refine ⟨8, hC _ ?_⟩
      simp only [cv_0, cu_0, forall_eq, up1_s, up1_up1, e20, upd_n' (show (6 : Nat) ≠ 7 by decide)]
      exact q
    · refine partsM ?_
      rw [up1_1]
      refine bt' ((le3 (cp_le _ _)).mpr h3) (middleM hj (by rw [up1_1]; exact hP) (by rw [up1_1]; exact h3) (by rw [up1_1]; exact hk) ?_)
      rw [up1_1, ← emed]
      refine ⟨8, hM Q ?_⟩
      unfold finQ
      simp only [forall_eq, up1_1, up1_up1, upd_n' (show (11 : Nat) ≠ 6 by decide), upd_n' (show (11 : Nat) ≠ 5 by decide)]
      exact q
    · obtain ⟨c0, c1, c2', c3⟩ := hV.2.2.2.1
      obtain ⟨m5, m6, m7⟩ := hV.2.2.2.2.1
      refine ⟨rvSet_c (fun j hj => by rw [hv3 1 (by decide) (by decide) (by decide) (by decide) (by decide)]) (fun k hk => hr3 k (by omega) (by omega) (by omega) (by omega) (by omega)) hV.1, rvSky_c (fun j hj => by rw [hv3 2 (by decide) (by decide) (by decide) (by decide) (by decide)]) (fun j hj => by rw [hv3 3 (by decide) (by decide) (by decide) (by decide) (by decide)]) (hr3 13 (by decide) (by decide) (by decide) (by decide) (by decide)) (fun k h1 h2 => hr3 k (by omega) (by omega) (by omega) (by omega) (by omega)) hV.2.1, fun n hn => rvNav_c (fun o h1 h2 => by rw [up1_n _ _ (by omega)]) (fun f hf => hnv n f hn hf) (p4 n hn).1, ⟨?_, ?_, ?_, ?_⟩, ⟨?_, ?_, ?_⟩, rvLog_c (fun j hj => by rw [hv3 14 (by decide) (by decide) (by decide) (by decide) (by decide)]) (hr3 9 (by decide) (by decide) (by decide) (by decide) (by decide)) (hr3 14 (by decide) (by decide) (by decide) (by decide) (by decide)) (fun k h1 h2 => hr3 k (by omega) (by omega) (by omega) (by omega) (by omega)) hV.2.2.2.2.2⟩
      · rw [e12, upd_n' (by decide), hr3 4 (by decide) (by decide) (by decide) (by decide) (by decide)]; exact c0
      · rw [e12, upd_s', upd_n' (show (5 : Nat) ≠ 11 by decide), upd_n' (show (5 : Nat) ≠ 6 by decide), upd_s', if_pos rfl, upd_n' (show (6 : Nat) ≠ 11 by decide), upd_s']
      · rw [e12, upd_n' (by decide), hr3 7 (by decide) (by decide) (by decide) (by decide) (by decide)]; exact c2'
      · rw [e12, upd_n' (by decide), hr3 8 (by decide) (by decide) (by decide) (by decide) (by decide)]; exact c3
      · rw [up1_s, upd_n' (by decide), upd_n' (by decide), hr3 9 (by decide) (by decide) (by decide) (by decide) (by decide)]; exact m5
      · rw [up1_s, upd_s', upd_s', p2 11 (by decide) (by decide), m6]
      · rw [up1_s, upd_n' (by decide), upd_s', upd_n' (by decide), upd_n' (by decide), upd_n' (by decide), p3, m7]
    · obtain ⟨iset, ⟨i4, i5, i6, i7, i8⟩, isky, inav, isum⟩ := hI
      refine ⟨ivSet_c (fun k hk => hr3 k (by omega) (by omega) (by omega) (by omega) (by omega)) iset, ⟨?_, ?_, ?_, ?_, ?_⟩, ivSky_c (hr3 13 (by decide) (by decide) (by decide) (by decide) (by decide)) (fun k h1 h2 => hr3 k (by omega) (by omega) (by omega) (by omega) (by omega)) isky, fun n hn => ivNav_c (fun f hf => hnv n f hn hf) (p4 n hn).2, ?_⟩
      · rw [hr3 4 (by decide) (by decide) (by decide) (by decide) (by decide)]; exact i4
      · rw [upd_n' (by decide), upd_n' (by decide), upd_s']; exact ⟨by decide, by decide⟩
      · rw [upd_n' (by decide), upd_s']; exact hmed
      · rw [hr3 7 (by decide) (by decide) (by decide) (by decide) (by decide)]; exact i7
      · rw [hr3 8 (by decide) (by decide) (by decide) (by decide) (by decide)]; exact i8
      · exact Eq.trans (b := sm7 r) (by rw [hr3 10 (by decide) (by decide) (by decide) (by decide) (by decide)]; exact isum) (sm7_c (fun n hn => by rw [hnv n 4 hn (by decide)]; exact p5 n hn)).symm
  · refine ⟨-5, v, r, fun Q q => midC_0 hN h3 (bt' rfl q), fun Q q => partsM (bf' (fun z => h3 ?_) q), hV, hI, fun _ => ⟨rfl, rfl⟩⟩
    rw [up1_1] at z
    exact (le3 (cp_le _ _)).mp z
