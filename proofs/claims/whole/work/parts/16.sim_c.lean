theorem sim_clouds (x : Int32) : SimV (fun b h Q => F_X6_turnCloud b x h Q) (fun h Q => F_X8_clouds x h Q) := by
  intro b hc v hm r hV hI
  obtain ⟨hset, ⟨hst, ⟨m, hm2, em, hb⟩, hdec⟩, hnav, hcrs, hmisc, hlog⟩ := id hV
  obtain ⟨iset, icrs, ⟨isk, idec⟩, inav, isum⟩ := id hI
  obtain ⟨k, hk, ek⟩ := rngN (n := 8) isk (by decide)
  by_cases hx : ∃ s : Nat, s < k ∧ x = nI s
  · obtain ⟨s, hs, rfl⟩ := hx
    have hm3 : m ^^^ 2 ^ s < 256 := Nat.xor_lt_two_pow (n := 8) hm2 (Nat.pow_lt_pow_right (by decide) (show s < 8 by omega))
    have hr1 : r (23 + s) = if m.testBit s then 1 else 0 := hb s (by omega)
    have hz : (1 : Int32) - r (23 + s) = if (m ^^^ 2 ^ s).testBit s then 1 else 0 := by
      rw [hr1, fb_bit_flip]
      cases m.testBit s <;> simp
    refine ⟨1 - r (23 + s), up1 v 2 (upd (v 2) 1 (nI (m ^^^ 2 ^ s))), upd r (23 + s) (1 - r (23 + s)), fun Q q => ?_, fun Q q => ?_, ?_, ?_, fun h => ?_⟩
    · refine hasStar_t hk hs (by rw [cv_2, hst, ek]) (bf' (by decide) ?_)
      intro h4 e4
      simp only [cv_2, cu_2, em, bit_on s (by omega), fb_xorI] at e4
      subst e4
      unfold F_X5_cloudBefore
      rw [cv_2, up1_s, upd_s', bit_rd _ hm3 s (by omega), ← hz]
      exact q
    · refine isStar_t hk hs (by rw [up1_1, ek]) (bf' (by decide) ?_)
      simp only [ix23, clN (show 23 + s < 2 ^ 31 by omega), up1_1, up1_up1, forall_eq, upd_s']
      exact ⟨vpn (by omega) (by decide), vpn (by omega) (by decide), vpn (by omega) (by decide), q⟩
    · refine ⟨rvSet_c (fun j hj => rfl) (fun j hj => by rw [upd_n' (by omega)]) hset, ⟨?_, ⟨m ^^^ 2 ^ s, hm3, ?_, fun t ht => ?_⟩, fun t ht => ?_⟩, fun n hn => rvNav_c (fun o h1 h2 => by rw [up1_n _ _ (by omega)]) (nv_c hn (fun k h1 h2 => by rw [upd_n' (by omega)])) (hnav n hn), rvCrs_c (fun j hj => rfl) (fun k h1 h2 => by rw [upd_n' (by omega)]) hcrs, rvMisc_c (fun j h1 h2 => rfl) (by rw [upd_n' (by omega)]) (by rw [upd_n' (by omega)]) (by rw [upd_n' (by omega)]) hmisc, rvLog_c (fun j hj => rfl) (by rw [upd_n' (by omega)]) (by rw [upd_n' (by omega)]) (fun k h1 h2 => by rw [upd_n' (by omega)]) hlog⟩
      · rw [up1_s, upd_n' (by decide), upd_n' (by omega)]; exact hst
      · rw [up1_s, upd_s']
      · by_cases h1 : t = s
        · subst h1; rw [upd_s']; exact hz
        · rw [upd_n' (by omega), hb t ht, fb_bit_flip]
          simp [h1]
      · rw [up1_n _ _ (by decide), upd_n' (by omega)]; exact hdec t ht
    · refine ⟨ivSet_c (fun j hj => by rw [upd_n' (by omega)]) iset, ivCrs_c (fun k h1 h2 => by rw [upd_n' (by omega)]) icrs, ivSky_c (by rw [upd_n' (by omega)]) (fun k h1 h2 => by rw [upd_n' (by omega)]) ⟨isk, idec⟩, fun n hn => ivNav_c (nv_c hn (fun k h1 h2 => by rw [upd_n' (by omega)])) (inav n hn), ?_⟩
      exact Eq.trans (b := sm7 r) (by rw [upd_n' (by omega)]; exact isum) (sm7_c (fun n hn => nv_c hn (fun k h1 h2 => by rw [upd_n' (by omega)]) 4 (by decide))).symm
    · rw [hz] at h
      split at h <;> exact absurd h (by decide)
  · refine ⟨-1, v, r, fun Q q => ?_, fun Q q => ?_, hV, hI, fun _ => ⟨rfl, rfl⟩⟩
    · exact hasStar_f hk hx (by rw [cv_2, hst, ek]) (bt' rfl q)
    · exact isStar_f hk hx (by rw [up1_1, ek]) (bt' rfl q)
/-- one navigator's number changes: the row's and the class's -/
theorem RV_nav {v v' : Nat → Nat → Int32} {r r' : Nat → Int32} {n : Nat} (hn : n < 7) (hV : RVv v r) (hv : ∀ o j, (o < 5 ∨ 11 < o) → v' o j = v o j) (hvn : ∀ o j, j ≠ n → v' o j = v o j) (hr : ∀ k, (k < 31 + 8 * n ∨ 39 + 8 * n ≤ k) → k ≠ 10 → r' k = r k) (h1 : rvNav v' r' n) : RVv v' r' := by
  obtain ⟨hset, hsky, hnav, hcrs, hmisc, hlog⟩ := hV
  refine ⟨rvSet_c (fun j hj => hv _ _ (by decide)) (fun j hj => hr _ (by omega) (by omega)) hset, rvSky_c (fun j hj => hv _ _ (by decide)) (fun j hj => hv _ _ (by decide)) (hr _ (by omega) (by omega)) (fun k h1 h2 => hr _ (by omega) (by omega)) hsky, fun i hi => ?_, rvCrs_c (fun j hj => hv _ _ (by decide)) (fun k h1 h2 => hr _ (by omega) (by omega)) hcrs, rvMisc_c (fun j h1 h2 => hv _ _ (by decide)) (hr _ (by omega) (by omega)) (hr _ (by omega) (by omega)) (hr _ (by omega) (by omega)) hmisc, rvLog_c (fun j hj => hv _ _ (by decide)) (hr _ (by omega) (by omega)) (hr _ (by omega) (by omega)) (fun k h1 h2 => hr _ (by omega) (by omega)) hlog⟩
  by_cases hin : i = n
  · subst hin; exact h1
  · exact rvNav_c (fun o _ _ => hvn o i hin) (fun f hf => hr _ (by omega) (by omega)) (hnav i hi)
theorem IV_nav {r r' : Nat → Int32} {n : Nat} (hn : n < 7) (hI : IV r) (hr : ∀ k, (k < 31 + 8 * n ∨ 39 + 8 * n ≤ k) → k ≠ 10 → r' k = r k) (h1 : ivNav r' n) (hs : r' 10 = sm7 r') : IV r' := by
  obtain ⟨iset, icrs, isky, inav, isum⟩ := hI
  refine ⟨ivSet_c (fun j hj => hr _ (by omega) (by omega)) iset, ivCrs_c (fun k h1 h2 => hr _ (by omega) (by omega)) icrs, ivSky_c (hr _ (by omega) (by omega)) (fun k h1 h2 => hr _ (by omega) (by omega)) isky, fun i hi => ?_, hs⟩
  by_cases hin : i = n
  · subst hin; exact h1
  · exact ivNav_c (fun f hf => hr _ (by omega) (by omega)) (inav i hi)
theorem sm7_same {r r' : Nat → Int32} {n : Nat} (hn : n < 7) (hr : ∀ k, (k < 31 + 8 * n ∨ 39 + 8 * n ≤ k) → k ≠ 10 → r' k = r k) (h4 : nv r' n 4 = nv r n 4) : sm7 r' = sm7 r := by
  refine sm7_c (fun i hi => ?_)
  by_cases hin : i = n
  · subst hin; exact h4
  · exact hr _ (by omega) (by omega)
theorem sim_sleeps (x : Int32) : SimV (fun b h Q => F_X6_turnSleep b x h Q) (fun h Q => F_X8_sleeps x h Q) := by
  intro b hc v hm r hV hI
  by_cases hx : ∃ n : Nat, n < 7 ∧ x = nI n
  · obtain ⟨n, hn, rfl⟩ := hx
    obtain ⟨a5, a6, a7, a8, a9, a10, a11⟩ := hV.2.2.1 n hn
    obtain ⟨j0, j1, j2, j5, j6, j7⟩ := hI.2.2.2.1 n hn
    have hcl : (nI n).toNatClampNeg = n := clN (by omega)
    have hok : ∀ (w : Int32), w = 0 ∨ w = 1 → RVv (up1 v 11 (upd (v 11) n w)) (upd r (31 + 8 * n + 7) w) ∧ IV (upd r (31 + 8 * n + 7) w) := by
      intro w hw
      have hr : ∀ k, (k < 31 + 8 * n ∨ 39 + 8 * n ≤ k) → k ≠ 10 → upd r (31 + 8 * n + 7) w k = r k := fun k h1 h2 => by rw [upd_n' (by omega)]
      have hf : ∀ g, g < 8 → nv (upd r (31 + 8 * n + 7) w) n g = if g = 7 then w else nv r n g := fun g hg => by rw [nv_upd (by decide) hg]; simp
      refine ⟨RV_nav hn hV (fun o j ho => by rw [up1_n _ _ (by omega)]) (fun o j hj => ?_) hr ?_, IV_nav hn hI hr ?_ ?_⟩
      · by_cases ho : o = 11
        · subst ho; rw [up1_s, upd_n' hj]
        · rw [up1_n _ _ ho]
      · unfold rvNav
        simp only [hf _ (show 0 < 8 by decide), hf _ (show 1 < 8 by decide), hf _ (show 2 < 8 by decide), hf _ (show 3 < 8 by decide), hf _ (show 4 < 8 by decide), hf _ (show 5 < 8 by decide), hf _ (show 6 < 8 by decide), hf _ (show 7 < 8 by decide), up1_s, upd_s']
        exact ⟨a5, a6, a7, a8, a9, a10, rfl⟩
      · unfold ivNav
        simp only [hf _ (show 0 < 8 by decide), hf _ (show 1 < 8 by decide), hf _ (show 2 < 8 by decide), hf _ (show 5 < 8 by decide), hf _ (show 6 < 8 by decide), hf _ (show 7 < 8 by decide), if_true]
        refine ⟨j0, j1, j2, j5, j6, ?_⟩
        rcases hw with rfl | rfl <;> (constructor <;> decide)
      · exact Eq.trans (b := sm7 r) (by rw [upd_n' (by omega)]; exact hI.2.2.2.2) (sm7_same hn hr (hf 4 (by decide))).symm
    have m7 : ∀ (h : Hp) (Q : Int32 → Hp → Prop), F_X8_number (nI n) (7 : Int32) h Q ↔ Q (nv (h 1) n 7) h := fun h Q => num hn (show 7 < 8 by decide)
    have s7 : ∀ (h : Hp) (y : Int32) (Q : Hp → Prop), F_X8_setOf (nI n) (7 : Int32) y h Q ↔ Q (up1 h 1 (upd (h 1) (31 + 8 * n + 7) y)) := fun h y Q => sof hn (show 7 < 8 by decide)
    rcases how3 j7 with e | e | e
    · refine ⟨1, up1 v 11 (upd (v 11) n 1), upd r (31 + 8 * n + 7) 1, fun Q q => ?_, fun Q q => ?_, (hok 1 (Or.inr rfl)).1, (hok 1 (Or.inr rfl)).2, fun h => absurd h (by decide)⟩
      · simp only [F_X6_turnSleep, isNavC_iff, b01_0, hcl, cv_11, cu_11, a11, e, forall_eq, up1_s, upd_s']
        exact bf' (fun z => z (nav_c.mpr ⟨n, hn, rfl⟩)) ⟨vpn hn (by decide), bf' (by simp) ⟨vpn hn (by decide), bf' (by simp) ⟨vpn hn (by decide), vpn hn (by decide), bt' (by simp) q⟩⟩⟩
      · simp only [F_X8_sleeps, isNavM_iff, b01_0, m7, s7, up1_1, up1_up1, e, nv_upd (show 7 < 8 by decide) (show 7 < 8 by decide)]
        exact bf' (fun z => z (nav_c.mpr ⟨n, hn, rfl⟩)) (bf' (by simp) q)
    · refine ⟨0, up1 v 11 (upd (v 11) n 0), upd r (31 + 8 * n + 7) 0, fun Q q => ?_, fun Q q => ?_, (hok 0 (Or.inl rfl)).1, (hok 0 (Or.inl rfl)).2, fun h => absurd h (by decide)⟩
      · simp only [F_X6_turnSleep, isNavC_iff, b01_0, hcl, cv_11, cu_11, a11, e, forall_eq, up1_s, upd_s']
        exact bf' (fun z => z (nav_c.mpr ⟨n, hn, rfl⟩)) ⟨vpn hn (by decide), bf' (by simp) ⟨vpn hn (by decide), bt' (by simp) ⟨vpn hn (by decide), vpn hn (by decide), bf' (by simp) q⟩⟩⟩
      · simp only [F_X8_sleeps, isNavM_iff, b01_0, m7, s7, up1_1, up1_up1, e, nv_upd (show 7 < 8 by decide) (show 7 < 8 by decide)]
        exact bf' (fun z => z (nav_c.mpr ⟨n, hn, rfl⟩)) (bf' (by simp) q)
    · refine ⟨-5, v, r, fun Q q => ?_, fun Q q => ?_, hV, hI, fun _ => ⟨rfl, rfl⟩⟩
      · simp only [F_X6_turnSleep, isNavC_iff, b01_0, hcl, cv_11, a11, e]
        exact bf' (fun z => z (nav_c.mpr ⟨n, hn, rfl⟩)) ⟨vpn hn (by decide), bt' (by simp) q⟩
      · simp only [F_X8_sleeps, isNavM_iff, b01_0, m7, up1_1, e]
        exact bf' (fun z => z (nav_c.mpr ⟨n, hn, rfl⟩)) (bt' (by simp) q)
  · refine ⟨-1, v, r, fun Q q => ?_, fun Q q => ?_, hV, hI, fun _ => ⟨rfl, rfl⟩⟩
    · simp only [F_X6_turnSleep, isNavC_iff, b01_0]
      exact bt' (fun z => hx (nav_c.mp z)) q
    · simp only [F_X8_sleeps, isNavM_iff, b01_0]
      exact bt' (fun z => hx (nav_c.mp z)) q
