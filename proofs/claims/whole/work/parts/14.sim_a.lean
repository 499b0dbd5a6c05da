theorem cu_0 {b : Nat} {h : Hp} {v : Nat → Nat → Int32} {f : Nat → Int32} : up1 (cv b h v) b f = cv b h (up1 v 0 f) := cv_up0 f
theorem cv_1 {b : Nat} {h : Hp} {v : Nat → Nat → Int32} : cv b h v (b + 1) = v 1 := cv_at (by decide)
theorem cu_1 {b : Nat} {h : Hp} {v : Nat → Nat → Int32} {f : Nat → Int32} : up1 (cv b h v) (b + 1) f = cv b h (up1 v 1 f) := cv_up (by decide) f
theorem cv_2 {b : Nat} {h : Hp} {v : Nat → Nat → Int32} : cv b h v (b + 2) = v 2 := cv_at (by decide)
theorem cu_2 {b : Nat} {h : Hp} {v : Nat → Nat → Int32} {f : Nat → Int32} : up1 (cv b h v) (b + 2) f = cv b h (up1 v 2 f) := cv_up (by decide) f
theorem cv_3 {b : Nat} {h : Hp} {v : Nat → Nat → Int32} : cv b h v (b + 3) = v 3 := cv_at (by decide)
theorem cu_3 {b : Nat} {h : Hp} {v : Nat → Nat → Int32} {f : Nat → Int32} : up1 (cv b h v) (b + 3) f = cv b h (up1 v 3 f) := cv_up (by decide) f
theorem cv_4 {b : Nat} {h : Hp} {v : Nat → Nat → Int32} : cv b h v (b + 4) = v 4 := cv_at (by decide)
theorem cu_4 {b : Nat} {h : Hp} {v : Nat → Nat → Int32} {f : Nat → Int32} : up1 (cv b h v) (b + 4) f = cv b h (up1 v 4 f) := cv_up (by decide) f
theorem cv_5 {b : Nat} {h : Hp} {v : Nat → Nat → Int32} : cv b h v (b + 5) = v 5 := cv_at (by decide)
theorem cu_5 {b : Nat} {h : Hp} {v : Nat → Nat → Int32} {f : Nat → Int32} : up1 (cv b h v) (b + 5) f = cv b h (up1 v 5 f) := cv_up (by decide) f
theorem cv_6 {b : Nat} {h : Hp} {v : Nat → Nat → Int32} : cv b h v (b + 6) = v 6 := cv_at (by decide)
theorem cu_6 {b : Nat} {h : Hp} {v : Nat → Nat → Int32} {f : Nat → Int32} : up1 (cv b h v) (b + 6) f = cv b h (up1 v 6 f) := cv_up (by decide) f
theorem cv_7 {b : Nat} {h : Hp} {v : Nat → Nat → Int32} : cv b h v (b + 7) = v 7 := cv_at (by decide)
theorem cu_7 {b : Nat} {h : Hp} {v : Nat → Nat → Int32} {f : Nat → Int32} : up1 (cv b h v) (b + 7) f = cv b h (up1 v 7 f) := cv_up (by decide) f
theorem cv_8 {b : Nat} {h : Hp} {v : Nat → Nat → Int32} : cv b h v (b + 8) = v 8 := cv_at (by decide)
theorem cu_8 {b : Nat} {h : Hp} {v : Nat → Nat → Int32} {f : Nat → Int32} : up1 (cv b h v) (b + 8) f = cv b h (up1 v 8 f) := cv_up (by decide) f
theorem cv_9 {b : Nat} {h : Hp} {v : Nat → Nat → Int32} : cv b h v (b + 9) = v 9 := cv_at (by decide)
theorem cu_9 {b : Nat} {h : Hp} {v : Nat → Nat → Int32} {f : Nat → Int32} : up1 (cv b h v) (b + 9) f = cv b h (up1 v 9 f) := cv_up (by decide) f
theorem cv_10 {b : Nat} {h : Hp} {v : Nat → Nat → Int32} : cv b h v (b + 10) = v 10 := cv_at (by decide)
theorem cu_10 {b : Nat} {h : Hp} {v : Nat → Nat → Int32} {f : Nat → Int32} : up1 (cv b h v) (b + 10) f = cv b h (up1 v 10 f) := cv_up (by decide) f
theorem cv_11 {b : Nat} {h : Hp} {v : Nat → Nat → Int32} : cv b h v (b + 11) = v 11 := cv_at (by decide)
theorem cu_11 {b : Nat} {h : Hp} {v : Nat → Nat → Int32} {f : Nat → Int32} : up1 (cv b h v) (b + 11) f = cv b h (up1 v 11 f) := cv_up (by decide) f
theorem cv_12 {b : Nat} {h : Hp} {v : Nat → Nat → Int32} : cv b h v (b + 12) = v 12 := cv_at (by decide)
theorem cu_12 {b : Nat} {h : Hp} {v : Nat → Nat → Int32} {f : Nat → Int32} : up1 (cv b h v) (b + 12) f = cv b h (up1 v 12 f) := cv_up (by decide) f
theorem cv_13 {b : Nat} {h : Hp} {v : Nat → Nat → Int32} : cv b h v (b + 13) = v 13 := cv_at (by decide)
theorem cu_13 {b : Nat} {h : Hp} {v : Nat → Nat → Int32} {f : Nat → Int32} : up1 (cv b h v) (b + 13) f = cv b h (up1 v 13 f) := cv_up (by decide) f
theorem cv_14 {b : Nat} {h : Hp} {v : Nat → Nat → Int32} : cv b h v (b + 14) = v 14 := cv_at (by decide)
theorem cu_14 {b : Nat} {h : Hp} {v : Nat → Nat → Int32} {f : Nat → Int32} : up1 (cv b h v) (b + 14) f = cv b h (up1 v 14 f) := cv_up (by decide) f
theorem up1_1 (h : Hp) (r : Nat → Int32) : up1 h 1 r 1 = r := up1_s h 1 r
theorem rngN {x : Int32} {n : Nat} (h : rng x 0 n) (hn : n < 2 ^ 31) : ∃ k : Nat, k ≤ n ∧ x = nI k := by
  refine ⟨x.toInt.toNat, by have := h.2; have := h.1; omega, ?_⟩
  rw [fa_eq, nI_toInt (by have := h.2; have := h.1; omega)]
  have := h.1
  omega
theorem rvSet_c {v v' : Nat → Nat → Int32} {r r' : Nat → Int32} (hv : ∀ j, j < 4 → v' 1 j = v 1 j) (hr : ∀ k, k < 4 → r' k = r k) (h : rvSet v r) : rvSet v' r' := fun j hj => by rw [hv j hj, hr j hj]; exact h j hj
theorem rvSky_c {v v' : Nat → Nat → Int32} {r r' : Nat → Int32} (h2 : ∀ j, j < 2 → v' 2 j = v 2 j) (h3 : ∀ s, s < 8 → v' 3 s = v 3 s) (h13 : r' 13 = r 13) (hr : ∀ k, 15 ≤ k → k < 31 → r' k = r k) (h : rvSky v r) : rvSky v' r' := by
  obtain ⟨a, ⟨m, hm, e, c⟩, d⟩ := h
  exact ⟨by rw [h2 0 (by decide), h13]; exact a, ⟨m, hm, by rw [h2 1 (by decide)]; exact e, fun s hs => by rw [hr _ (by omega) (by omega)]; exact c s hs⟩, fun s hs => by rw [h3 s hs, hr _ (by omega) (by omega)]; exact d s hs⟩
theorem rvNav_c {v v' : Nat → Nat → Int32} {r r' : Nat → Int32} {n : Nat} (hv : ∀ o, 5 ≤ o → o ≤ 11 → v' o n = v o n) (hr : ∀ f, f < 8 → nv r' n f = nv r n f) (h : rvNav v r n) : rvNav v' r' n := by
  obtain ⟨a5, a6, a7, a8, a9, a10, a11⟩ := h
  exact ⟨by rw [hv 5 (by decide) (by decide), hr 0 (by decide)]; exact a5, by rw [hv 6 (by decide) (by decide), hr 1 (by decide)]; exact a6, by rw [hv 7 (by decide) (by decide), hr 2 (by decide)]; exact a7, by rw [hv 8 (by decide) (by decide), hr 3 (by decide)]; exact a8, by rw [hv 9 (by decide) (by decide), hr 4 (by decide)]; exact a9, by rw [hv 10 (by decide) (by decide), hr 5 (by decide), hr 6 (by decide)]; exact a10, by rw [hv 11 (by decide) (by decide), hr 7 (by decide)]; exact a11⟩
theorem rvCrs_c {v v' : Nat → Nat → Int32} {r r' : Nat → Int32} (hv : ∀ j, j < 4 → v' 12 j = v 12 j) (hr : ∀ k, 4 ≤ k → k < 9 → r' k = r k) (h : rvCrs v r) : rvCrs v' r' := by
  obtain ⟨a, b, c, d⟩ := h
  exact ⟨by rw [hv 0 (by decide), hr 4 (by decide) (by decide)]; exact a, by rw [hv 1 (by decide), hr 5 (by decide) (by decide), hr 6 (by decide) (by decide)]; exact b, by rw [hv 2 (by decide), hr 7 (by decide) (by decide)]; exact c, by rw [hv 3 (by decide), hr 8 (by decide) (by decide)]; exact d⟩
theorem rvMisc_c {v v' : Nat → Nat → Int32} {r r' : Nat → Int32} (hv : ∀ j, 5 ≤ j → j < 8 → v' 0 j = v 0 j) (h9 : r' 9 = r 9) (h11 : r' 11 = r 11) (h12 : r' 12 = r 12) (h : rvMisc v r) : rvMisc v' r' := by
  obtain ⟨a, b, c⟩ := h
  exact ⟨by rw [hv 5 (by decide) (by decide), h9]; exact a, by rw [hv 6 (by decide) (by decide), h11]; exact b, by rw [hv 7 (by decide) (by decide), h12]; exact c⟩
theorem rvLog_c {v v' : Nat → Nat → Int32} {r r' : Nat → Int32} (hv : ∀ j, j < 32 → v' 14 j = v 14 j) (h9 : r' 9 = r 9) (h14 : r' 14 = r 14) (hr : ∀ k, 87 ≤ k → k < 119 → r' k = r k) (h : rvLog v r) : rvLog v' r' := by
  obtain ⟨nt, a, b, c, d⟩ := h
  refine ⟨nt, a, by rw [h9]; exact b, by rw [h14]; exact c, fun j k hj hk => ?_⟩
  have : (nt - 1 - j) % 8 < 8 := Nat.mod_lt _ (by decide)
  rw [hv _ (by omega), hr _ (by omega) (by omega)]
  exact d j k hj hk
theorem ivSet_c {r r' : Nat → Int32} (hr : ∀ k, k < 4 → r' k = r k) (h : ivSet r) : ivSet r' := by
  unfold ivSet; rw [hr 0 (by decide), hr 1 (by decide), hr 2 (by decide), hr 3 (by decide)]; exact h
theorem ivCrs_c {r r' : Nat → Int32} (hr : ∀ k, 4 ≤ k → k < 9 → r' k = r k) (h : ivCrs r) : ivCrs r' := by
  unfold ivCrs; rw [hr 4 (by decide) (by decide), hr 5 (by decide) (by decide), hr 6 (by decide) (by decide), hr 7 (by decide) (by decide), hr 8 (by decide) (by decide)]; exact h
theorem ivSky_c {r r' : Nat → Int32} (h13 : r' 13 = r 13) (hr : ∀ k, 15 ≤ k → k < 23 → r' k = r k) (h : ivSky r) : ivSky r' :=
  ⟨by rw [h13]; exact h.1, fun s hs => by rw [hr _ (by omega) (by omega)]; exact h.2 s hs⟩
theorem ivNav_c {r r' : Nat → Int32} {n : Nat} (hr : ∀ f, f < 8 → nv r' n f = nv r n f) (h : ivNav r n) : ivNav r' n := by
  unfold ivNav; rw [hr 0 (by decide), hr 1 (by decide), hr 2 (by decide), hr 5 (by decide), hr 6 (by decide), hr 7 (by decide)]; exact h
theorem sm7_c {r r' : Nat → Int32} (hr : ∀ n, n < 7 → nv r' n 4 = nv r n 4) : sm7 r' = sm7 r := by
  unfold sm7; rw [hr 0 (by decide), hr 1 (by decide), hr 2 (by decide), hr 3 (by decide), hr 4 (by decide), hr 5 (by decide), hr 6 (by decide)]
theorem nv_c {r r' : Nat → Int32} {n : Nat} (hn : n < 7) (hr : ∀ k, 31 ≤ k → k < 87 → r' k = r k) : ∀ f, f < 8 → nv r' n f = nv r n f := fun f hf => hr _ (by omega) (by omega)
/-- a change of the voyage: the class's method B and the reference's Bm answer alike and keep alike -/
def SimV (B : Nat → Hp → (Int32 → Hp → Prop) → Prop) (Bm : Hp → (Int32 → Hp → Prop) → Prop) : Prop := ∀ (b : Nat) (hc : Hp) (v : Nat → Nat → Int32) (hm : Hp) (r : Nat → Int32), RVv v r → IV r → ∃ (x : Int32) (v' : Nat → Nat → Int32) (r' : Nat → Int32), (∀ Q : Int32 → Hp → Prop, Q x (cv b hc v') → B b (cv b hc v) Q) ∧ (∀ Q : Int32 → Hp → Prop, Q x (up1 hm 1 r') → Bm (up1 hm 1 r) Q) ∧ RVv v' r' ∧ IV r' ∧ (x < 0 → v' = v ∧ r' = r)
theorem ix15 (k : Nat) : (15 : Int32) + nI k = nI (15 + k) := nI_add 15 k
theorem ix23 (k : Nat) : (23 : Int32) + nI k = nI (23 + k) := nI_add 23 k
theorem rng_in {x lo hi : Int32} (h : lo ≤ x ∧ x ≤ hi) {l u : Int} (hl : lo.toInt = l) (hu : hi.toInt = u) : rng x l u := by
  have h1 := (fa_le _ _).mp h.1
  have h2 := (fa_le _ _).mp h.2
  exact ⟨by omega, by omega⟩
theorem sim_comes (x : Int32) : SimV (fun b h Q => F_X6_addStar b x h Q) (fun h Q => F_X8_comes x h Q) := by
  intro b hc v hm r hV hI
  obtain ⟨hset, ⟨hst, hcl, hdec⟩, hnav, hcrs, hmisc, hlog⟩ := id hV
  obtain ⟨iset, icrs, ⟨isk, idec⟩, inav, isum⟩ := id hI
  by_cases hx : -5400 ≤ x ∧ x ≤ 5400
  · obtain ⟨k, hk, ek⟩ := rngN (n := 8) isk (by decide)
    by_cases hk8 : k = 8
    · refine ⟨-4, v, r, fun Q q => ?_, fun Q q => ?_, hV, hI, fun _ => ⟨rfl, rfl⟩⟩
      · simp only [F_X6_addStar, isOnEarth_iff, b01_0, cv_2]
        refine bf' (fun z => z hx) (bf' ?_ q)
        rw [hst, ek, hk8]; decide
      · simp only [F_X8_comes, isLatitude_iff, b01_0, up1_1]
        refine bf' (fun z => z hx) (bt' ?_ q)
        rw [ek, hk8]; rfl
    · have hk7 : k < 8 := by omega
      refine ⟨nI k, up1 (up1 v 3 (upd (v 3) k x)) 2 (upd (v 2) 0 (nI (k + 1))), upd (upd r (15 + k) x) 13 (nI (k + 1)), fun Q q => ?_, fun Q q => ?_, ?_, ?_, fun h => absurd h (nI_pos (by omega))⟩
      · simp only [F_X6_addStar, isOnEarth_iff, b01_0, cv_2, hst, ek]
        refine bf' (fun z => z hx) (bt' ?_ ⟨vpn hk7 (by decide), ?_⟩)
        · rw [show (8 : Int32) = nI 8 from rfl, nI_ltI (by omega) (by decide)]; exact hk7
        · intro h5 e5
          simp only [clN (show k < 2 ^ 31 by omega), cv_3, cu_3] at e5
          subst e5
          intro h7 e7
          simp only [cv_2, cu_2, up1_n v _ (show (2 : Nat) ≠ 3 by decide), hst, ek, nI_1] at e7
          subst e7
          simp only [cv_2, up1_s, upd_s', pk_sub (show 1 ≤ k + 1 by omega)]
          rw [show nI (k + 1) - 1 = nI k from nI_pred k]
          exact q
      · simp only [F_X8_comes, isLatitude_iff, b01_0, up1_1, ek]
        refine bf' (fun z => z hx) (bf' ?_ ⟨by rw [ix15]; exact vpn (by omega) (by decide), ?_⟩)
        · rw [show (8 : Int32) = nI 8 from rfl, nI_eq (by omega) (by decide)]; exact hk8
        · intro h5 e5
          simp only [ix15, clN (show 15 + k < 2 ^ 31 by omega), up1_1, up1_up1] at e5
          subst e5
          intro h7 e7
          simp only [up1_1, up1_up1, upd_n' (show (13 : Nat) ≠ 15 + k by omega), ek, nI_1] at e7
          subst e7
          simp only [up1_1, upd_s']
          rw [show nI (k + 1) - 1 = nI k from nI_pred k]
          exact q
      · refine ⟨rvSet_c (fun j hj => rfl) (fun j hj => by rw [upd_n' (by omega), upd_n' (by omega)]) hset, ⟨?_, ?_, ?_⟩, fun n hn => rvNav_c (fun o h1 h2 => by rw [up1_n _ _ (by omega), up1_n _ _ (by omega)]) (nv_c hn (fun k h1 h2 => by rw [upd_n' (by omega), upd_n' (by omega)])) (hnav n hn), rvCrs_c (fun j hj => rfl) (fun k h1 h2 => by rw [upd_n' (by omega), upd_n' (by omega)]) hcrs, rvMisc_c (fun j h1 h2 => rfl) (by rw [upd_n' (by omega), upd_n' (by omega)]) (by rw [upd_n' (by omega), upd_n' (by omega)]) (by rw [upd_n' (by omega), upd_n' (by omega)]) hmisc, rvLog_c (fun j hj => rfl) (by rw [upd_n' (by omega), upd_n' (by omega)]) (by rw [upd_n' (by omega), upd_n' (by omega)]) (fun k h1 h2 => by rw [upd_n' (by omega), upd_n' (by omega)]) hlog⟩
        · rw [up1_s, upd_s', upd_s']
        · obtain ⟨m, hm2, em, hb⟩ := hcl
          refine ⟨m, hm2, by rw [up1_s, upd_n' (by decide)]; exact em, fun s hs => ?_⟩
          rw [upd_n' (by omega), upd_n' (by omega)]
          exact hb s hs
        · intro s hs
          rw [up1_n _ _ (by decide), up1_s, upd_n' (show 15 + s ≠ 13 by omega)]
          by_cases h1 : s = k
          · subst h1; rw [upd_s', upd_s']
          · rw [upd_n' h1, upd_n' (by omega)]; exact hdec s hs
      · refine ⟨ivSet_c (fun j hj => by rw [upd_n' (by omega), upd_n' (by omega)]) iset, ivCrs_c (fun k h1 h2 => by rw [upd_n' (by omega), upd_n' (by omega)]) icrs, ⟨?_, fun s hs => ?_⟩, fun n hn => ivNav_c (nv_c hn (fun k h1 h2 => by rw [upd_n' (by omega), upd_n' (by omega)])) (inav n hn), ?_⟩
        · rw [upd_s']; unfold rng; rw [nI_toInt (by omega)]; omega
        · rw [upd_n' (show 15 + s ≠ 13 by omega)]
          by_cases h1 : s = k
          · subst h1; rw [upd_s']; exact rng_in hx (by decide) (by decide)
          · rw [upd_n' (by omega)]; exact idec s hs
        · exact Eq.trans (b := sm7 r) (by rw [upd_n' (by omega), upd_n' (by omega)]; exact isum) (sm7_c (fun n hn => nv_c hn (fun k h1 h2 => by rw [upd_n' (by omega), upd_n' (by omega)]) 4 (by decide))).symm
  · refine ⟨-2, v, r, fun Q q => ?_, fun Q q => ?_, hV, hI, fun _ => ⟨rfl, rfl⟩⟩
    · simp only [F_X6_addStar, isOnEarth_iff, b01_0]
      exact bt' hx q
    · simp only [F_X8_comes, isLatitude_iff, b01_0]
      exact bt' hx q
theorem sim_aims (x : Int32) : SimV (fun b h Q => F_X6_changeGoal b x h Q) (fun h Q => F_X8_aims x h Q) := by
  intro b hc v hm r hV hI
  obtain ⟨hset, hsky, hnav, ⟨c0, c1, c2, c3⟩, hmisc, hlog⟩ := id hV
  obtain ⟨iset, ⟨i4, i5, i6, i7, i8⟩, isky, inav, isum⟩ := id hI
  by_cases hx : -5400 ≤ x ∧ x ≤ 5400
  · refine ⟨r 7 + 5400, up1 v 12 (upd (v 12) 2 x), upd r 7 x, fun Q q => ?_, fun Q q => ?_, ?_, ?_, fun h => ?_⟩
    · simp only [F_X6_changeGoal, isOnEarth_iff, b01_0, cv_12, cu_12, forall_eq, c2]
      exact bf' (fun z => z hx) q
    · simp only [F_X8_aims, isLatitude_iff, b01_0, up1_1, up1_up1, forall_eq]
      exact bf' (fun z => z hx) q
    · refine ⟨rvSet_c (fun j hj => rfl) (fun j hj => by rw [upd_n' (by omega)]) hset, rvSky_c (fun j hj => rfl) (fun j hj => rfl) (by rw [upd_n' (by omega)]) (fun k h1 h2 => by rw [upd_n' (by omega)]) hsky, fun n hn => rvNav_c (fun o h1 h2 => by rw [up1_n _ _ (by omega)]) (nv_c hn (fun k h1 h2 => by rw [upd_n' (by omega)])) (hnav n hn), ⟨?_, ?_, ?_, ?_⟩, rvMisc_c (fun j h1 h2 => rfl) (by rw [upd_n' (by omega)]) (by rw [upd_n' (by omega)]) (by rw [upd_n' (by omega)]) hmisc, rvLog_c (fun j hj => rfl) (by rw [upd_n' (by omega)]) (by rw [upd_n' (by omega)]) (fun k h1 h2 => by rw [upd_n' (by omega)]) hlog⟩
      · rw [up1_s, upd_n' (by decide), upd_n' (by decide)]; exact c0
      · rw [up1_s, upd_n' (by decide), upd_n' (by decide), upd_n' (by decide)]; exact c1
      · rw [up1_s, upd_s', upd_s']
      · rw [up1_s, upd_n' (by decide), upd_n' (by decide)]; exact c3
    · refine ⟨ivSet_c (fun j hj => by rw [upd_n' (by omega)]) iset, ⟨by rw [upd_n' (by decide)]; exact i4, by rw [upd_n' (by decide)]; exact i5, by rw [upd_n' (by decide)]; exact i6, by rw [upd_s']; exact rng_in hx (by decide) (by decide), by rw [upd_n' (by decide)]; exact i8⟩, ivSky_c (by rw [upd_n' (by decide)]) (fun k h1 h2 => by rw [upd_n' (by omega)]) isky, fun n hn => ivNav_c (nv_c hn (fun k h1 h2 => by rw [upd_n' (by omega)])) (inav n hn), ?_⟩
      exact Eq.trans (b := sm7 r) (by rw [upd_n' (by omega)]; exact isum) (sm7_c (fun n hn => nv_c hn (fun k h1 h2 => by rw [upd_n' (by omega)]) 4 (by decide))).symm
    · exfalso
      rw [fa_lt, fb_addI (by have := i7.1; have := i7.2; rw [show (5400 : Int32).toInt = 5400 by decide]; omega) (by have := i7.1; have := i7.2; rw [show (5400 : Int32).toInt = 5400 by decide]; omega), show (5400 : Int32).toInt = 5400 by decide, show (0 : Int32).toInt = 0 by decide] at h
      have := i7.1
      omega
  · refine ⟨-2, v, r, fun Q q => ?_, fun Q q => ?_, hV, hI, fun _ => ⟨rfl, rfl⟩⟩
    · simp only [F_X6_changeGoal, isOnEarth_iff, b01_0]
      exact bt' hx q
    · simp only [F_X8_aims, isLatitude_iff, b01_0]
      exact bt' hx q
