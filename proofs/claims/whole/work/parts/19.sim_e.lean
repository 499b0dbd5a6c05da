/-! Sailing. -/
def hvs : Nat → (Nat → Nat → Int32) → (Nat → Nat → Int32)
  | 0, v => v
  | n + 1, v => hvs n (hv v)
def hrs : Nat → (Nat → Int32) → (Nat → Int32)
  | 0, r => r
  | n + 1, r => hrs n (hourM r)
theorem sailC {b X : Nat} {hc : Hp} {Q : Int32 → Hp → Prop} (hX : X ≤ 99) : ∀ (m j : Nat) (v : Nat → Nat → Int32), j + m = X → Q (hvs m v 12 0 + 5400) (cv b hc (hvs m v)) → F_X6_sailHours_L34 b (m + 1) (nI X) (nI j) (cv b hc v) Q := by
  intro m
  induction m with
  | zero =>
    intro j v e q
    refine bt' ?_ ?_
    · rw [nI_leI (by omega) (by omega)]; omega
    · simp only [cv_12]; exact q
  | succ m ih =>
    intro j v e q
    refine bf' ?_ (hourC_run ?_)
    · rw [nI_leI (by omega) (by omega)]; omega
    · intro x hx
      rw [hx, nI_1, cv_12, cv_1, cu_12]
      exact ih (j + 1) (hv v) (by omega) q
theorem sailM {X : Nat} {hm : Hp} {Q : Int32 → Hp → Prop} (hX : X ≤ 99) : ∀ (m j : Nat) (r : Nat → Int32), j + m = X → rng (r 1) 0 30 → ivC r → Q (hrs m r 4 + 5400) (up1 hm 1 (hrs m r)) → F_X8_sails_L33 (m + 1) (nI X) (nI j) (up1 hm 1 r) Q := by
  intro m
  induction m with
  | zero =>
    intro j r e hp hC q
    refine bt' ?_ ?_
    · rw [nI_leI (by omega) (by omega)]; omega
    · rw [up1_1]; exact q
  | succ m ih =>
    intro j r e hp hC q
    refine bf' ?_ (hourM_run hp hC ?_)
    · rw [nI_leI (by omega) (by omega)]; omega
    · intro x hx
      rw [hx, nI_1]
      exact ih (j + 1) (hourM r) (by omega) (by rw [hour_out (by decide)]; exact hp) (hour_ivC hC) q
theorem hrs_out : ∀ (m : Nat) (r : Nat → Int32) (k : Nat), (k ≠ 4 ∧ k ≠ 6 ∧ k ≠ 8) → hrs m r k = r k
  | 0, _, _, _ => rfl
  | m + 1, r, k, h => (hrs_out m (hourM r) k h).trans (hour_out h)
theorem hourM_8 (r : Nat → Int32) : hourM r 8 = r 8 + 1 := by unfold hourM; rw [upd_s']
theorem hrs_8 : ∀ (m H : Nat) (r : Nat → Int32), r 8 = nI H → hrs m r 8 = nI (H + m)
  | 0, _, _, h => h
  | m + 1, H, r, h => by
    show hrs m (hourM r) 8 = nI (H + (m + 1))
    rw [hrs_8 m (H + 1) (hourM r) (by rw [hourM_8, h, nI_1]), show H + 1 + m = H + (m + 1) by omega]
theorem hrs_RV : ∀ (m : Nat) (v : Nat → Nat → Int32) (r : Nat → Int32), RVv v r → ivC r → RVv (hvs m v) (hrs m r) ∧ ivC (hrs m r)
  | 0, _, _, h, hC => ⟨h, hC⟩
  | m + 1, v, r, h, hC => hrs_RV m (hv v) (hourM r) (hour_RV h hC) (hour_ivC hC)
theorem ivCrs_C {r : Nat → Int32} (h : ivCrs r) : ivC r := ⟨h.1, h.2.1, h.2.2.1, h.2.2.2.1⟩
theorem hrs_IV {m H : Nat} {r : Nat → Int32} (hI : IV r) (e : r 8 = nI H) (hH : H + m ≤ 9999) (hC : ivC (hrs m r)) : IV (hrs m r) := by
  obtain ⟨iset, icrs, isky, inav, isum⟩ := hI
  refine ⟨ivSet_c (fun j hj => hrs_out _ _ _ (by omega)) iset, ⟨hC.1, hC.2.1, hC.2.2.1, hC.2.2.2, ?_⟩, ivSky_c (hrs_out _ _ _ (by omega)) (fun k h1 h2 => hrs_out _ _ _ (by omega)) isky, fun n hn => ivNav_c (nv_c hn (fun k h1 h2 => hrs_out _ _ _ (by omega))) (inav n hn), ?_⟩
  · rw [hrs_8 m H r e]; unfold rng; rw [nI_toInt (by omega)]; omega
  · exact Eq.trans (b := sm7 r) (by rw [hrs_out _ _ _ (by omega)]; exact isum) (sm7_c (fun n hn => nv_c hn (fun k h1 h2 => hrs_out _ _ _ (by omega)) 4 (by decide))).symm
theorem sim_sails (x : Int32) : SimV (fun b h Q => F_X6_sailHours b x h Q) (fun h Q => F_X8_sails x h Q) := by
  intro b hc v hm r hV hI
  have hc3 : v 12 3 = r 8 := hV.2.2.2.1.2.2.2
  by_cases h1 : x < 1
  · refine ⟨-2, v, r, fun Q q => bt' h1 q, fun Q q => ?_, hV, hI, fun _ => ⟨rfl, rfl⟩⟩
    simp only [F_X8_sails, within_iff, b01_0]
    exact bt' (fun z => nle.mpr h1 z.1) q
  · by_cases h2 : x ≤ 99
    · obtain ⟨X, hX, rfl⟩ := ofN (x := x) (M := 99) (n := 99) (by decide) ⟨by have := nlt.mp h1; rw [fa_le] at this ⊢; rw [show (1 : Int32).toInt = 1 by decide] at this; rw [show (0 : Int32).toInt = 0 by decide]; omega, h2⟩
      obtain ⟨H, hH, eH⟩ := rngN (n := 9999) hI.2.1.2.2.2.2 (by decide)
      have hX1 : 1 ≤ X := by
        rw [show (1 : Int32) = nI 1 from rfl, nI_ltI (by omega) (by decide)] at h1; omega
      have hle : (r 8 + nI X ≤ 9999) ↔ H + X ≤ 9999 := by
        rw [eH, nI_add, show (9999 : Int32) = nI 9999 from rfl, nI_leI (by omega) (by decide)]
      by_cases h3 : H + X ≤ 9999
      · have hb := hrs_RV X v r hV (ivCrs_C hI.2.1)
        refine ⟨hrs X r 4 + 5400, hvs X v, hrs X r, fun Q q => ?_, fun Q q => ?_, hb.1, hrs_IV hI eH h3 hb.2, fun h => absurd h (told_nn hb.2.1)⟩
        · refine bf' h1 (bt' h2 (bt' ?_ ⟨X + 1, ?_⟩))
          · rw [cv_12, hc3]; exact hle.mpr h3
          · refine sailC hX X 0 v (by omega) ?_
            rw [show hvs X v 12 0 = hrs X r 4 from hb.1.2.2.2.1.1]
            exact q
        · simp only [F_X8_sails, within_iff, b01_0, up1_1]
          refine bf' (fun z => z ⟨nlt.mp h1, h2⟩) (bt' (hle.mpr h3) ⟨X + 1, ?_⟩)
          exact sailM hX X 0 r (by omega) hI.1.2.1 (ivCrs_C hI.2.1) q
      · refine ⟨-5, v, r, fun Q q => bf' h1 (bt' h2 (bf' ?_ q)), fun Q q => ?_, hV, hI, fun _ => ⟨rfl, rfl⟩⟩
        · rw [cv_12, hc3]; exact fun z => h3 (hle.mp z)
        · simp only [F_X8_sails, within_iff, b01_0, up1_1]
          exact bf' (fun z => z ⟨nlt.mp h1, h2⟩) (bf' (fun z => h3 (hle.mp z)) q)
    · refine ⟨-2, v, r, fun Q q => bf' h1 (bf' h2 q), fun Q q => ?_, hV, hI, fun _ => ⟨rfl, rfl⟩⟩
      simp only [F_X8_sails, within_iff, b01_0]
      exact bt' (fun z => h2 z.2) q

/-! The end of a night. -/
def shl (i : Nat) (r : Nat → Int32) : Nat → Int32 := fun k => if 87 + i < k ∧ k < 119 then r (k - 4) else r k
theorem shl_step {i : Nat} {r : Nat → Int32} (h : 4 ≤ i) (h2 : i ≤ 31) : upd (shl i r) (87 + i) (shl i r (83 + i)) = shl (i - 1) r := by
  funext k
  by_cases h1 : k = 87 + i
  · subst h1
    rw [upd_s']
    unfold shl
    rw [if_neg (by omega), if_pos (by omega), show 87 + i - 4 = 83 + i by omega]
  · rw [upd_n' h1]
    unfold shl
    by_cases h3 : 87 + i < k ∧ k < 119
    · rw [if_pos h3, if_pos (by omega)]
    · rw [if_neg h3, if_neg (by omega)]
theorem shl_31 (r : Nat → Int32) : shl 31 r = r := by
  funext k
  unfold shl
  rw [if_neg (by omega)]
theorem endsM1 {hm : Hp} {r : Nat → Int32} {Q : Int32 → Hp → Prop} (q : F_X8_ends_L19 1 (nI 3) (up1 hm 1 (shl 3 r)) Q) : ∀ m : Nat, m ≤ 28 → F_X8_ends_L19 (m + 1) (nI (m + 3)) (up1 hm 1 (shl (m + 3) r)) Q
  | 0, _ => q
  | m + 1, hm2 => by
    have ei : (87 : Int32) + nI (m + 1 + 3) = nI (87 + (m + 1 + 3)) := nI_add 87 _
    have ej : nI (87 + (m + 1 + 3)) - 4 = nI (83 + (m + 1 + 3)) := (pk_sub (b := 4) (show 4 ≤ 87 + (m + 1 + 3) by omega)).trans (by rw [show 87 + (m + 1 + 3) - 4 = 83 + (m + 1 + 3) by omega])
    refine bf' ?_ ?_
    · rw [show (3 : Int32) = nI 3 from rfl, nI_leI (by omega) (by decide)]; omega
    · rw [ei, ej]
      refine ⟨vpn (by omega) (by decide), vpn (by omega) (by decide), fun h e x ex => ?_⟩
      rw [clN (by omega), clN (by omega), up1_1, up1_up1, shl_step (by omega) (by omega)] at e
      rw [ex, e, show m + 1 + 3 = m + 3 + 1 by omega, pk_m1]
      exact endsM1 q m (by omega)
def eP (i : Nat) (r r' : Nat → Int32) : Prop := (∀ k, k < 31 ∨ 87 ≤ k → r' k = r k) ∧ ∀ n f, n < 7 → f < 8 → nv r' n f = if n < i ∧ (f = 5 ∨ f = 6 ∨ ((f = 3 ∨ f = 7) ∧ nv r n 7 = 2)) then 0 else nv r n f
theorem f8 {f : Nat} (h : f < 8) : f = 0 ∨ f = 1 ∨ f = 2 ∨ f = 3 ∨ f = 4 ∨ f = 5 ∨ f = 6 ∨ f = 7 := by omega
theorem eP_2 {i : Nat} {r r' : Nat → Int32} (hi : i < 7) (h : eP i r r') (h2 : nv r i 7 = 2) : eP (i + 1) r (upd (upd (upd (upd r' (31 + 8 * i + 5) 0) (31 + 8 * i + 6) 0) (31 + 8 * i + 3) 0) (31 + 8 * i + 7) 0) := by
  refine ⟨fun k hk => by rw [upd_n' (by omega), upd_n' (by omega), upd_n' (by omega), upd_n' (by omega)]; exact h.1 k hk, fun n f hn hf => ?_⟩
  rw [nv_upd (by decide) hf, nv_upd (by decide) hf, nv_upd (by decide) hf, nv_upd (by decide) hf, h.2 n f hn hf]
  by_cases hni : n = i
  · subst hni
    rcases f8 hf with rfl | rfl | rfl | rfl | rfl | rfl | rfl | rfl <;> simp [h2]
  · have : (n < i + 1 ↔ n < i) := by omega
    simp [hni, this]
theorem eP_1 {i : Nat} {r r' : Nat → Int32} (hi : i < 7) (h : eP i r r') (h2 : ¬ nv r i 7 = 2) : eP (i + 1) r (upd (upd (upd (upd r' (31 + 8 * i + 5) 0) (31 + 8 * i + 6) 0) (31 + 8 * i + 3) (nv r i 3)) (31 + 8 * i + 7) (nv r i 7)) := by
  refine ⟨fun k hk => by rw [upd_n' (by omega), upd_n' (by omega), upd_n' (by omega), upd_n' (by omega)]; exact h.1 k hk, fun n f hn hf => ?_⟩
  rw [nv_upd (by decide) hf, nv_upd (by decide) hf, nv_upd (by decide) hf, nv_upd (by decide) hf, h.2 n f hn hf]
  by_cases hni : n = i
  · subst hni
    rcases f8 hf with rfl | rfl | rfl | rfl | rfl | rfl | rfl | rfl <;> simp [h2]
  · have : (n < i + 1 ↔ n < i) := by omega
    simp [hni, this]
def endQ (Q : Int32 → Hp → Prop) (h0 : Hp) : Prop := ∀ h_12 : Hp, h_12 = up1 h0 1 (upd (h0 1) 12 (0 : Int32)) → (∀ h_13 : Hp, h_13 = up1 h_12 1 (upd (h_12 1) 9 ((h_12 1 9) + (1 : Int32))) → (Q (h_13 1 9) h_13))
theorem endsM2 {hm : Hp} {r : Nat → Int32} : ∀ (m i : Nat) (r' : Nat → Int32), i + m = 7 → eP i r r' → ∃ r2, eP 7 r r2 ∧ ∀ Q : Int32 → Hp → Prop, endQ Q (up1 hm 1 r2) → F_X8_ends_L135 (m + 1) (nI i) (up1 hm 1 r') Q
  | 0, i, r', e, h => by
    obtain rfl : i = 7 := by omega
    exact ⟨r', h, fun Q q => bt' (by decide) q⟩
  | m + 1, i, r', e, h => by
    have hi : i < 7 := by omega
    have n3 : ∀ (h : Hp) (Q : Int32 → Hp → Prop), F_X8_number (nI i) (3 : Int32) h Q ↔ Q (nv (h 1) i 3) h := fun h Q => num hi (show 3 < 8 by decide)
    have n7 : ∀ (h : Hp) (Q : Int32 → Hp → Prop), F_X8_number (nI i) (7 : Int32) h Q ↔ Q (nv (h 1) i 7) h := fun h Q => num hi (show 7 < 8 by decide)
    have s3 : ∀ (h : Hp) (y : Int32) (Q : Hp → Prop), F_X8_setOf (nI i) (3 : Int32) y h Q ↔ Q (up1 h 1 (upd (h 1) (31 + 8 * i + 3) y)) := fun h y Q => sof hi (show 3 < 8 by decide)
    have s5 : ∀ (h : Hp) (y : Int32) (Q : Hp → Prop), F_X8_setOf (nI i) (5 : Int32) y h Q ↔ Q (up1 h 1 (upd (h 1) (31 + 8 * i + 5) y)) := fun h y Q => sof hi (show 5 < 8 by decide)
    have s6 : ∀ (h : Hp) (y : Int32) (Q : Hp → Prop), F_X8_setOf (nI i) (6 : Int32) y h Q ↔ Q (up1 h 1 (upd (h 1) (31 + 8 * i + 6) y)) := fun h y Q => sof hi (show 6 < 8 by decide)
    have s7 : ∀ (h : Hp) (y : Int32) (Q : Hp → Prop), F_X8_setOf (nI i) (7 : Int32) y h Q ↔ Q (up1 h 1 (upd (h 1) (31 + 8 * i + 7) y)) := fun h y Q => sof hi (show 7 < 8 by decide)
    have e7 : nv r' i 7 = nv r i 7 := by rw [h.2 i 7 hi (by decide), if_neg (by omega)]
    have e3 : nv r' i 3 = nv r i 3 := by rw [h.2 i 3 hi (by decide), if_neg (by omega)]
    have hge : ¬ (7 : Int32) ≤ nI i := nI_ge (a := i) (b := 7) hi (by decide)
    by_cases h2 : nv r i 7 = 2
    · obtain ⟨r2, hr2, hQ⟩ := endsM2 (hm := hm) m (i + 1) _ (by omega) (eP_2 hi h h2)
      refine ⟨r2, hr2, fun Q q => ?_⟩
      refine bf' hge ?_
      simp only [n7, s3, s5, s6, s7, up1_1, up1_up1, e7, forall_eq, nI_1]
      exact bt' h2 (hQ Q q)
    · obtain ⟨r2, hr2, hQ⟩ := endsM2 (hm := hm) m (i + 1) _ (by omega) (eP_1 hi h h2)
      refine ⟨r2, hr2, fun Q q => ?_⟩
      refine bf' hge ?_
      have z3 : nv (upd (upd r' (31 + 8 * i + 5) 0) (31 + 8 * i + 6) 0) i 3 = nv r i 3 := by rw [nv_upd (by decide) (by decide), nv_upd (by decide) (by decide)]; simp [e3]
      have z7 : nv (upd (upd (upd r' (31 + 8 * i + 5) 0) (31 + 8 * i + 6) 0) (31 + 8 * i + 3) (nv r i 3)) i 7 = nv r i 7 := by rw [nv_upd (by decide) (by decide), nv_upd (by decide) (by decide), nv_upd (by decide) (by decide)]; simp [e7]
      simp only [n7, n3, s3, s5, s6, s7, up1_1, up1_up1, e7, z3, z7, forall_eq, nI_1]
      exact bf' h2 (hQ Q q)
def eV (i : Nat) (v : Nat → Nat → Int32) : Nat → Nat → Int32 := fun o j => if o = 10 then (if j < i then 9999 else v 10 j) else if o = 11 then (if j < i ∧ v 11 j = 2 then 0 else v 11 j) else if o = 8 then (if j < i ∧ v 11 j = 2 then 0 else v 8 j) else v o j
theorem eV_0 (v : Nat → Nat → Int32) : eV 0 v = v := by
  funext o j
  unfold eV
  by_cases h1 : o = 10
  · subst h1; simp
  · by_cases h2 : o = 11
    · subst h2; simp
    · by_cases h3 : o = 8
      · subst h3; simp
      · simp [h1, h2, h3]
theorem eV_2 {i : Nat} {v : Nat → Nat → Int32} (h : v 11 i = 2) : up1 (up1 (up1 (eV i v) 10 (upd (eV i v 10) i 9999)) 11 (upd (eV i v 11) i 0)) 8 (upd (eV i v 8) i 0) = eV (i + 1) v := by
  funext o j
  have hj : j ≠ i → (j < i + 1 ↔ j < i) := fun z => by omega
  unfold up1 upd eV
  by_cases h1 : o = 10
  · subst h1
    by_cases h4 : j = i
    · subst h4; simp
    · simp [h4, hj h4]
  · by_cases h2 : o = 11
    · subst h2
      by_cases h4 : j = i
      · subst h4; simp [h]
      · simp [h4, hj h4]
    · by_cases h3 : o = 8
      · subst h3
        by_cases h4 : j = i
        · subst h4; simp [h]
        · simp [h4, hj h4]
      · simp [h1, h2, h3]
theorem eV_1 {i : Nat} {v : Nat → Nat → Int32} (h : ¬ v 11 i = 2) : up1 (eV i v) 10 (upd (eV i v 10) i 9999) = eV (i + 1) v := by
  funext o j
  have hj : j ≠ i → (j < i + 1 ↔ j < i) := fun z => by omega
  unfold up1 upd eV
  by_cases h1 : o = 10
  · subst h1
    by_cases h4 : j = i
    · subst h4; simp
    · simp [h4, hj h4]
  · by_cases h2 : o = 11
    · subst h2
      by_cases h4 : j = i
      · subst h4; simp [h]
      · simp [hj h4]
    · by_cases h3 : o = 8
      · subst h3
        by_cases h4 : j = i
        · subst h4; simp [h]
        · simp [hj h4]
      · simp [h1, h2, h3]
theorem eV_11 {i : Nat} {v : Nat → Nat → Int32} : eV i v 11 i = v 11 i := by
  unfold eV; simp
theorem eV_82 {i : Nat} {v : Nat → Nat → Int32} (h : v 11 i = 2) : eV (i + 1) v 8 i = 0 := by
  unfold eV; simp [h]
theorem endsC {b : Nat} {hc : Hp} {v : Nat → Nat → Int32} {Q : Hp → Prop} (q : Q (cv b hc (eV 7 v))) : ∀ (m i : Nat), i + m = 7 → F_X1_endNight_L2 b (m + 1) (nI i) (cv b hc (eV i v)) Q
  | 0, i, e => by
    obtain rfl : i = 7 := by omega
    exact bt' (by decide) q
  | m + 1, i, e => by
    have hi : i < 7 := by omega
    have hge : ¬ (7 : Int32) ≤ nI i := nI_ge (a := i) (b := 7) hi (by decide)
    refine bf' hge ⟨vpn hi (by decide), ?_⟩
    simp only [clN (show i < 2 ^ 31 by omega), cv_10, cu_10, forall_eq, cv_11, cu_11, cv_8, cu_8, up1_n _ _ (show (11 : Nat) ≠ 10 by decide), up1_n _ _ (show (8 : Nat) ≠ 10 by decide), up1_n _ _ (show (8 : Nat) ≠ 11 by decide), eV_11, nI_1]
    refine ⟨vpn hi (by decide), bc _ (fun h => ⟨vpn hi (by decide), vpn hi (by decide), ?_⟩) (fun h => ?_)⟩
    · rw [eV_2 h]; exact endsC q m (i + 1) (by omega)
    · rw [eV_1 h]; exact endsC q m (i + 1) (by omega)
