/-! Undo, save, restore. -/
theorem undo22 {h : Hp} {s : Nat} (hs : s ≤ 5) (e3 : h 0 3 = nI s) {Q : Int32 → Hp → Prop} (q : Q (nI s) (up1 h 1 (fb_put (h 1) (fun k => h 3 (s * 119 + k)) 0 119))) : ∃ n, F_X8_undo_L22 n 0 h Q := by
  suffices hs : ∀ (m i : Nat), i + m = 119 → F_X8_undo_L22 (m + 1) (nI i) (up1 h 1 (fb_put (h 1) (fun k => h 3 (s * 119 + k)) 0 i)) Q from ⟨120, by have := hs 119 0 rfl; rw [fb_put_0, up1_self] at this; exact this⟩
  intro m
  induction m with
  | zero =>
    intro i e
    obtain rfl : i = 119 := by omega
    refine bt' (by decide) ?_
    rw [up1_n _ _ (show (0 : Nat) ≠ 1 by decide), e3]
    exact q
  | succ m ih =>
    intro i e
    have ei : (nI s * 119) + nI i = nI (s * 119 + i) := by rw [show (119 : Int32) = nI 119 from rfl, pk_mul, nI_add]
    refine bf' (nI_ge (a := i) (b := 119) (by omega) (by decide)) ?_
    rw [up1_n _ _ (show (0 : Nat) ≠ 1 by decide), e3, ei, clN (show i < 2 ^ 31 by omega), clN (show s * 119 + i < 2 ^ 31 by omega), up1_s, up1_up1, up1_n _ _ (show (3 : Nat) ≠ 1 by decide)]
    refine ⟨vpn (by omega) (by decide), vpn (by omega) (by decide), nm' (nm' ?_)⟩
    rw [nI_1]
    have := fb_put_succ (h 1) (fun k => h 3 (s * 119 + k)) 0 i
    rw [Nat.zero_add] at this
    rw [this]
    exact ih (i + 1) (by omega)
theorem save12 {h : Hp} {j : Nat} (hj : j ≤ 1) {Q : Int32 → Hp → Prop} (q : Q (h 1 13) (up1 (up1 h 4 (fb_put (h 4) (h 1) (j * 119) 119)) 5 (upd (h 5) j 1))) : ∃ n, F_X8_save_L12 n (nI j) 0 h Q := by
  suffices hs : ∀ (m i : Nat), i + m = 119 → F_X8_save_L12 (m + 1) (nI j) (nI i) (up1 h 4 (fb_put (h 4) (h 1) (j * 119) i)) Q from ⟨120, by have := hs 119 0 rfl; rw [fb_put_0, up1_self] at this; exact this⟩
  intro m
  induction m with
  | zero =>
    intro i e
    obtain rfl : i = 119 := by omega
    refine bt' (by decide) ⟨vpn (by omega) (by decide), nm' ?_⟩
    rw [clN (by omega)]
    exact q
  | succ m ih =>
    intro i e
    have ei : (nI j * 119) + nI i = nI (j * 119 + i) := by rw [show (119 : Int32) = nI 119 from rfl, pk_mul, nI_add]
    refine bf' (nI_ge (a := i) (b := 119) (by omega) (by decide)) ?_
    rw [ei, clN (show i < 2 ^ 31 by omega), clN (show j * 119 + i < 2 ^ 31 by omega), up1_s, up1_up1, up1_n _ _ (show (1 : Nat) ≠ 4 by decide), fb_put_succ]
    refine ⟨vpn (by omega) (by decide), vpn (by omega) (by decide), nm' (nm' ?_)⟩
    rw [nI_1]
    exact ih (i + 1) (by omega)
theorem restore32 {h : Hp} {j : Nat} (hj : j ≤ 1) {Q : Int32 → Hp → Prop} (q : Q (h 4 (j * 119 + 13)) (up1 h 1 (fb_put (h 1) (fun k => h 4 (j * 119 + k)) 0 119))) : ∃ n, F_X8_restore_L32 n (nI j) 0 h Q := by
  suffices hs : ∀ (m i : Nat), i + m = 119 → F_X8_restore_L32 (m + 1) (nI j) (nI i) (up1 h 1 (fb_put (h 1) (fun k => h 4 (j * 119 + k)) 0 i)) Q from ⟨120, by have := hs 119 0 rfl; rw [fb_put_0, up1_self] at this; exact this⟩
  intro m
  induction m with
  | zero =>
    intro i e
    obtain rfl : i = 119 := by omega
    refine bt' (by decide) ?_
    rw [up1_s, fb_put_in (by decide) (by decide)]
    exact q
  | succ m ih =>
    intro i e
    have ei : (nI j * 119) + nI i = nI (j * 119 + i) := by rw [show (119 : Int32) = nI 119 from rfl, pk_mul, nI_add]
    refine bf' (nI_ge (a := i) (b := 119) (by omega) (by decide)) ?_
    rw [ei, clN (show i < 2 ^ 31 by omega), clN (show j * 119 + i < 2 ^ 31 by omega), up1_s, up1_up1, up1_n _ _ (show (4 : Nat) ≠ 1 by decide)]
    refine ⟨vpn (by omega) (by decide), vpn (by omega) (by decide), nm' (nm' ?_)⟩
    rw [nI_1]
    have := fb_put_succ (h 1) (fun k => h 4 (j * 119 + k)) 0 i
    rw [Nat.zero_add] at this
    rw [this]
    exact ih (i + 1) (by omega)
theorem sim_undo {hc hm : Hp} (hR : Rel hc hm) : F_X7_undo hc (fun r h1 => F_X8_undo hm (fun r2 h2 => r = r2 ∧ Rel h1 h2)) := by
  obtain ⟨hV, hI, ⟨n, o, hh⟩, hs, hp⟩ := Rel_i.mp hR
  obtain ⟨hn, ho, e2, e0, e1, hrow⟩ := id hh
  by_cases h0 : n = 0
  · subst h0
    exact bt' e2 (bt' e0 ⟨rfl, hR⟩)
  · obtain ⟨s, rfl⟩ : ∃ s, n = s + 1 := ⟨n - 1, by omega⟩
    have hne : ¬ nI (s + 1) = 0 := nI_ne0 (by omega) (by omega)
    obtain ⟨v', hv', hC⟩ := copyC (b1 := 8) (b2 := ringP o s) (h := up1 hc 1 (upd (hc 1) 2 (nI s))) (Or.inl (ringP_b o s).1)
    have hb := ringP_b o s
    refine bf' (by rw [e2]; exact hne) (nm' ?_)
    rw [e2, nI_pred, up1_s, upd_s', upd_n' (show (1 : Nat) ≠ 2 by decide), e1, ring_ix ho (by omega), clN (by omega)]
    refine ⟨vpn (by omega) (by decide), hC _ ?_⟩
    rw [cv_out (by decide), up1_s, upd_s']
    refine bf' (by rw [e0]; exact hne) (nm' ?_)
    rw [e0, nI_pred]
    refine undo22 (s := s) (by omega) (by rw [up1_s, upd_s']) ⟨rfl, ?_⟩
    obtain ⟨f1, f2⟩ := hrow s (by omega)
    have er : ∀ k, k < 119 → fb_put (hm 1) (fun k => hm 3 (s * 119 + k)) 0 119 k = hm 3 (s * 119 + k) := fun k hk => by rw [fb_put_in (by omega) (by omega)]; rfl
    have hf : ∀ c, c ≠ 1 → ¬ (8 ≤ c ∧ c < 23) → cv 8 (up1 hc 1 (upd (hc 1) 2 (nI s))) v' c = hc c := fun c h1 h2 => (cv_out (by omega)).trans (up1_n _ _ h1)
    have h11 : cv 8 (up1 hc 1 (upd (hc 1) 2 (nI s))) v' 1 = upd (hc 1) 2 (nI s) := (cv_out (by omega)).trans (up1_s _ _ _)
    refine Rel_i.mpr ⟨?_, IV_c er f2, ⟨s, o, by omega, ho, by rw [h11, upd_s'], by rw [up1_n _ _ (show (0 : Nat) ≠ 1 by decide), up1_s, upd_s'], by rw [h11, upd_n' (by decide)]; exact e1, fun i hi => ?_⟩, slot_c (hf 6 (by decide) (by decide)) (fun c h => hf c (by omega) (by omega)) rfl rfl hs, pad_c (by rw [hf 3 (by decide) (by decide)]) (hf 4 (by decide) (by decide)) rfl rfl hp⟩
    · refine RV_in (RVv_c hv' er ?_)
      exact RVv_c (VEq_of (fun k hk => up1_n _ _ (by omega))) (fun _ _ => rfl) f1
    · obtain ⟨g1, g2⟩ := hrow i (by omega)
      have hb2 := ringP_b o i
      exact ⟨RV_fr (fun c h1 h2 => hf c (by omega) (by omega)) g1, g2⟩
theorem slot01 {x : Int32} (h : 0 ≤ x ∧ x ≤ 1) : ∃ j : Nat, j ≤ 1 ∧ x = nI j := ofN (M := 1) (n := 1) (by decide) h
theorem sim_save (x1 : Int32) {hc hm : Hp} (hR : Rel hc hm) : F_X7_save x1 hc (fun r h1 => F_X8_save x1 hm (fun r2 h2 => r = r2 ∧ Rel h1 h2)) := by
  obtain ⟨hV, hI, ⟨n, o, hh⟩, hs, hp⟩ := Rel_i.mp hR
  unfold F_X7_save F_X8_save
  simp only [isSlotC_iff, isSlotM_iff, b01_0]
  by_cases hx : 0 ≤ x1 ∧ x1 ≤ 1
  · obtain ⟨j, hj, rfl⟩ := slot01 hx
    obtain ⟨v', hv', hC⟩ := copyC (b1 := 128 + 15 * j) (b2 := 8) (h := hc) (Or.inr (by omega))
    refine bf' (fun z => z hx) ⟨vpn (by omega) (by decide), ?_⟩
    rw [clN (by omega)]
    refine hC _ ⟨vpn (by omega) (by decide), nm' (bf' (fun z => z hx) (save12 hj ⟨?_, ?_⟩))⟩
    · rw [up1_n _ _ (by decide), cv_out (by omega)]
      exact hV.2.1.1
    · have hf : ∀ c, c ≠ 6 → ¬ (128 + 15 * j ≤ c ∧ c < 128 + 15 * j + 15) → up1 (cv (128 + 15 * j) hc v') 6 (upd (cv (128 + 15 * j) hc v' 6) j (vp_nar .boolean 1)) c = hc c := fun c h1 h2 => (up1_n _ _ h1).trans (cv_out (by omega))
      refine Rel_i.mpr ⟨RV_fr (fun c h1 h2 => hf c (by omega) (by omega)) hV, hI, ⟨n, o, hist_c (hf 1 (by decide) (by omega)) (fun i c hi h1 h2 => hf c (by have := ringP_b o i; omega) (by have := ringP_b o i; omega)) rfl rfl hh⟩, fun i hi => ?_, pad_c (by rw [hf 3 (by decide) (by omega)]) (hf 4 (by decide) (by omega)) rfl rfl hp⟩
      by_cases hij : i = j
      · subst hij
        have er : ∀ k, k < 119 → fb_put (hm 4) (hm 1) (i * 119) 119 (i * 119 + k) = hm 1 k := fun k hk => by rw [fb_put_in (by omega) (by omega), Nat.add_sub_cancel_left]
        refine Or.inr ⟨?_, ?_, ?_, IV_c er hI⟩
        · rw [up1_s, upd_s']; decide
        · rw [up1_s, upd_s']
        · refine RV_fr (h := cv (128 + 15 * i) hc v') (fun c h1 h2 => up1_n _ _ (by omega)) (RV_in ?_)
          exact RVv_c hv' er hV
      · have er : ∀ k, k < 119 → fb_put (hm 4) (hm 1) (j * 119) 119 (i * 119 + k) = hm 4 (i * 119 + k) := fun k hk => fb_put_out (by omega)
        rcases hs i hi with ⟨a, b⟩ | ⟨a, b, c, d⟩
        · refine Or.inl ⟨?_, ?_⟩
          · rw [up1_s, upd_n' hij, cv_out (by omega)]; exact a
          · rw [up1_s, upd_n' hij]; exact b
        · refine Or.inr ⟨?_, ?_, ?_, IV_c er d⟩
          · rw [up1_s, upd_n' hij, cv_out (by omega)]; exact a
          · rw [up1_s, upd_n' hij]; exact b
          · exact RVv_c (VEq_refl _) er (RV_fr (fun c h1 h2 => hf c (by omega) (by omega)) c)
  · exact bt' hx (bt' hx ⟨trivial, hR⟩)
theorem sim_restore (x1 : Int32) {hc hm : Hp} (hR : Rel hc hm) : F_X7_restore x1 hc (fun r h1 => F_X8_restore x1 hm (fun r2 h2 => r = r2 ∧ Rel h1 h2)) := by
  obtain ⟨hV, hI, ⟨n, o, hh⟩, hs, hp⟩ := Rel_i.mp hR
  obtain ⟨hn, ho, e2, e0, e1, hrow⟩ := id hh
  have hb := ringP_b o n
  unfold F_X7_restore F_X8_restore
  simp only [isSlotC_iff, isSlotM_iff, b01_0]
  by_cases hx : 0 ≤ x1 ∧ x1 ≤ 1
  · obtain ⟨j, hj, rfl⟩ := slot01 hx
    rw [clN (show j < 2 ^ 31 by omega)]
    rcases hs j (by omega) with ⟨a, b⟩ | ⟨a, b, c, d⟩
    · exact bf' (fun z => z hx) ⟨vpn (by omega) (by decide), bt' a (bf' (fun z => z hx) ⟨vpn (by omega) (by decide), bt' b ⟨trivial, hR⟩⟩)⟩
    · obtain ⟨w, hw, hH⟩ := holdC hn ho e2 e1
      obtain ⟨v', hv', hC⟩ := copyC (b1 := 8) (b2 := 128 + 15 * j) (h := cv (ringP o n) hc w) (Or.inl (by omega))
      have hvs : RVv v' (fun k => hm 4 (j * 119 + k)) := RVv_c hv' (fun _ _ => rfl) (RV_out (by omega) c)
      obtain ⟨k, hk, ek⟩ := rngN (n := 8) d.2.2.1.1 (by decide)
      have e8 : cv 8 (cv (ringP o n) hc w) v' 1 = hc 1 := (cv_out (by omega)).trans (cv_out (by omega))
      have e10 : cv 8 (cv (ringP o n) hc w) v' (8 + 2) 0 = nI k := by rw [cv_2]; exact hvs.2.1.1.trans ek
      refine bf' (fun z => z hx) ⟨vpn (by omega) (by decide), bf' (by rw [a]; decide) (hH _ ⟨vpn (by omega) (by decide), hC _ ?_⟩)⟩
      rw [e10]
      refine keepC hn ho (by rw [e8]; exact e2) (by rw [e8]; exact e1) (nI_pos (by omega)) (bf' (fun z => z hx) ⟨vpn (by omega) (by decide), bf' (by rw [b]; decide) (putM (pushM (h := up1 hm 2 (fb_put (hm 2) (hm 1) 0 119)) hn e0 (restore32 hj ⟨?_, ?_⟩)))⟩)
      · exact ek.symm
      · have hf : ∀ c, ¬ (8 ≤ c ∧ c < 23) → ¬ (ringP o n ≤ c ∧ c < ringP o n + 15) → cv 8 (cv (ringP o n) hc w) v' c = hc c := fun c h1 h2 => (cv_out (by omega)).trans (cv_out (by omega))
        have er : ∀ k, k < 119 → fb_put (hm 1) (fun k => hm 4 (j * 119 + k)) 0 119 k = hm 4 (j * 119 + k) := fun k hk => by rw [fb_put_in (by omega) (by omega)]; rfl
        refine rel_ok (g := fb_put (hm 2) (hm 1) 0 119) hh hs hp hI ?_ ?_ ?_ (IV_c er d) (fun c h0 h1 h2 => by rw [up1_n _ _ h0]; exact hf c h1 h2) rfl rfl (fun k hk => by rw [fb_put_in (by omega) (by omega)]; rfl) rfl rfl rfl
        · rw [up1_s, e8]
        · refine RV_fr (h := cv (ringP o n) hc w) (fun c h1 h2 => ?_) (RV_in (RVv_c hw (fun _ _ => rfl) hV))
          rw [up1_n _ _ (by omega)]
          exact cv_out (by omega)
        · refine RV_fr (h := cv 8 (cv (ringP o n) hc w) v') (fun c h1 h2 => ?_) (RV_in (RVv_c (VEq_refl _) er hvs))
          rw [up1_n _ _ (by omega)]
  · exact bt' hx (bt' hx ⟨trivial, hR⟩)
