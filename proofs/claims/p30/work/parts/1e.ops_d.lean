/-! The quarrel after a median. -/
def jst (med qr : Int32) (i : Nat) (r : Nat → Int32) : Nat → Int32 := if tpr r i = true then (if jabs (nv r i 6 - med) ≤ qr then (upd (upd (upd (upd r (31 + 8 * i + 3) 0) 12 (r 12 + 0)) (31 + 8 * i + 5) 0) (31 + 8 * i + 6) 0) else if nv r i 3 + 1 < 3 then (upd (upd (upd (upd r (31 + 8 * i + 3) (nv r i 3 + 1)) 12 (r 12 + 1)) (31 + 8 * i + 5) 0) (31 + 8 * i + 6) 0) else (upd (upd (upd (upd (upd r (31 + 8 * i + 3) (nv r i 3 + 1)) 12 (r 12 + 1)) (31 + 8 * i + 5) 0) (31 + 8 * i + 6) 0) (31 + 8 * i + 7) 2)) else r
def jit (med qr : Int32) : Nat → Nat → (Nat → Int32) → (Nat → Int32)
  | 0, _, r => r
  | m + 1, i, r => jit med qr m (i + 1) (jst med qr i r)
theorem judges {b : Nat} {hc : Hp} {v : Nat → Nat → Int32} {r : Nat → Int32} {med : Int32} : ∀ (m i : Nat) (v' : Nat → Nat → Int32) (c : Int32) (r' : Nat → Int32), i + m = 7 → jP v r v' c r' → ∃ (v2 : Nat → Nat → Int32) (c2 : Int32), jP v r v2 c2 (jit med (r 2) m i r') ∧ (∀ Q : Int32 → Hp → Prop, Q c2 (cv b hc v2) → F_X1_quarrelOver_L5 b (m + 1) med (r 2) c (nI i) (cv b hc v') Q) := by
  intro m
  induction m with
  | zero =>
    intro i v' c r' e hJ
    obtain rfl : i = 7 := by omega
    exact ⟨v', c, hJ, fun Q q => bt' (by decide) q⟩
  | succ m ih =>
    intro i v' c r' e hJ
    have hi : i < 7 := by omega
    have hcl : (nI i).toNatClampNeg = i := clN (by omega)
    obtain ⟨hNv, hNi⟩ := hJ.2.2.2.1 i hi
    have e2 : r' 2 = r 2 := hJ.2.1 2 (by decide) (by decide)
    have ux : ∀ (y : Int32), upd r' (31 + 8 * i + 3) y 12 = r' 12 := fun y => upd_n' (by omega)
    have a8 : v' 8 i = nv r' i 3 := hNv.2.2.2.1
    by_cases ht : tpr r' i = true
    · have hP : PB r' (-6) i = true := PB_eq.mpr ⟨ne_m6 hi, ht⟩
      have e10 : v' 10 i = nv r' i 6 := tp_est hNv (tpr_i.mp ht).2
      have gC : ∀ Q : Int32 → Hp → Prop, ((∀ x_7 : Int32, x_7 = jabs (nv r' i 6 - med) → ((x_7 ≤ r 2 → ∀ x, x = nI i + 1 → F_X1_quarrelOver_L5 b (m + 1) med (r 2) c x (cv b hc (up1 (up1 v' 8 (upd (v' 8) i 0)) 10 (upd (v' 10) i 9999))) Q) ∧ (¬ x_7 ≤ r 2 → ((nv r' i 3 + 1 < 3 → ∀ x, x = nI i + 1 → F_X1_quarrelOver_L5 b (m + 1) med (r 2) (c + 1) x (cv b hc (up1 (up1 v' 8 (upd (v' 8) i (nv r' i 3 + 1))) 10 (upd (v' 10) i 9999))) Q) ∧ (¬ nv r' i 3 + 1 < 3 → ∀ x, x = nI i + 1 → F_X1_quarrelOver_L5 b (m + 1) med (r 2) (c + 1) x (cv b hc (up1 (up1 (up1 v' 8 (upd (v' 8) i (nv r' i 3 + 1))) 11 (upd (v' 11) i 2)) 10 (upd (v' 10) i 9999))) Q)))))) → F_X1_quarrelOver_L5 b (m + 1 + 1) med (r 2) c (nI i) (cv b hc v') Q := fun Q q => by
        refine bf' (ge7 hi) (takesC hi hNv hNi (bf' (fun z => (b01_0 _).mp z ht) ?_))
        have q1 := q _ rfl
        simp only [F_X1_makeAngrier, hcl, cv_8, cv_10, cv_11, cu_8, cu_10, cu_11, forall_eq, e10, a8, up1_s, up1_n _ _ (show (10 : Nat) ≠ 8 by decide), up1_n _ _ (show (11 : Nat) ≠ 8 by decide), up1_n _ _ (show (10 : Nat) ≠ 11 by decide), upd_s', up1_up1] at q1 ⊢
        exact ⟨vpn hi (by decide), fun h => ⟨vpn hi (by decide), vpn hi (by decide), q1.1 h⟩, fun h => ⟨vpn hi (by decide), vpn hi (by decide), vpn hi (by decide), fun h2 => ⟨vpn hi (by decide), (q1.2 h).1 h2⟩, fun h2 => ⟨vpn hi (by decide), vpn hi (by decide), (q1.2 h).2 h2⟩⟩⟩
      by_cases hle : jabs (nv r' i 6 - med) ≤ r 2
      · have hst : jP v r (up1 (up1 v' 8 (upd (v' 8) i 0)) 10 (upd (v' 10) i 9999)) (c + 0) (upd (upd (upd (upd r' (31 + 8 * i + 3) 0) 12 (r' 12 + 0)) (31 + 8 * i + 5) 0) (31 + 8 * i + 6) 0) := by
          have hf : ∀ n f, n < 7 → f < 8 → nv (upd (upd (upd (upd r' (31 + 8 * i + 3) 0) 12 (r' 12 + 0)) (31 + 8 * i + 5) 0) (31 + 8 * i + 6) 0) n f = if n = i ∧ f = 6 then 0 else if n = i ∧ f = 5 then 0 else if n = i ∧ f = 3 then 0 else nv r' n f := fun n f hn hf => by rw [nv_upd (by decide) hf, nv_upd (by decide) hf, upd_nv (by decide) hf hn, nv_upd (by decide) hf]
          refine jstep hi hJ (fun o h8 h10 h11 => by rw [up1_n _ _ h10, up1_n _ _ h8]) (fun o j hj => ?_) (fun k hk h12 => by rw [upd_n' (by omega), upd_n' (by omega), upd_n' h12, upd_n' (by omega)]) (by rw [upd_n' (by omega), upd_n' (by omega), upd_s']) (fun n f hn hf2 hne => by rw [hf n f hn hf2]; simp [hne]) (fun f hf2 h3 h5 h6 h7 => by rw [hf i f hi hf2]; simp [h3, h5, h6]) ?_ (by rw [hf i 5 hi (by decide)]; simp) (by rw [hf i 6 hi (by decide)]; simp) (by rw [up1_s, upd_s']) ?_ ?_
          · by_cases h10 : o = 10
            · subst h10; rw [up1_s, upd_n' hj]
            · rw [up1_n _ _ h10]
              by_cases h8 : o = 8
              · subst h8; rw [up1_s, upd_n' hj]
              · rw [up1_n _ _ h8]
          · rw [up1_n _ _ (by decide), up1_s, upd_s', hf i 3 hi (by decide)]; simp
          · rw [up1_n _ _ (by decide), up1_n _ _ (by decide), hf i 7 hi (by decide)]; simp [hNv.2.2.2.2.2.2]
          · rw [hf i 7 hi (by decide)]; simp [hNi.2.2.2.2.2]
        rw [Int32.add_zero] at hst
        obtain ⟨v2, c2, hJ2, hC⟩ := ih (i + 1) _ c _ (by omega) hst
        refine ⟨v2, c2, ?_, fun Q q => gC Q (nm' (bt' hle (nm' ?_)))⟩
        · show jP v r v2 c2 (jit med (r 2) m (i + 1) (jst med (r 2) i r'))
          rw [show jst med (r 2) i r' = _ from (if_pos ht).trans (if_pos hle)]
          exact hJ2
        · rw [nI_1]; exact hC Q q
      · by_cases h3 : nv r' i 3 + 1 < 3
        · have hst : jP v r (up1 (up1 v' 8 (upd (v' 8) i (nv r' i 3 + 1))) 10 (upd (v' 10) i 9999)) (c + 1) (upd (upd (upd (upd r' (31 + 8 * i + 3) (nv r' i 3 + 1)) 12 (r' 12 + 1)) (31 + 8 * i + 5) 0) (31 + 8 * i + 6) 0) := by
            have hf : ∀ n f, n < 7 → f < 8 → nv (upd (upd (upd (upd r' (31 + 8 * i + 3) (nv r' i 3 + 1)) 12 (r' 12 + 1)) (31 + 8 * i + 5) 0) (31 + 8 * i + 6) 0) n f = if n = i ∧ f = 6 then 0 else if n = i ∧ f = 5 then 0 else if n = i ∧ f = 3 then (nv r' i 3 + 1) else nv r' n f := fun n f hn hf => by rw [nv_upd (by decide) hf, nv_upd (by decide) hf, upd_nv (by decide) hf hn, nv_upd (by decide) hf]
            refine jstep hi hJ (fun o h8 h10 h11 => by rw [up1_n _ _ h10, up1_n _ _ h8]) (fun o j hj => ?_) (fun k hk h12 => by rw [upd_n' (by omega), upd_n' (by omega), upd_n' h12, upd_n' (by omega)]) (by rw [upd_n' (by omega), upd_n' (by omega), upd_s']) (fun n f hn hf2 hne => by rw [hf n f hn hf2]; simp [hne]) (fun f hf2 h3 h5 h6 h7 => by rw [hf i f hi hf2]; simp [h3, h5, h6]) ?_ (by rw [hf i 5 hi (by decide)]; simp) (by rw [hf i 6 hi (by decide)]; simp) (by rw [up1_s, upd_s']) ?_ ?_
            · by_cases h10 : o = 10
              · subst h10; rw [up1_s, upd_n' hj]
              · rw [up1_n _ _ h10]
                by_cases h8 : o = 8
                · subst h8; rw [up1_s, upd_n' hj]
                · rw [up1_n _ _ h8]
            · rw [up1_n _ _ (by decide), up1_s, upd_s', hf i 3 hi (by decide)]; simp
            · rw [up1_n _ _ (by decide), up1_n _ _ (by decide), hf i 7 hi (by decide)]; simp [hNv.2.2.2.2.2.2]
            · rw [hf i 7 hi (by decide)]; simp [hNi.2.2.2.2.2]
          obtain ⟨v2, c2, hJ2, hC⟩ := ih (i + 1) _ _ _ (by omega) hst
          refine ⟨v2, c2, ?_, fun Q q => gC Q (nm' (bf' hle (bt' h3 (nm' ?_))))⟩
          · show jP v r v2 c2 (jit med (r 2) m (i + 1) (jst med (r 2) i r'))
            rw [show jst med (r 2) i r' = _ from (if_pos ht).trans ((if_neg hle).trans (if_pos h3))]
            exact hJ2
          · rw [nI_1]; exact hC Q q
        · have hst : jP v r (up1 (up1 (up1 v' 8 (upd (v' 8) i (nv r' i 3 + 1))) 11 (upd (v' 11) i 2)) 10 (upd (v' 10) i 9999)) (c + 1) (upd (upd (upd (upd (upd r' (31 + 8 * i + 3) (nv r' i 3 + 1)) 12 (r' 12 + 1)) (31 + 8 * i + 5) 0) (31 + 8 * i + 6) 0) (31 + 8 * i + 7) 2) := by
            have hf : ∀ n f, n < 7 → f < 8 → nv (upd (upd (upd (upd (upd r' (31 + 8 * i + 3) (nv r' i 3 + 1)) 12 (r' 12 + 1)) (31 + 8 * i + 5) 0) (31 + 8 * i + 6) 0) (31 + 8 * i + 7) 2) n f = if n = i ∧ f = 7 then 2 else if n = i ∧ f = 6 then 0 else if n = i ∧ f = 5 then 0 else if n = i ∧ f = 3 then (nv r' i 3 + 1) else nv r' n f := fun n f hn hf => by rw [nv_upd (by decide) hf, nv_upd (by decide) hf, nv_upd (by decide) hf, upd_nv (by decide) hf hn, nv_upd (by decide) hf]
            refine jstep hi hJ (fun o h8 h10 h11 => by rw [up1_n _ _ h10, up1_n _ _ h11, up1_n _ _ h8]) (fun o j hj => ?_) (fun k hk h12 => by rw [upd_n' (by omega), upd_n' (by omega), upd_n' (by omega), upd_n' h12, upd_n' (by omega)]) (by rw [upd_n' (by omega), upd_n' (by omega), upd_n' (by omega), upd_s']) (fun n f hn hf2 hne => by rw [hf n f hn hf2]; simp [hne]) (fun f hf2 h3 h5 h6 h7 => by rw [hf i f hi hf2]; simp [h3, h5, h6, h7]) ?_ (by rw [hf i 5 hi (by decide)]; simp) (by rw [hf i 6 hi (by decide)]; simp) (by rw [up1_s, upd_s']) ?_ ?_
            · by_cases h10 : o = 10
              · subst h10; rw [up1_s, upd_n' hj]
              · rw [up1_n _ _ h10]
                by_cases h11 : o = 11
                · subst h11; rw [up1_s, upd_n' hj]
                · rw [up1_n _ _ h11]
                  by_cases h8 : o = 8
                  · subst h8; rw [up1_s, upd_n' hj]
                  · rw [up1_n _ _ h8]
            · rw [up1_n _ _ (by decide), up1_n _ _ (by decide), up1_s, upd_s', hf i 3 hi (by decide)]; simp
            · rw [up1_n _ _ (by decide), up1_s, upd_s', hf i 7 hi (by decide)]; simp
            · rw [hf i 7 hi (by decide)]; simp; exact ⟨by decide, by decide⟩
          obtain ⟨v2, c2, hJ2, hC⟩ := ih (i + 1) _ _ _ (by omega) hst
          refine ⟨v2, c2, ?_, fun Q q => gC Q (nm' (bf' hle (bf' h3 (nm' ?_))))⟩
          · show jP v r v2 c2 (jit med (r 2) m (i + 1) (jst med (r 2) i r'))
            rw [show jst med (r 2) i r' = _ from (if_pos ht).trans ((if_neg hle).trans (if_neg h3))]
            exact hJ2
          · rw [nI_1]; exact hC Q q
    · obtain ⟨v2, c2, hJ2, hC⟩ := ih (i + 1) v' c r' (by omega) hJ
      refine ⟨v2, c2, ?_, fun Q q => bf' (ge7 hi) (takesC hi hNv hNi (bt' ((b01_0 _).mpr ht) (nm' ?_)))⟩
      · show jP v r v2 c2 (jit med (r 2) m (i + 1) (jst med (r 2) i r'))
        rw [show jst med (r 2) i r' = r' from if_neg ht]
        exact hJ2
      · rw [nI_1]; exact hC Q q
theorem upd7 {r : Nat → Int32} {i : Nat} {x y z a b : Int32} (h : nv r i 7 = b) : upd (upd (upd (upd (upd r (31 + 8 * i + 3) x) 12 y) (31 + 8 * i + 5) z) (31 + 8 * i + 6) a) (31 + 8 * i + 7) b = upd (upd (upd (upd r (31 + 8 * i + 3) x) 12 y) (31 + 8 * i + 5) z) (31 + 8 * i + 6) a :=
  fa_upd_same (by rw [upd_n' (by omega), upd_n' (by omega), upd_n' (by omega), upd_n' (by omega)]; exact h)
def finQL (med : Int32) (Q : Int32 → Hp → Prop) (g : Hp) : Prop := ∀ h_5 : Hp, h_5 = up1 g 158 (upd (g 158) 5 med) → (∀ h_6 : Hp, h_6 = up1 h_5 158 (upd (h_5 158) 10 ((h_5 158 10) + (1 : Int32))) → (Q (med + (5400 : Int32)) h_6))
theorem lt32 {x : Int32} (h : x + 1 < 3) : x + 1 ≤ 2 := by
  rw [fa_lt, show (3 : Int32).toInt = 3 by decide] at h
  rw [fa_le, show (2 : Int32).toInt = 2 by decide]
  omega
theorem nlt32 {x : Int32} (h : ¬ x + 1 < 3) : ¬ x + 1 ≤ 2 := by
  rw [fa_lt, show (3 : Int32).toInt = 3 by decide] at h
  rw [fa_le, show (2 : Int32).toInt = 2 by decide]
  omega
theorem judgeL {med qr : Int32} : ∀ (m i : Nat) (g : Hp), i + m = 7 → g 158 2 = qr → ∃ g2 : Hp, lrow g2 = jit med qr m i (lrow g) ∧ (∀ c, c ≠ 158 → c ≠ 160 → g2 c = g c) ∧ g2 158 12 = g 158 12 ∧ ∀ Q : Int32 → Hp → Prop, finQL med Q g2 → F_L_agrees_L18 (m + 1) med (nI i) g Q := by
  intro m
  induction m with
  | zero =>
    intro i g e hq
    obtain rfl : i = 7 := by omega
    exact ⟨g, rfl, fun _ _ _ => rfl, rfl, fun Q q => bt' (by decide) q⟩
  | succ m ih =>
    intro i g e hq
    have hi : i < 7 := by omega
    by_cases ht : tpr (lrow g) i = true
    · have hP : PB (lrow g) (-1) i = true := PB_eq.mpr ⟨fun e => nI_pos (n := i) (by omega) (by rw [e]; decide), ht⟩
      have h7 : nv (lrow g) i 7 = 0 := (tpr_i.mp ht).1
      have v3 : ((7 : Int32) * nI i + 3).toNatClampNeg = 7 * i + 3 := by rw [iv73]; exact clN (by omega)
      have v5 : ((7 : Int32) * nI i + 5).toNatClampNeg = 7 * i + 5 := by rw [iv75]; exact clN (by omega)
      have v6 : ((7 : Int32) * nI i + 6).toNatClampNeg = 7 * i + 6 := by rw [iv76]; exact clN (by omega)
      have i3 : vp_in ((7 : Int32) * nI i + 3) 49 := by rw [iv73]; exact vpn (by omega) (by decide)
      have i5 : vp_in ((7 : Int32) * nI i + 5) 49 := by rw [iv75]; exact vpn (by omega) (by decide)
      have i6 : vp_in ((7 : Int32) * nI i + 6) 49 := by rw [iv76]; exact vpn (by omega) (by decide)
      have e5 : g 160 (7 * i + 5) = nv (lrow g) i 6 := est_e hi hP
      have e3 : g 160 (7 * i + 3) = nv (lrow g) i 3 := (lr_v hi (by decide)).symm
      have e11 : g 158 11 = lrow g 12 := (lr_p (by decide) (by decide)).symm
      have n35 : 7 * i + 3 ≠ 7 * i + 5 := by omega
      have n58 : ∀ (h : Hp) (f : Nat → Int32), up1 h 160 f 158 = h 158 := fun h f => up1_n _ _ (by decide)
      have n60 : ∀ (h : Hp) (f : Nat → Int32), up1 h 158 f 160 = h 160 := fun h f => up1_n _ _ (by decide)
      have sw : ∀ (f f' p : Nat → Int32), up1 (up1 (up1 g 160 f) 158 p) 160 f' = up1 (up1 g 160 f') 158 p := fun f f' p => by
        funext c
        unfold up1
        by_cases c0 : c = 160
        · subst c0; simp
        · simp [c0]
      have sw2 : ∀ (f f' p : Nat → Int32), up1 (up1 (up1 g 160 f) 158 p) 160 f' = up1 (up1 g 160 f') 158 p := sw
      have lw : ∀ (p f : Nat → Int32), lrow (up1 (up1 g 160 f) 158 p) = rwA p (g 159) f (g 161) := fun _ _ => rfl
      have go : ∀ (p f : Nat → Int32) (c : Nat), c ≠ 158 → c ≠ 160 → up1 (up1 g 160 f) 158 p c = g c := fun p f c h1 h2 => by rw [up1_n _ _ h1, up1_n _ _ h2]
      by_cases hle : jabs (nv (lrow g) i 6 - med) ≤ qr
      · have el : lrow (up1 (up1 g 160 (upd (upd (upd (g 160) (7 * i + 3) 0) (7 * i + 5) 9999) (7 * i + 6) 0)) 158 (upd (g 158) 11 (g 158 11 + 0))) = jst med qr i (lrow g) := by
          rw [show jst med qr i (lrow g) = _ from (if_pos ht).trans (if_pos hle), lw, ra_p (by decide) (by decide), ra_v6 hi, ra_v5 hi, ra_v hi (by decide), hs9_9, vl9_9, show rwA (g 158) (g 159) (g 160) (g 161) = lrow g from rfl, e11, ← upd7 (r := lrow g) (i := i) (x := 0) (y := lrow g 12 + 0) (z := 0) (a := 0) h7, fa_upd_swap _ (i := 31 + 8 * i + 7) (j := 12) (by omega), fa_upd_swap _ (i := 31 + 8 * i + 6) (j := 12) (by omega), fa_upd_swap _ (i := 31 + 8 * i + 5) (j := 12) (by omega)]
        obtain ⟨g2, a2, b2, c2, d2⟩ := ih (i + 1) (up1 (up1 g 160 (upd (upd (upd (g 160) (7 * i + 3) 0) (7 * i + 5) 9999) (7 * i + 6) 0)) 158 (upd (g 158) 11 (g 158 11 + 0))) (by omega) (by rw [up1_s, upd_n' (by decide)]; exact hq)
        refine ⟨g2, by rw [a2, el]; rfl, fun c h1 h2 => (b2 c h1 h2).trans (go _ _ c h1 h2), by rw [c2, up1_s, upd_n' (by decide)], fun Q q => bf' (ge7 hi) (takesL hi (bf' (fun z => (b01_0 _).mp z hP) ⟨i5, sizeL.mpr ?_⟩))⟩
        rw [v5, e5, hq]
        refine bt' hle ⟨i3, ?_⟩
        simp only [forall_eq, v3, v5, v6, e3, n58, n60, up1_s, up1_up1, sw, upd_n' n35, upd_s', nI_1]
        exact ⟨i5, i3, bt' (by decide) ⟨i6, d2 Q q⟩⟩
      · by_cases h3 : nv (lrow g) i 3 + 1 < 3
        · have el : lrow (up1 (up1 g 160 (upd (upd (upd (g 160) (7 * i + 3) (nv (lrow g) i 3 + 1)) (7 * i + 5) 9999) (7 * i + 6) 0)) 158 (upd (g 158) 11 (g 158 11 + 1))) = jst med qr i (lrow g) := by
            rw [show jst med qr i (lrow g) = _ from (if_pos ht).trans ((if_neg hle).trans (if_pos h3)), lw, ra_p (by decide) (by decide), ra_v6 hi, ra_v5 hi, ra_v hi (by decide), hs9_9, vl9_9, show rwA (g 158) (g 159) (g 160) (g 161) = lrow g from rfl, e11, ← upd7 (r := lrow g) (i := i) (x := nv (lrow g) i 3 + 1) (y := lrow g 12 + 1) (z := 0) (a := 0) h7, fa_upd_swap _ (i := 31 + 8 * i + 7) (j := 12) (by omega), fa_upd_swap _ (i := 31 + 8 * i + 6) (j := 12) (by omega), fa_upd_swap _ (i := 31 + 8 * i + 5) (j := 12) (by omega)]
          obtain ⟨g2, a2, b2, c2, d2⟩ := ih (i + 1) (up1 (up1 g 160 (upd (upd (upd (g 160) (7 * i + 3) (nv (lrow g) i 3 + 1)) (7 * i + 5) 9999) (7 * i + 6) 0)) 158 (upd (g 158) 11 (g 158 11 + 1))) (by omega) (by rw [up1_s, upd_n' (by decide)]; exact hq)
          refine ⟨g2, by rw [a2, el]; rfl, fun c h1 h2 => (b2 c h1 h2).trans (go _ _ c h1 h2), by rw [c2, up1_s, upd_n' (by decide)], fun Q q => bf' (ge7 hi) (takesL hi (bf' (fun z => (b01_0 _).mp z hP) ⟨i5, sizeL.mpr ?_⟩))⟩
          rw [v5, e5, hq]
          refine bf' hle ⟨i3, i3, ?_⟩
          simp only [forall_eq, v3, v5, v6, e3, n58, n60, up1_s, up1_up1, sw, upd_n' n35, upd_s', nI_1]
          exact ⟨i5, i3, bt' (lt32 h3) ⟨i6, d2 Q q⟩⟩
        · have el : lrow (up1 (up1 g 160 (upd (upd (upd (g 160) (7 * i + 3) (nv (lrow g) i 3 + 1)) (7 * i + 5) 9999) (7 * i + 6) 2)) 158 (upd (g 158) 11 (g 158 11 + 1))) = jst med qr i (lrow g) := by
            rw [show jst med qr i (lrow g) = _ from (if_pos ht).trans ((if_neg hle).trans (if_neg h3)), lw, ra_p (by decide) (by decide), ra_v6 hi, ra_v5 hi, ra_v hi (by decide), hs9_9, vl9_9, show rwA (g 158) (g 159) (g 160) (g 161) = lrow g from rfl, e11, fa_upd_swap _ (i := 31 + 8 * i + 7) (j := 12) (by omega), fa_upd_swap _ (i := 31 + 8 * i + 6) (j := 12) (by omega), fa_upd_swap _ (i := 31 + 8 * i + 5) (j := 12) (by omega)]
          obtain ⟨g2, a2, b2, c2, d2⟩ := ih (i + 1) (up1 (up1 g 160 (upd (upd (upd (g 160) (7 * i + 3) (nv (lrow g) i 3 + 1)) (7 * i + 5) 9999) (7 * i + 6) 2)) 158 (upd (g 158) 11 (g 158 11 + 1))) (by omega) (by rw [up1_s, upd_n' (by decide)]; exact hq)
          refine ⟨g2, by rw [a2, el]; rfl, fun c h1 h2 => (b2 c h1 h2).trans (go _ _ c h1 h2), by rw [c2, up1_s, upd_n' (by decide)], fun Q q => bf' (ge7 hi) (takesL hi (bf' (fun z => (b01_0 _).mp z hP) ⟨i5, sizeL.mpr ?_⟩))⟩
          rw [v5, e5, hq]
          refine bf' hle ⟨i3, i3, ?_⟩
          simp only [forall_eq, v3, v5, v6, e3, n58, n60, up1_s, up1_up1, sw, upd_n' n35, upd_s', nI_1]
          exact ⟨i5, i3, bf' (nlt32 h3) ⟨i6, d2 Q q⟩⟩
    · obtain ⟨g2, a2, b2, c2, d2⟩ := ih (i + 1) g (by omega) hq
      refine ⟨g2, ?_, b2, c2, fun Q q => bf' (ge7 hi) (takesL hi (bt' ((b01_0 _).mpr (fun z => ht (PB_eq.mp z).2)) (nm' ?_)))⟩
      · rw [a2]
        show _ = jit med qr m (i + 1) (jst med qr i (lrow g))
        rw [show jst med qr i (lrow g) = lrow g from if_neg ht]
      · rw [nI_1]; exact d2 Q q
theorem medR_one {r : Nat → Int32} {w a b : Int32} (ha : medR r w a) (hb : medR r w b) : a = b := by
  rcases ha with ⟨a1, rfl⟩ | ⟨i, i1, i2, i3, i4, rfl⟩
  · rcases hb with ⟨b1, rfl⟩ | ⟨j, j1, j2, j3, j4, rfl⟩
    · rfl
    · exact absurd j3 a1
  · rcases hb with ⟨b1, rfl⟩ | ⟨j, j1, j2, j3, j4, rfl⟩
    · exact absurd i3 b1
    · rw [rk_inj i1 j1 i2 j2 (i4.trans j4.symm)]
noncomputable def medX (r : Nat → Int32) : Int32 := Classical.choose (medR_ex r (-6))
theorem medX_R (r : Nat → Int32) : medR r (-6) (medX r) := Classical.choose_spec (medR_ex r (-6))
noncomputable def agreesF (r : Nat → Int32) : Int32 × (Nat → Int32) := if 3 ≤ cp r (-6) then (medX r + 5400, upd (upd (upd (jit (medX r) (r 2) 7 0 r) 5 1) 6 (medX r)) 11 (jit (medX r) (r 2) 7 0 r 11 + 1)) else (-5, r)
theorem sim_agrees (a b4 w : Int32) : SimV (fun b h Q => F_X6_agreeOnMedian b h Q) (fun g Q => F_L_due 1 a b4 w g Q) agreesF := by
  intro b hc v r hV hI hG
  have hN := navs_of hV hI
  by_cases h3 : 3 ≤ cp r (-6)
  · obtain ⟨j, hj, hP, hk⟩ := rk_onto (r := r) (w := -6) (y := (cp r (-6) - 1) / 2) (by omega)
    have hmed : rng (nv r j 6) (-5400) 5400 := (hN j hj).2.2.2.2.2.1
    obtain ⟨med, emed⟩ : ∃ m, m = nv r j 6 := ⟨_, rfl⟩
    rw [← emed] at hmed
    have hN1 : navs (up1 v 12 (upd (v 12) 1 med)) r := fun n hn => ⟨rvNav_c (fun o h1 h2 => by rw [up1_n _ _ (by omega)]) (fun f hf => rfl) (hN n hn).1, (hN n hn).2⟩
    obtain ⟨r2, er2⟩ : ∃ r2, r2 = jit med (r 2) 7 0 r := ⟨_, rfl⟩
    have hmR : medR r (-6) med := Or.inr ⟨j, hj, hP, h3, hk, emed⟩
    obtain ⟨v2, c2, hJJ, hC⟩ := judges (b := b) (hc := hc) (med := med) 7 0 (up1 v 12 (upd (v 12) 1 med)) 0 r rfl ⟨fun _ _ _ _ => rfl, fun _ _ _ => rfl, (Int32.add_zero _).symm, hN1, fun _ _ => rfl⟩
    rw [← er2] at hJJ
    obtain ⟨p1, p2, p3, p4, p5⟩ := hJJ
    have e20 : v2 0 = v 0 := (p1 0 (by decide) (by decide) (by decide)).trans (up1_n _ _ (by decide))
    have hv3 : ∀ o, o ≠ 0 → o ≠ 8 → o ≠ 10 → o ≠ 11 → o ≠ 12 → up1 v2 0 (upd (upd (v 0) 7 (v 0 7 + c2)) 6 (v 0 6 + 1)) o = v o := fun o h0 h8 h10 h11 h12 => by rw [up1_n _ _ h0, p1 o h8 h10 h11, up1_n _ _ h12]
    have e12 : up1 v2 0 (upd (upd (v 0) 7 (v 0 7 + c2)) 6 (v 0 6 + 1)) 12 = upd (v 12) 1 med := by rw [up1_n _ _ (by decide), p1 12 (by decide) (by decide) (by decide), up1_s]
    have hr3 : ∀ k, k < 31 ∨ 87 ≤ k → k ≠ 5 → k ≠ 6 → k ≠ 11 → k ≠ 12 → upd (upd (upd r2 5 1) 6 med) 11 (r2 11 + 1) k = r k := fun k hk h5 h6 h11 h12 => by rw [upd_n' h11, upd_n' h6, upd_n' h5]; exact p2 k hk h12
    have hnv : ∀ n f, n < 7 → f < 8 → nv (upd (upd (upd r2 5 1) 6 med) 11 (r2 11 + 1)) n f = nv r2 n f := fun n f hn hf => by rw [upd_nv (by decide) hf hn, upd_nv (by decide) hf hn, upd_nv (by decide) hf hn]
    refine ⟨med + 5400, up1 v2 0 (upd (upd (v 0) 7 (v 0 7 + c2)) 6 (v 0 6 + 1)), upd (upd (upd r2 5 1) 6 med) 11 (r2 11 + 1), (by unfold agreesF; rw [if_pos h3, ← medR_one hmR (medX_R r), er2]), fun Q q => ?_, ?_, ?_, ?_, fun h => absurd h (told_nn hmed)⟩
    · refine midC hN hj hP h3 hk ?_
      rw [← emed]
      refine bf' (ne_9999 hmed) ?_
      have hs2 : v 1 2 = r 2 := hV.1 2 (by decide)
      simp only [cv_12, cu_12, forall_eq, cv_1, cv_0, up1_n _ _ (show (1 : Nat) ≠ 12 by decide), up1_n _ _ (show (0 : Nat) ≠ 12 by decide), hs2]
      refine ⟨8, hC _ ?_⟩
      simp only [cv_0, cu_0, forall_eq, up1_s, up1_up1, e20, upd_n' (show (6 : Nat) ≠ 7 by decide)]
      exact q
    · intro g eg hd
      have hI2 : IV (lrow g) := by rw [eg]; exact hI
      obtain ⟨g2, a2, b2, c2g, d2⟩ := judgeL (med := med) (qr := r 2) 7 0 g rfl (by rw [← eg]; exact (lr_q (by decide)).symm)
      rw [eg, ← er2] at a2
      have h9 := ne_9999 hmed
      refine ⟨up1 g2 158 (upd (upd (g2 158) 5 med) 10 (r2 11 + 1)), fun Q q => bf' (by decide) (bt' rfl (medianL hI2 (by rw [eg]; exact medR_c (fun i hi => PB_m hi) hmR) (bf' h9 ⟨8, d2 Q ?_⟩))), ?_, ?_, fun c hc2 => by rw [up1_n _ _ (by omega)]; exact b2 c (by omega) (by omega)⟩
      · refine nm' (nm' ?_)
        rw [up1_s, up1_up1, upd_n' (show (10 : Nat) ≠ 5 by decide), show g2 158 10 = r2 11 by rw [← a2]; exact (lr_p (by decide) (by decide)).symm]
        exact q
      · show rwA (upd (upd (g2 158) 5 med) 10 (r2 11 + 1)) (g2 159) (g2 160) (g2 161) = _
        rw [ra_p (by decide) (by decide), ra_5, hs9_n h9, vl9_n h9, show rwA (g2 158) (g2 159) (g2 160) (g2 161) = r2 from a2]
      · exact DI_c (by rw [up1_s, upd_n' (by decide), upd_n' (by decide)]; exact c2g) (by rw [up1_n _ _ (by decide)]; exact b2 159 (by decide) (by decide)) hd
    · obtain ⟨c0, c1, c2', c3⟩ := hV.2.2.2.1
      obtain ⟨m5, m6, m7⟩ := hV.2.2.2.2.1
      refine ⟨rvSet_c (fun j hj => by rw [hv3 1 (by decide) (by decide) (by decide) (by decide) (by decide)]) (fun k hk => hr3 k (by omega) (by omega) (by omega) (by omega) (by omega)) hV.1, rvSky_c (fun j hj => by rw [hv3 2 (by decide) (by decide) (by decide) (by decide) (by decide)]) (fun j hj => by rw [hv3 3 (by decide) (by decide) (by decide) (by decide) (by decide)]) (hr3 13 (by decide) (by decide) (by decide) (by decide) (by decide)) (fun k h1 h2 => hr3 k (by omega) (by omega) (by omega) (by omega) (by omega)) hV.2.1, fun n hn => rvNav_c (fun o h1 h2 => by rw [up1_n _ _ (by omega)]) (fun f hf => hnv n f hn hf) (p4 n hn).1, ⟨?_, ?_, ?_, ?_⟩, ⟨?_, ?_, ?_⟩, rvLog_c (fun j hj => by rw [hv3 14 (by decide) (by decide) (by decide) (by decide) (by decide)]) (hr3 9 (by decide) (by decide) (by decide) (by decide) (by decide)) (hr3 14 (by decide) (by decide) (by decide) (by decide) (by decide)) (fun k h1 h2 => hr3 k (by omega) (by omega) (by omega) (by omega) (by omega)) hV.2.2.2.2.2⟩
      · rw [e12, upd_n' (by decide), hr3 4 (by decide) (by decide) (by decide) (by decide) (by decide)]; exact c0
      · rw [e12, upd_s', upd_n' (show (5 : Nat) ≠ 11 by decide), upd_n' (show (5 : Nat) ≠ 6 by decide), upd_s', if_pos rfl, upd_n' (show (6 : Nat) ≠ 11 by decide), upd_s']
      · rw [e12, upd_n' (by decide), hr3 7 (by decide) (by decide) (by decide) (by decide) (by decide)]; exact c2'
      · rw [e12, upd_n' (by decide), hr3 8 (by decide) (by decide) (by decide) (by decide) (by decide)]; exact c3
      · rw [up1_s, upd_n' (by decide), upd_n' (by decide), hr3 9 (by decide) (by decide) (by decide) (by decide) (by decide)]; exact m5
      · rw [up1_s, upd_s', upd_s', p2 11 (by decide) (by decide), m6]
      · rw [up1_s, upd_n' (by decide), upd_s', upd_n' (by decide), upd_n' (by decide), upd_n' (by decide), p3, m7]
    · obtain ⟨iset, ⟨i4, i5, i6, i7, i8⟩, isky, inav, isum⟩ := hI
      refine ⟨ivSet_c (fun k hk => hr3 k (by omega) (by omega) (by omega) (by omega) (by omega)) iset, ⟨?_, ?_, ?_, ?_, ?_⟩, ivSky_c (hr3 13 (by decide) (by decide) (by decide) (by decide) (by decide)) (fun k h1 h2 => hr3 k (by omega) (by omega) (by omega) (by omega) (by omega)) isky, fun n hn => ivNav_c (fun f hf => hnv n f hn hf) (p4 n hn).2, ?_⟩
      · rw [hr3 4 (by decide) (by decide) (by decide) (by decide) (by decide)]; exact i4
      · rw [upd_n' (by decide), upd_n' (by decide), upd_s']; exact ⟨by decide, by decide⟩
      · rw [upd_n' (by decide), upd_s']; exact hmed
      · rw [hr3 7 (by decide) (by decide) (by decide) (by decide) (by decide)]; exact i7
      · rw [hr3 8 (by decide) (by decide) (by decide) (by decide) (by decide)]; exact i8
      · exact Eq.trans (b := sm7 r) (by rw [hr3 10 (by decide) (by decide) (by decide) (by decide) (by decide)]; exact isum) (sm7_c (fun n hn => by rw [hnv n 4 hn (by decide)]; exact p5 n hn)).symm
  · refine ⟨-5, v, r, if_neg h3, fun Q q => midC_0 hN h3 (bt' rfl q), lawE (fun g eg hd Q q => bf' (by decide) (bt' rfl (medianL (by rw [eg]; exact hI) (by rw [eg]; exact medR_c (fun i hi => PB_m hi) (Or.inl ⟨h3, rfl⟩)) (bt' rfl q)))), hV, hI, fun _ => ⟨rfl, rfl⟩⟩
