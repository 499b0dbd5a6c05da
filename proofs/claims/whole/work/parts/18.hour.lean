/-! An hour of sailing. -/
def hourC (d p : Int32) (c : Nat → Int32) : Nat → Int32 := if c 1 = 9999 then upd (upd c 0 (bd (c 0 + d))) 3 (c 3 + 1) else upd (upd (upd (upd c 0 (bd (c 0 + jmax (-p) (jmin p (c 2 - c 1))))) 1 (bd (c 1 + jmax (-p) (jmin p (c 2 - c 1))))) 0 (bd (bd (c 0 + jmax (-p) (jmin p (c 2 - c 1))) + d))) 3 (c 3 + 1)
theorem hourC_run {k1 : Nat} {d p : Int32} {h : Hp} {Q : Hp → Prop} (q : Q (up1 h k1 (hourC d p (h k1)))) : F_X0_sailOneHour k1 d p h Q := by
  unfold hourC at q
  unfold F_X0_sailOneHour
  refine bc _ (fun h1 => ?_) (fun h1 => ?_)
  · rw [if_pos h1] at q
    simp only [kept_iff, forall_eq, up1_s, up1_up1, upd_n' (show (3 : Nat) ≠ 0 by decide)]
    exact q
  · rw [if_neg h1] at q
    simp only [kept_iff, forall_eq, up1_s, up1_up1, upd_s', upd_n' (show (1 : Nat) ≠ 0 by decide), upd_n' (show (0 : Nat) ≠ 1 by decide), upd_n' (show (3 : Nat) ≠ 0 by decide), upd_n' (show (3 : Nat) ≠ 1 by decide)]
    exact q
def byv (r : Nat → Int32) : Int32 := if r 5 = 0 then 0 else jmax (-(r 1)) (jmin (r 1) (r 7 - r 6))
def hourM (r : Nat → Int32) : Nat → Int32 := upd (upd (upd (upd r 4 (bd (r 4 + byv r))) 6 (bd (r 6 + byv r))) 4 (bd (bd (r 4 + byv r) + r 0))) 8 (r 8 + 1)
theorem jabs_i {x : Int32} (h : x.toInt ≠ -2147483648) : (jabs x).toInt = if 0 ≤ x.toInt then x.toInt else -x.toInt := by
  unfold jabs
  have e0 : (0 : Int32).toInt = 0 := by decide
  by_cases h1 : 0 ≤ x
  · rw [if_pos h1]; rw [fa_le, e0] at h1; rw [if_pos h1]
  · rw [if_neg h1, Int32.zero_sub, fb_negI h]; rw [fa_le, e0] at h1; rw [if_neg h1]
theorem step_eq {p f : Int32} (hp : rng p 0 30) (hf : rng f (-10800) 10800) : jmax (-p) (jmin p f) = (if 0 ≤ f then (if p ≤ jabs f then p else jabs f) else -(if p ≤ jabs f then p else jabs f)) := by
  have ea := jabs_i (x := f) (by have := hf.1; omega)
  have en := fb_negI (x := p) (by have := hp.1; omega)
  have e0 : (0 : Int32).toInt = 0 := by decide
  obtain ⟨p0, p1⟩ := hp
  obtain ⟨f0, f1⟩ := hf
  have eaN : (-(jabs f)).toInt = -(jabs f).toInt := fb_negI (by split at ea <;> omega)
  unfold jmax jmin
  rw [fa_eq]
  simp only [fa_lt, fa_le, e0]
  by_cases h1 : 0 ≤ f.toInt
  · rw [if_pos h1] at ea
    rw [if_pos h1]
    by_cases h2 : f.toInt < p.toInt
    · rw [if_pos h2, en, if_neg (show ¬ p.toInt ≤ (jabs f).toInt by omega)]
      split <;> omega
    · rw [if_neg h2, en, if_pos (show p.toInt ≤ (jabs f).toInt by omega)]
      split <;> omega
  · rw [if_neg h1] at ea
    rw [if_neg h1]
    by_cases h2 : f.toInt < p.toInt
    · rw [if_pos h2, en]
      by_cases h3 : p.toInt ≤ (jabs f).toInt
      · rw [if_pos h3, en]
        split <;> omega
      · rw [if_neg h3, eaN]
        split <;> omega
    · omega
def ivC (r : Nat → Int32) : Prop := rng (r 4) (-5400) 5400 ∧ rng (r 5) 0 1 ∧ rng (r 6) (-5400) 5400 ∧ rng (r 7) (-5400) 5400
theorem far_rng {r : Nat → Int32} (h : ivC r) : rng (r 7 - r 6) (-10800) 10800 := by
  obtain ⟨-, -, ⟨a, b⟩, ⟨c, d⟩⟩ := h
  unfold rng
  rw [fb_subI (by omega) (by omega)]
  omega
theorem hourM_run {hm : Hp} {r : Nat → Int32} (hp : rng (r 1) 0 30) (hC : ivC r) {Q : Hp → Prop} (q : Q (up1 hm 1 (hourM r))) : F_X8_passHour (up1 hm 1 r) Q := by
  have hs := step_eq hp (far_rng hC)
  unfold F_X8_passHour
  simp only [up1_1, sizeOf_iff, bounded_iff, up1_up1, forall_eq, upd_s', upd_n' (show (6 : Nat) ≠ 4 by decide), upd_n' (show (4 : Nat) ≠ 6 by decide), upd_n' (show (0 : Nat) ≠ 4 by decide), upd_n' (show (0 : Nat) ≠ 6 by decide), upd_n' (show (8 : Nat) ≠ 4 by decide), upd_n' (show (8 : Nat) ≠ 6 by decide)]
  unfold hourM byv at q
  by_cases h5 : r 5 = 0
  · simp only [h5, if_true] at q
    exact bc _ (fun _ => bt' h5 q) (fun _ => bt' h5 q)
  · simp only [if_neg h5, hs] at q
    refine bc _ (fun h1 => bf' h5 (bc _ (fun h2 => ?_) (fun h2 => ?_))) (fun h1 => bf' h5 (bc _ (fun h2 => ?_) (fun h2 => ?_)))
    · simp only [if_pos h1, if_pos h2] at q; exact q
    · simp only [if_pos h1, if_neg h2] at q; exact q
    · simp only [if_neg h1, if_pos h2] at q; exact q
    · simp only [if_neg h1, if_neg h2] at q; exact q
def crsR (c r : Nat → Int32) : Prop := c 0 = r 4 ∧ c 1 = (if r 5 = 1 then r 6 else 9999) ∧ c 2 = r 7 ∧ c 3 = r 8
theorem r01 {x : Int32} (h : rng x 0 1) : x = 0 ∨ x = 1 := by
  obtain ⟨k, hk, e⟩ := rngN (n := 1) h (by decide)
  rw [e]
  rcases (show k = 0 ∨ k = 1 by omega) with rfl | rfl
  · exact Or.inl rfl
  · exact Or.inr rfl
theorem bd_id {x : Int32} (h : rng x (-5400) 5400) : bd x = x := by
  unfold bd
  rw [if_neg (by rw [fa_lt, show (-5400 : Int32).toInt = -5400 by decide]; have := h.1; omega), if_neg (by rw [fa_lt, show (5400 : Int32).toInt = 5400 by decide]; have := h.2; omega)]
theorem hour_crs {c r : Nat → Int32} (hC : ivC r) (h : crsR c r) : crsR (hourC (r 0) (r 1) c) (hourM r) := by
  obtain ⟨h0, h1, h2, h3⟩ := h
  have m4 : hourM r 4 = bd (bd (r 4 + byv r) + r 0) := by unfold hourM; rw [upd_n' (by decide), upd_s']
  have m6 : hourM r 6 = bd (r 6 + byv r) := by unfold hourM; rw [upd_n' (by decide), upd_n' (by decide), upd_s']
  have m5 : hourM r 5 = r 5 := by unfold hourM; rw [upd_n' (by decide), upd_n' (by decide), upd_n' (by decide), upd_n' (by decide)]
  have m7 : hourM r 7 = r 7 := by unfold hourM; rw [upd_n' (by decide), upd_n' (by decide), upd_n' (by decide), upd_n' (by decide)]
  have m8 : hourM r 8 = r 8 + 1 := by unfold hourM; rw [upd_s']
  unfold crsR
  rw [m4, m5, m6, m7, m8]
  unfold hourC
  rcases r01 hC.2.1 with e | e
  · have hb : byv r = 0 := by unfold byv; rw [if_pos e]
    have h1' : c 1 = 9999 := by rw [h1, if_neg (by rw [e]; decide)]
    rw [if_pos h1', hb, Int32.add_zero, bd_id hC.1]
    refine ⟨?_, ?_, ?_, ?_⟩
    · rw [upd_n' (by decide), upd_s', h0]
    · rw [upd_n' (by decide), upd_n' (by decide), h1', if_neg (by rw [e]; decide)]
    · rw [upd_n' (by decide), upd_n' (by decide), h2]
    · rw [upd_s', h3]
  · have hb : byv r = jmax (-(r 1)) (jmin (r 1) (r 7 - r 6)) := by unfold byv; rw [if_neg (by rw [e]; decide)]
    rw [if_pos e] at h1
    rw [if_neg (by rw [h1]; exact ne_9999 hC.2.2.1), h0, h1, h2, ← hb, if_pos e]
    refine ⟨?_, ?_, ?_, ?_⟩
    · rw [upd_n' (by decide), upd_s']
    · rw [upd_n' (by decide), upd_n' (by decide), upd_s']
    · rw [upd_n' (by decide), upd_n' (by decide), upd_n' (by decide), upd_n' (by decide), h2]
    · rw [upd_s', h3]
theorem hour_ivC {r : Nat → Int32} (hC : ivC r) : ivC (hourM r) := by
  unfold ivC hourM
  simp only [upd_s', upd_n' (show (4 : Nat) ≠ 8 by decide), upd_n' (show (5 : Nat) ≠ 8 by decide), upd_n' (show (5 : Nat) ≠ 4 by decide), upd_n' (show (5 : Nat) ≠ 6 by decide), upd_n' (show (6 : Nat) ≠ 8 by decide), upd_n' (show (6 : Nat) ≠ 4 by decide), upd_n' (show (7 : Nat) ≠ 8 by decide), upd_n' (show (7 : Nat) ≠ 4 by decide), upd_n' (show (7 : Nat) ≠ 6 by decide)]
  exact ⟨bd_rng _, hC.2.1, bd_rng _, hC.2.2.2⟩
theorem hour_out {r : Nat → Int32} {k : Nat} (h : k ≠ 4 ∧ k ≠ 6 ∧ k ≠ 8) : hourM r k = r k := by
  unfold hourM; rw [upd_n' h.2.2, upd_n' h.1, upd_n' h.2.1, upd_n' h.1]
/-- an hour on a voyage -/
def hv (v : Nat → Nat → Int32) : Nat → Nat → Int32 := up1 v 12 (hourC (v 1 0) (v 1 1) (v 12))
theorem hour_RV {v : Nat → Nat → Int32} {r : Nat → Int32} (hV : RVv v r) (hC : ivC r) : RVv (hv v) (hourM r) := by
  obtain ⟨hset, hsky, hnav, hcrs, hmisc, hlog⟩ := hV
  have hn : ∀ o, o ≠ 12 → hv v o = v o := fun o ho => up1_n _ _ ho
  refine ⟨rvSet_c (fun j hj => by rw [hn 1 (by decide)]) (fun k hk => hour_out (by omega)) hset, rvSky_c (fun j hj => by rw [hn 2 (by decide)]) (fun j hj => by rw [hn 3 (by decide)]) (hour_out (by decide)) (fun k h1 h2 => hour_out (by omega)) hsky, fun n hn2 => rvNav_c (fun o h1 h2 => by rw [hn o (by omega)]) (nv_c hn2 (fun k h1 h2 => hour_out (by omega))) (hnav n hn2), ?_, rvMisc_c (fun j h1 h2 => by rw [hn 0 (by decide)]) (hour_out (by decide)) (hour_out (by decide)) (hour_out (by decide)) hmisc, rvLog_c (fun j hj => by rw [hn 14 (by decide)]) (hour_out (by decide)) (hour_out (by decide)) (fun k h1 h2 => hour_out (by omega)) hlog⟩
  have e : hv v 12 = hourC (r 0) (r 1) (v 12) := by unfold hv; rw [up1_s, hset 0 (by decide), hset 1 (by decide)]
  unfold rvCrs
  rw [e]
  exact hour_crs hC hcrs
