/-! An hour of sailing. -/
def hourC (d p : Int32) (c : Nat → Int32) : Nat → Int32 := if c 1 = 9999 then upd (upd c 0 (bd (c 0 + d))) 3 (c 3 + 1) else upd (upd (upd (upd c 0 (bd (c 0 + jmax (-p) (jmin p (c 2 - c 1))))) 1 (bd (c 1 + jmax (-p) (jmin p (c 2 - c 1))))) 0 (bd (bd (c 0 + jmax (-p) (jmin p (c 2 - c 1))) + d))) 3 (c 3 + 1)
theorem hourC_run {k1 : Nat} {d p : Int32} {h : Hp} {Q : Hp → Prop} (q : Q (up1 h k1 (hourC d p (h k1)))) : F_X0_sailOneHour k1 d p h Q := by
  unfold hourC at q
  unfold F_X0_sailOneHour
  refine bc _ (fun h1 => ?_) (fun h1 => ?_)
  · rw [if_pos h1] at q
    simp only [kept_iff, forall_eq, up1_s, up1_up1, upd_n' (show (3 : Nat) ≠ 0 by decide)]
    exact q
  · rw [if_neg h1] at q
    simp only [kept_iff, forall_eq, up1_s, up1_up1, upd_s', upd_n' (show (1 : Nat) ≠ 0 by decide), upd_n' (show (0 : Nat) ≠ 1 by decide), upd_n' (show (3 : Nat) ≠ 0 by decide), upd_n' (show (3 : Nat) ≠ 1 by decide)]
    exact q
def byv (r : Nat → Int32) : Int32 := if r 5 = 0 then 0 else jmax (-(r 1)) (jmin (r 1) (r 7 - r 6))
def hourM (r : Nat → Int32) : Nat → Int32 := upd (upd (upd (upd r 4 (bd (r 4 + byv r))) 6 (bd (r 6 + byv r))) 4 (bd (bd (r 4 + byv r) + r 0))) 8 (r 8 + 1)
theorem jabs_i {x : Int32} (h : x.toInt ≠ -2147483648) : (jabs x).toInt = if 0 ≤ x.toInt then x.toInt else -x.toInt := by
  unfold jabs
  have e0 : (0 : Int32).toInt = 0 := by decide
  by_cases h1 : 0 ≤ x
  · rw [if_pos h1]; rw [fa_le, e0] at h1; rw [if_pos h1]
  · rw [if_neg h1, Int32.zero_sub, fb_negI h]; rw [fa_le, e0] at h1; rw [if_neg h1]
theorem step_eq {p f : Int32} (hp : rng p 0 30) (hf : rng f (-10800) 10800) : jmax (-p) (jmin p f) = (if 0 ≤ f then (if p ≤ jabs f then p else jabs f) else -(if p ≤ jabs f then p else jabs f)) := by
  have ea := jabs_i (x := f) (by have := hf.1; omega)
  have en := fb_negI (x := p) (by have := hp.1; omega)
  have e0 : (0 : Int32).toInt = 0 := by decide
  obtain ⟨p0, p1⟩ := hp
  obtain ⟨f0, f1⟩ := hf
  have eaN : (-(jabs f)).toInt = -(jabs f).toInt := fb_negI (by split at ea <;> omega)
  unfold jmax jmin
  rw [fa_eq]
  simp only [fa_lt, fa_le, e0]
  by_cases h1 : 0 ≤ f.toInt
  · rw [if_pos h1] at ea
    rw [if_pos h1]
    by_cases h2 : f.toInt < p.toInt
    · rw [if_pos h2, en, if_neg (show ¬ p.toInt ≤ (jabs f).toInt by omega)]
      split <;> omega
    · rw [if_neg h2, en, if_pos (show p.toInt ≤ (jabs f).toInt by omega)]
      split <;> omega
  · rw [if_neg h1] at ea
    rw [if_neg h1]
    by_cases h2 : f.toInt < p.toInt
    · rw [if_pos h2, en]
      by_cases h3 : p.toInt ≤ (jabs f).toInt
      · rw [if_pos h3, en]
        split <;> omega
      · rw [if_neg h3, eaN]
        split <;> omega
    · omega
def ivC (r : Nat → Int32) : Prop := rng (r 4) (-5400) 5400 ∧ rng (r 5) 0 1 ∧ rng (r 6) (-5400) 5400 ∧ rng (r 7) (-5400) 5400
theorem far_rng {r : Nat → Int32} (h : ivC r) : rng (r 7 - r 6) (-10800) 10800 := by
  obtain ⟨-, -, ⟨a, b⟩, ⟨c, d⟩⟩ := h
  unfold rng
  rw [fb_subI (by omega) (by omega)]
  omega
def crsR (c r : Nat → Int32) : Prop := c 0 = r 4 ∧ c 1 = (if r 5 = 1 then r 6 else 9999) ∧ c 2 = r 7 ∧ c 3 = r 8
theorem r01 {x : Int32} (h : rng x 0 1) : x = 0 ∨ x = 1 := by
  obtain ⟨k, hk, e⟩ := rngN (n := 1) h (by decide)
  rw [e]
  rcases (show k = 0 ∨ k = 1 by omega) with rfl | rfl
  · exact Or.inl rfl
  · exact Or.inr rfl
theorem bd_id {x : Int32} (h : rng x (-5400) 5400) : bd x = x := by
  unfold bd
  rw [if_neg (by rw [fa_lt, show (-5400 : Int32).toInt = -5400 by decide]; have := h.1; omega), if_neg (by rw [fa_lt, show (5400 : Int32).toInt = 5400 by decide]; have := h.2; omega)]
theorem hour_crs {c r : Nat → Int32} (hC : ivC r) (h : crsR c r) : crsR (hourC (r 0) (r 1) c) (hourM r) := by
  obtain ⟨h0, h1, h2, h3⟩ := h
  have m4 : hourM r 4 = bd (bd (r 4 + byv r) + r 0) := by unfold hourM; rw [upd_n' (by decide), upd_s']
  have m6 : hourM r 6 = bd (r 6 + byv r) := by unfold hourM; rw [upd_n' (by decide), upd_n' (by decide), upd_s']
  have m5 : hourM r 5 = r 5 := by unfold hourM; rw [upd_n' (by decide), upd_n' (by decide), upd_n' (by decide), upd_n' (by decide)]
  have m7 : hourM r 7 = r 7 := by unfold hourM; rw [upd_n' (by decide), upd_n' (by decide), upd_n' (by decide), upd_n' (by decide)]
  have m8 : hourM r 8 = r 8 + 1 := by unfold hourM; rw [upd_s']
  unfold crsR
  rw [m4, m5, m6, m7, m8]
  unfold hourC
  rcases r01 hC.2.1 with e | e
  · have hb : byv r = 0 := by unfold byv; rw [if_pos e]
    have h1' : c 1 = 9999 := by rw [h1, if_neg (by rw [e]; decide)]
    rw [if_pos h1', hb, Int32.add_zero, bd_id hC.1]
    refine ⟨?_, ?_, ?_, ?_⟩
    · rw [upd_n' (by decide), upd_s', h0]
    · rw [upd_n' (by decide), upd_n' (by decide), h1', if_neg (by rw [e]; decide)]
    · rw [upd_n' (by decide), upd_n' (by decide), h2]
    · rw [upd_s', h3]
  · have hb : byv r = jmax (-(r 1)) (jmin (r 1) (r 7 - r 6)) := by unfold byv; rw [if_neg (by rw [e]; decide)]
    rw [if_pos e] at h1
    rw [if_neg (by rw [h1]; exact ne_9999 hC.2.2.1), h0, h1, h2, ← hb, if_pos e]
    refine ⟨?_, ?_, ?_, ?_⟩
    · rw [upd_n' (by decide), upd_s']
    · rw [upd_n' (by decide), upd_n' (by decide), upd_s']
    · rw [upd_n' (by decide), upd_n' (by decide), upd_n' (by decide), upd_n' (by decide), h2]
    · rw [upd_s', h3]
theorem hour_ivC {r : Nat → Int32} (hC : ivC r) : ivC (hourM r) := by
  unfold ivC hourM
  simp only [upd_s', upd_n' (show (4 : Nat) ≠ 8 by decide), upd_n' (show (5 : Nat) ≠ 8 by decide), upd_n' (show (5 : Nat) ≠ 4 by decide), upd_n' (show (5 : Nat) ≠ 6 by decide), upd_n' (show (6 : Nat) ≠ 8 by decide), upd_n' (show (6 : Nat) ≠ 4 by decide), upd_n' (show (7 : Nat) ≠ 8 by decide), upd_n' (show (7 : Nat) ≠ 4 by decide), upd_n' (show (7 : Nat) ≠ 6 by decide)]
  exact ⟨bd_rng _, hC.2.1, bd_rng _, hC.2.2.2⟩
theorem hour_out {r : Nat → Int32} {k : Nat} (h : k ≠ 4 ∧ k ≠ 6 ∧ k ≠ 8) : hourM r k = r k := by
  unfold hourM; rw [upd_n' h.2.2, upd_n' h.1, upd_n' h.2.1, upd_n' h.1]
/-- an hour on a voyage -/
def hv (v : Nat → Nat → Int32) : Nat → Nat → Int32 := up1 v 12 (hourC (v 1 0) (v 1 1) (v 12))
theorem hour_RV {v : Nat → Nat → Int32} {r : Nat → Int32} (hV : RVv v r) (hC : ivC r) : RVv (hv v) (hourM r) := by
  obtain ⟨hset, hsky, hnav, hcrs, hmisc, hlog⟩ := hV
  have hn : ∀ o, o ≠ 12 → hv v o = v o := fun o ho => up1_n _ _ ho
  refine ⟨rvSet_c (fun j hj => by rw [hn 1 (by decide)]) (fun k hk => hour_out (by omega)) hset, rvSky_c (fun j hj => by rw [hn 2 (by decide)]) (fun j hj => by rw [hn 3 (by decide)]) (hour_out (by decide)) (fun k h1 h2 => hour_out (by omega)) hsky, fun n hn2 => rvNav_c (fun o h1 h2 => by rw [hn o (by omega)]) (nv_c hn2 (fun k h1 h2 => hour_out (by omega))) (hnav n hn2), ?_, rvMisc_c (fun j h1 h2 => by rw [hn 0 (by decide)]) (hour_out (by decide)) (hour_out (by decide)) (hour_out (by decide)) hmisc, rvLog_c (fun j hj => by rw [hn 14 (by decide)]) (hour_out (by decide)) (hour_out (by decide)) (fun k h1 h2 => hour_out (by omega)) hlog⟩
  have e : hv v 12 = hourC (r 0) (r 1) (v 12) := by unfold hv; rw [up1_s, hset 0 (by decide), hset 1 (by decide)]
  unfold rvCrs
  rw [e]
  exact hour_crs hC hcrs
/-! Sailing. -/
def hvs : Nat → (Nat → Nat → Int32) → (Nat → Nat → Int32)
  | 0, v => v
  | n + 1, v => hvs n (hv v)
def hrs : Nat → (Nat → Int32) → (Nat → Int32)
  | 0, r => r
  | n + 1, r => hrs n (hourM r)
theorem sailC {b X : Nat} {hc : Hp} {Q : Int32 → Hp → Prop} (hX : X ≤ 99) : ∀ (m j : Nat) (v : Nat → Nat → Int32), j + m = X → Q (hvs m v 12 0 + 5400) (cv b hc (hvs m v)) → F_X6_sailHours_L34 b (m + 1) (nI X) (nI j) (cv b hc v) Q := by
  intro m
  induction m with
  | zero =>
    intro j v e q
    refine bt' ?_ ?_
    · rw [nI_leI (by omega) (by omega)]; omega
    · simp only [cv_12]; exact q
  | succ m ih =>
    intro j v e q
    refine bf' ?_ (hourC_run ?_)
    · rw [nI_leI (by omega) (by omega)]; omega
    · intro x hx
      rw [hx, nI_1, cv_12, cv_1, cu_12]
      exact ih (j + 1) (hv v) (by omega) q
theorem hrs_out : ∀ (m : Nat) (r : Nat → Int32) (k : Nat), (k ≠ 4 ∧ k ≠ 6 ∧ k ≠ 8) → hrs m r k = r k
  | 0, _, _, _ => rfl
  | m + 1, r, k, h => (hrs_out m (hourM r) k h).trans (hour_out h)
theorem hourM_8 (r : Nat → Int32) : hourM r 8 = r 8 + 1 := by unfold hourM; rw [upd_s']
theorem hrs_8 : ∀ (m H : Nat) (r : Nat → Int32), r 8 = nI H → hrs m r 8 = nI (H + m)
  | 0, _, _, h => h
  | m + 1, H, r, h => by
    show hrs m (hourM r) 8 = nI (H + (m + 1))
    rw [hrs_8 m (H + 1) (hourM r) (by rw [hourM_8, h, nI_1]), show H + 1 + m = H + (m + 1) by omega]
theorem hrs_RV : ∀ (m : Nat) (v : Nat → Nat → Int32) (r : Nat → Int32), RVv v r → ivC r → RVv (hvs m v) (hrs m r) ∧ ivC (hrs m r)
  | 0, _, _, h, hC => ⟨h, hC⟩
  | m + 1, v, r, h, hC => hrs_RV m (hv v) (hourM r) (hour_RV h hC) (hour_ivC hC)
theorem ivCrs_C {r : Nat → Int32} (h : ivCrs r) : ivC r := ⟨h.1, h.2.1, h.2.2.1, h.2.2.2.1⟩
theorem hrs_IV {m H : Nat} {r : Nat → Int32} (hI : IV r) (e : r 8 = nI H) (hH : H + m ≤ 9999) (hC : ivC (hrs m r)) : IV (hrs m r) := by
  obtain ⟨iset, icrs, isky, inav, isum⟩ := hI
  refine ⟨ivSet_c (fun j hj => hrs_out _ _ _ (by omega)) iset, ⟨hC.1, hC.2.1, hC.2.2.1, hC.2.2.2, ?_⟩, ivSky_c (hrs_out _ _ _ (by omega)) (fun k h1 h2 => hrs_out _ _ _ (by omega)) isky, fun n hn => ivNav_c (nv_c hn (fun k h1 h2 => hrs_out _ _ _ (by omega))) (inav n hn), ?_⟩
  · rw [hrs_8 m H r e]; unfold rng; rw [nI_toInt (by omega)]; omega
  · exact Eq.trans (b := sm7 r) (by rw [hrs_out _ _ _ (by omega)]; exact isum) (sm7_c (fun n hn => nv_c hn (fun k h1 h2 => hrs_out _ _ _ (by omega)) 4 (by decide))).symm
/-! The end of a night. -/
def shl (i : Nat) (r : Nat → Int32) : Nat → Int32 := fun k => if 87 + i < k ∧ k < 119 then r (k - 4) else r k
theorem shl_step {i : Nat} {r : Nat → Int32} (h : 4 ≤ i) (h2 : i ≤ 31) : upd (shl i r) (87 + i) (shl i r (83 + i)) = shl (i - 1) r := by
  funext k
  by_cases h1 : k = 87 + i
  · subst h1
    rw [upd_s']
    unfold shl
    rw [if_neg (by omega), if_pos (by omega), show 87 + i - 4 = 83 + i by omega]
  · rw [upd_n' h1]
    unfold shl
    by_cases h3 : 87 + i < k ∧ k < 119
    · rw [if_pos h3, if_pos (by omega)]
    · rw [if_neg h3, if_neg (by omega)]
theorem shl_31 (r : Nat → Int32) : shl 31 r = r := by
  funext k
  unfold shl
  rw [if_neg (by omega)]
def eP (i : Nat) (r r' : Nat → Int32) : Prop := (∀ k, k < 31 ∨ 87 ≤ k → r' k = r k) ∧ ∀ n f, n < 7 → f < 8 → nv r' n f = if n < i ∧ (f = 5 ∨ f = 6 ∨ ((f = 3 ∨ f = 7) ∧ nv r n 7 = 2)) then 0 else nv r n f
theorem f8 {f : Nat} (h : f < 8) : f = 0 ∨ f = 1 ∨ f = 2 ∨ f = 3 ∨ f = 4 ∨ f = 5 ∨ f = 6 ∨ f = 7 := by omega
theorem eP_2 {i : Nat} {r r' : Nat → Int32} (hi : i < 7) (h : eP i r r') (h2 : nv r i 7 = 2) : eP (i + 1) r (upd (upd (upd (upd r' (31 + 8 * i + 5) 0) (31 + 8 * i + 6) 0) (31 + 8 * i + 3) 0) (31 + 8 * i + 7) 0) := by
  refine ⟨fun k hk => by rw [upd_n' (by omega), upd_n' (by omega), upd_n' (by omega), upd_n' (by omega)]; exact h.1 k hk, fun n f hn hf => ?_⟩
  rw [nv_upd (by decide) hf, nv_upd (by decide) hf, nv_upd (by decide) hf, nv_upd (by decide) hf, h.2 n f hn hf]
  by_cases hni : n = i
  · subst hni
    rcases f8 hf with rfl | rfl | rfl | rfl | rfl | rfl | rfl | rfl <;> simp [h2]
  · have : (n < i + 1 ↔ n < i) := by omega
    simp [hni, this]
theorem eP_1 {i : Nat} {r r' : Nat → Int32} (hi : i < 7) (h : eP i r r') (h2 : ¬ nv r i 7 = 2) : eP (i + 1) r (upd (upd (upd (upd r' (31 + 8 * i + 5) 0) (31 + 8 * i + 6) 0) (31 + 8 * i + 3) (nv r i 3)) (31 + 8 * i + 7) (nv r i 7)) := by
  refine ⟨fun k hk => by rw [upd_n' (by omega), upd_n' (by omega), upd_n' (by omega), upd_n' (by omega)]; exact h.1 k hk, fun n f hn hf => ?_⟩
  rw [nv_upd (by decide) hf, nv_upd (by decide) hf, nv_upd (by decide) hf, nv_upd (by decide) hf, h.2 n f hn hf]
  by_cases hni : n = i
  · subst hni
    rcases f8 hf with rfl | rfl | rfl | rfl | rfl | rfl | rfl | rfl <;> simp [h2]
  · have : (n < i + 1 ↔ n < i) := by omega
    simp [hni, this]
def eV (i : Nat) (v : Nat → Nat → Int32) : Nat → Nat → Int32 := fun o j => if o = 10 then (if j < i then 9999 else v 10 j) else if o = 11 then (if j < i ∧ v 11 j = 2 then 0 else v 11 j) else if o = 8 then (if j < i ∧ v 11 j = 2 then 0 else v 8 j) else v o j
theorem eV_0 (v : Nat → Nat → Int32) : eV 0 v = v := by
  funext o j
  unfold eV
  by_cases h1 : o = 10
  · subst h1; simp
  · by_cases h2 : o = 11
    · subst h2; simp
    · by_cases h3 : o = 8
      · subst h3; simp
      · simp [h1, h2, h3]
theorem eV_2 {i : Nat} {v : Nat → Nat → Int32} (h : v 11 i = 2) : up1 (up1 (up1 (eV i v) 10 (upd (eV i v 10) i 9999)) 11 (upd (eV i v 11) i 0)) 8 (upd (eV i v 8) i 0) = eV (i + 1) v := by
  funext o j
  have hj : j ≠ i → (j < i + 1 ↔ j < i) := fun z => by omega
  unfold up1 upd eV
  by_cases h1 : o = 10
  · subst h1
    by_cases h4 : j = i
    · subst h4; simp
    · simp [h4, hj h4]
  · by_cases h2 : o = 11
    · subst h2
      by_cases h4 : j = i
      · subst h4; simp [h]
      · simp [h4, hj h4]
    · by_cases h3 : o = 8
      · subst h3
        by_cases h4 : j = i
        · subst h4; simp [h]
        · simp [h4, hj h4]
      · simp [h1, h2, h3]
theorem eV_1 {i : Nat} {v : Nat → Nat → Int32} (h : ¬ v 11 i = 2) : up1 (eV i v) 10 (upd (eV i v 10) i 9999) = eV (i + 1) v := by
  funext o j
  have hj : j ≠ i → (j < i + 1 ↔ j < i) := fun z => by omega
  unfold up1 upd eV
  by_cases h1 : o = 10
  · subst h1
    by_cases h4 : j = i
    · subst h4; simp
    · simp [h4, hj h4]
  · by_cases h2 : o = 11
    · subst h2
      by_cases h4 : j = i
      · subst h4; simp [h]
      · simp [hj h4]
    · by_cases h3 : o = 8
      · subst h3
        by_cases h4 : j = i
        · subst h4; simp [h]
        · simp [hj h4]
      · simp [h1, h2, h3]
theorem eV_11 {i : Nat} {v : Nat → Nat → Int32} : eV i v 11 i = v 11 i := by
  unfold eV; simp
theorem eV_82 {i : Nat} {v : Nat → Nat → Int32} (h : v 11 i = 2) : eV (i + 1) v 8 i = 0 := by
  unfold eV; simp [h]
theorem endsC {b : Nat} {hc : Hp} {v : Nat → Nat → Int32} {Q : Hp → Prop} (q : Q (cv b hc (eV 7 v))) : ∀ (m i : Nat), i + m = 7 → F_X1_endNight_L2 b (m + 1) (nI i) (cv b hc (eV i v)) Q
  | 0, i, e => by
    obtain rfl : i = 7 := by omega
    exact bt' (by decide) q
  | m + 1, i, e => by
    have hi : i < 7 := by omega
    have hge : ¬ (7 : Int32) ≤ nI i := nI_ge (a := i) (b := 7) hi (by decide)
    refine bf' hge ⟨vpn hi (by decide), ?_⟩
    simp only [clN (show i < 2 ^ 31 by omega), cv_10, cu_10, forall_eq, cv_11, cu_11, cv_8, cu_8, up1_n _ _ (show (11 : Nat) ≠ 10 by decide), up1_n _ _ (show (8 : Nat) ≠ 10 by decide), up1_n _ _ (show (8 : Nat) ≠ 11 by decide), eV_11, nI_1]
    refine ⟨vpn hi (by decide), bc _ (fun h => ⟨vpn hi (by decide), vpn hi (by decide), ?_⟩) (fun h => ?_)⟩
    · rw [eV_2 h]; exact endsC q m (i + 1) (by omega)
    · rw [eV_1 h]; exact endsC q m (i + 1) (by omega)
