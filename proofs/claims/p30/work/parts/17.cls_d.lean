/-! The median query, and the agreement. -/
theorem navs_of {v : Nat → Nat → Int32} {r : Nat → Int32} (hV : RVv v r) (hI : IV r) : navs v r := fun n hn => ⟨hV.2.2.1 n hn, hI.2.2.2.1 n hn⟩
/-- the state within the quarrel -/
def jP (v : Nat → Nat → Int32) (r : Nat → Int32) (v' : Nat → Nat → Int32) (c : Int32) (r' : Nat → Int32) : Prop := (∀ o, o ≠ 8 → o ≠ 10 → o ≠ 11 → v' o = v o) ∧ (∀ k, (k < 31 ∨ 87 ≤ k) → k ≠ 12 → r' k = r k) ∧ r' 12 = r 12 + c ∧ navs v' r' ∧ ∀ n, n < 7 → nv r' n 4 = nv r n 4
theorem jstep {v v' v'' : Nat → Nat → Int32} {r r' r'' : Nat → Int32} {c d : Int32} {i : Nat} (hi : i < 7) (h : jP v r v' c r') (hv : ∀ o, o ≠ 8 → o ≠ 10 → o ≠ 11 → v'' o = v' o) (hvn : ∀ o j, j ≠ i → v'' o j = v' o j) (hr : ∀ k, (k < 31 ∨ 87 ≤ k) → k ≠ 12 → r'' k = r' k) (h12 : r'' 12 = r' 12 + d) (hrn : ∀ n f, n < 7 → f < 8 → n ≠ i → nv r'' n f = nv r' n f) (hri : ∀ f, f < 8 → f ≠ 3 → f ≠ 5 → f ≠ 6 → f ≠ 7 → nv r'' i f = nv r' i f) (h8 : v'' 8 i = nv r'' i 3) (h5 : nv r'' i 5 = 0) (h6 : nv r'' i 6 = 0) (h10 : v'' 10 i = 9999) (h7 : v'' 11 i = nv r'' i 7) (h77 : rng (nv r'' i 7) 0 2) : jP v r v'' (c + d) r'' := by
  obtain ⟨p1, p2, p3, p4, p5⟩ := h
  refine ⟨fun o a b c => (hv o a b c).trans (p1 o a b c), fun k a b => (hr k a b).trans (p2 k a b), by rw [h12, p3, Int32.add_assoc], fun n hn => ?_, fun n hn => ?_⟩
  · by_cases hni : n = i
    · subst hni
      obtain ⟨⟨a5, a6, a7, a8, a9, a10, a11⟩, ⟨j0, j1, j2, j5, j6, j7⟩⟩ := p4 n hn
      refine ⟨⟨?_, ?_, ?_, h8, ?_, ?_, h7⟩, ?_, ?_, ?_, ?_, ?_, h77⟩
      · rw [hv 5 (by decide) (by decide) (by decide), hri 0 (by decide) (by decide) (by decide) (by decide) (by decide)]; exact a5
      · rw [hv 6 (by decide) (by decide) (by decide), hri 1 (by decide) (by decide) (by decide) (by decide) (by decide)]; exact a6
      · rw [hv 7 (by decide) (by decide) (by decide), hri 2 (by decide) (by decide) (by decide) (by decide) (by decide)]; exact a7
      · rw [hv 9 (by decide) (by decide) (by decide), hri 4 (by decide) (by decide) (by decide) (by decide) (by decide)]; exact a9
      · rw [h10, h5, if_neg (by decide)]
      · rw [hri 0 (by decide) (by decide) (by decide) (by decide) (by decide)]; exact j0
      · rw [hri 1 (by decide) (by decide) (by decide) (by decide) (by decide)]; exact j1
      · rw [hri 2 (by decide) (by decide) (by decide) (by decide) (by decide)]; exact j2
      · rw [h5]; exact rng0 (by decide) (by decide)
      · rw [h6]; exact rng0 (by decide) (by decide)
    · exact ⟨rvNav_c (fun o _ _ => hvn o n hni) (fun f hf => hrn n f hn hf hni) (p4 n hn).1, ivNav_c (fun f hf => hrn n f hn hf hni) (p4 n hn).2⟩
  · by_cases hni : n = i
    · subst hni
      rw [hri 4 (by decide) (by decide) (by decide) (by decide) (by decide)]; exact p5 n hn
    · rw [hrn n 4 hn (by decide) hni]; exact p5 n hn
theorem ne_m6 {i : Nat} (hi : i < 7) : ¬ nI i = -6 := fun e => nI_pos (n := i) (by omega) (by rw [e]; decide)
/-! The agreement, both sides. -/
/-! Copies of voyages and rows. -/
def VEq (v' v : Nat → Nat → Int32) : Prop := (∀ j, j < 4 → v' 1 j = v 1 j) ∧ (∀ j, j < 2 → v' 2 j = v 2 j) ∧ (∀ s, s < 8 → v' 3 s = v 3 s) ∧ (∀ o n, 5 ≤ o → o ≤ 11 → n < 7 → v' o n = v o n) ∧ (∀ j, j < 4 → v' 12 j = v 12 j) ∧ (∀ j, 5 ≤ j → j < 8 → v' 0 j = v 0 j) ∧ (∀ j, j < 32 → v' 14 j = v 14 j)
theorem VEq_of {v' v : Nat → Nat → Int32} (h : ∀ o, o < 15 → v' o = v o) : VEq v' v :=
  ⟨fun j _ => by rw [h 1 (by decide)], fun j _ => by rw [h 2 (by decide)], fun j _ => by rw [h 3 (by decide)], fun o n h1 h2 _ => by rw [h o (by omega)], fun j _ => by rw [h 12 (by decide)], fun j _ _ => by rw [h 0 (by decide)], fun j _ => by rw [h 14 (by decide)]⟩
theorem VEq_trans {a b c : Nat → Nat → Int32} (h : VEq a b) (h2 : VEq b c) : VEq a c := by
  obtain ⟨a1, a2, a3, a4, a5, a6, a7⟩ := h
  obtain ⟨b1, b2, b3, b4, b5, b6, b7⟩ := h2
  exact ⟨fun j hj => (a1 j hj).trans (b1 j hj), fun j hj => (a2 j hj).trans (b2 j hj), fun j hj => (a3 j hj).trans (b3 j hj), fun o n x y z => (a4 o n x y z).trans (b4 o n x y z), fun j hj => (a5 j hj).trans (b5 j hj), fun j hj z => (a6 j hj z).trans (b6 j hj z), fun j hj => (a7 j hj).trans (b7 j hj)⟩
theorem RVv_c {v' v : Nat → Nat → Int32} {r' r : Nat → Int32} (h : VEq v' v) (hr : ∀ k, k < 119 → r' k = r k) (hV : RVv v r) : RVv v' r' := by
  obtain ⟨a1, a2, a3, a4, a5, a6, a7⟩ := h
  exact ⟨rvSet_c a1 (fun k hk => hr k (by omega)) hV.1, rvSky_c a2 a3 (hr 13 (by decide)) (fun k h1 h2 => hr k (by omega)) hV.2.1, fun n hn => rvNav_c (fun o h1 h2 => a4 o n h1 h2 hn) (fun f hf => hr _ (by omega)) (hV.2.2.1 n hn), rvCrs_c a5 (fun k h1 h2 => hr k (by omega)) hV.2.2.2.1, rvMisc_c a6 (hr 9 (by decide)) (hr 11 (by decide)) (hr 12 (by decide)) hV.2.2.2.2.1, rvLog_c a7 (hr 9 (by decide)) (hr 14 (by decide)) (fun k h1 h2 => hr k (by omega)) hV.2.2.2.2.2⟩
theorem IV_c {r' r : Nat → Int32} (hr : ∀ k, k < 119 → r' k = r k) (h : IV r) : IV r' := by
  obtain ⟨iset, icrs, isky, inav, isum⟩ := h
  exact ⟨ivSet_c (fun k hk => hr k (by omega)) iset, ivCrs_c (fun k h1 h2 => hr k (by omega)) icrs, ivSky_c (hr 13 (by decide)) (fun k h1 h2 => hr k (by omega)) isky, fun n hn => ivNav_c (fun f hf => hr _ (by omega)) (inav n hn), Eq.trans (b := sm7 r) (by rw [hr 10 (by decide)]; exact isum) (sm7_c (fun n hn => hr _ (by omega))).symm⟩
theorem RV_in {b : Nat} {h : Hp} {v : Nat → Nat → Int32} {r : Nat → Int32} (hV : RVv v r) : RV b (cv b h v) r := RVv_c (VEq_of (fun o ho => cv_at ho)) (fun _ _ => rfl) hV
theorem RV_out {b b2 : Nat} {h : Hp} {v : Nat → Nat → Int32} {r : Nat → Int32} (hd : b2 + 15 ≤ b ∨ b + 15 ≤ b2) (hV : RV b2 h r) : RV b2 (cv b h v) r := RVv_c (VEq_of (fun o ho => cv_out (by omega))) (fun _ _ => rfl) hV
theorem RV_fr {b : Nat} {h h' : Hp} {r : Nat → Int32} (hd : ∀ c, b ≤ c → c < b + 15 → h' c = h c) (hV : RV b h r) : RV b h' r := RVv_c (VEq_of (fun o ho => hd _ (by omega) (by omega))) (fun _ _ => rfl) hV
theorem copyC {b1 b2 : Nat} {h : Hp} (hd : b1 + 15 ≤ b2 ∨ b2 + 15 ≤ b1) : ∃ v' : Nat → Nat → Int32, VEq v' (fun o => h (b2 + o)) ∧ ∀ Q : Hp → Prop, Q (cv b1 h v') → F_X6_copyFrom b1 b2 h Q := by
  have o0 : ∀ v, cv b1 h v b2 = h b2 := fun v => cv_out (by omega)
  have o1 : ∀ v, cv b1 h v (b2 + 1) = h (b2 + 1) := fun v => cv_out (by omega)
  have o2 : ∀ v, cv b1 h v (b2 + 2) = h (b2 + 2) := fun v => cv_out (by omega)
  have o3 : ∀ v, cv b1 h v (b2 + 3) = h (b2 + 3) := fun v => cv_out (by omega)
  have o5 : ∀ v, cv b1 h v (b2 + 5) = h (b2 + 5) := fun v => cv_out (by omega)
  have o6 : ∀ v, cv b1 h v (b2 + 6) = h (b2 + 6) := fun v => cv_out (by omega)
  have o7 : ∀ v, cv b1 h v (b2 + 7) = h (b2 + 7) := fun v => cv_out (by omega)
  have o8 : ∀ v, cv b1 h v (b2 + 8) = h (b2 + 8) := fun v => cv_out (by omega)
  have o9 : ∀ v, cv b1 h v (b2 + 9) = h (b2 + 9) := fun v => cv_out (by omega)
  have o10 : ∀ v, cv b1 h v (b2 + 10) = h (b2 + 10) := fun v => cv_out (by omega)
  have o11 : ∀ v, cv b1 h v (b2 + 11) = h (b2 + 11) := fun v => cv_out (by omega)
  have o12 : ∀ v, cv b1 h v (b2 + 12) = h (b2 + 12) := fun v => cv_out (by omega)
  have o14 : ∀ v, cv b1 h v (b2 + 14) = h (b2 + 14) := fun v => cv_out (by omega)
  refine ⟨fun o => if o = 1 then va_cpy (h (b2 + 1)) (h (b1 + 1)) 0 0 4 else if o = 2 then upd (upd (h (b1 + 2)) 0 (h (b2 + 2) 0)) 1 (h (b2 + 2) 1) else if o = 3 then va_cpy (h (b2 + 3)) (h (b1 + 3)) 0 0 8 else if 5 ≤ o ∧ o ≤ 11 then va_cpy (h (b2 + o)) (h (b1 + o)) 0 0 7 else if o = 12 then upd (upd (upd (upd (h (b1 + 12)) 0 (h (b2 + 12) 0)) 1 (h (b2 + 12) 1)) 2 (h (b2 + 12) 2)) 3 (h (b2 + 12) 3) else if o = 14 then va_cpy (h (b2 + 14)) (h (b1 + 14)) 0 0 32 else if o = 0 then upd (upd (upd (h b1) 5 (h b2 5)) 6 (h b2 6)) 7 (h b2 7) else h (b1 + o), ?_, fun Q q => ?_⟩
  · refine ⟨fun j hj => ?_, fun j hj => ?_, fun j hj => ?_, fun o n h1 h2 h3 => ?_, fun j hj => ?_, fun j h1 h2 => ?_, fun j hj => ?_⟩
    · simp [va_cpy, hj]
    · rcases (show j = 0 ∨ j = 1 by omega) with rfl | rfl <;> simp [upd]
    · simp [va_cpy, hj]
    · simp [va_cpy, h1, h2, h3, show o ≠ 1 by omega, show o ≠ 2 by omega, show o ≠ 3 by omega]
    · rcases (show j = 0 ∨ j = 1 ∨ j = 2 ∨ j = 3 by omega) with rfl | rfl | rfl | rfl <;> simp [upd]
    · rcases (show j = 5 ∨ j = 6 ∨ j = 7 by omega) with rfl | rfl | rfl <;> simp [upd]
    · simp [va_cpy, hj]
  · have es := cv_self b1 h
    rw [← es]
    unfold F_X6_copyFrom F_X5_copyFrom F_X1_copyFrom F_X0_copyFrom F_X3_copyFrom
    simp only [forall_eq, cu_0, cu_1, cu_2, cu_3, cu_5, cu_6, cu_7, cu_8, cu_9, cu_10, cu_11, cu_12, cu_14, cv_0, cv_1, cv_2, cv_3, cv_5, cv_6, cv_7, cv_8, cv_9, cv_10, cv_11, cv_12, cv_14, o0, o1, o2, o3, o5, o6, o7, o8, o9, o10, o11, o12, o14]
    refine cast (congrArg Q ?_) q
    funext c
    unfold cv
    by_cases hc : b1 ≤ c ∧ c < b1 + 15
    · simp only [if_pos hc]
      obtain ⟨o, rfl⟩ : ∃ o, c = b1 + o := ⟨c - b1, by omega⟩
      have ho : o < 15 := by omega
      rw [Nat.add_sub_cancel_left]
      rcases (show o = 0 ∨ o = 1 ∨ o = 2 ∨ o = 3 ∨ o = 4 ∨ o = 5 ∨ o = 6 ∨ o = 7 ∨ o = 8 ∨ o = 9 ∨ o = 10 ∨ o = 11 ∨ o = 12 ∨ o = 13 ∨ o = 14 by omega) with rfl | rfl | rfl | rfl | rfl | rfl | rfl | rfl | rfl | rfl | rfl | rfl | rfl | rfl | rfl <;> simp [up1]
    · simp only [if_neg hc]
def ringP (o n : Nat) : Nat := 23 + 15 * ((o + n) % 7)
theorem ringP_b (o n : Nat) : 23 ≤ ringP o n ∧ ringP o n + 15 ≤ 128 := by
  unfold ringP
  omega
theorem ring_ix {o n : Nat} (ho : o < 7) (hn : n ≤ 6) : (nI o + nI n) - (nI o + nI n) / (7 : Int32) * (7 : Int32) = nI ((o + n) % 7) := by
  rw [nI_add, show (7 : Int32) = nI 7 from rfl, pk_rem (by omega) (by decide) (by decide)]
theorem holdC {hc : Hp} {n o : Nat} (hn : n ≤ 6) (ho : o < 7) (e2 : hc 1 2 = nI n) (e1 : hc 1 1 = nI o) : ∃ v' : Nat → Nat → Int32, VEq v' (fun k => hc (8 + k)) ∧ ∀ Q : Hp → Prop, Q (cv (ringP o n) hc v') → F_X2_hold 8 hc Q := by
  obtain ⟨v', h1, h2⟩ := copyC (b1 := ringP o n) (b2 := 8) (h := hc) (Or.inr (ringP_b o n).1)
  refine ⟨v', h1, fun Q q => ?_⟩
  unfold F_X2_hold
  rw [e1, e2, ring_ix ho hn, clN (by omega)]
  exact ⟨vpn (by omega) (by decide), h2 Q q⟩
def keptN (n o : Nat) (f : Nat → Int32) : Nat → Int32 := if n = 6 then upd f 1 (nI ((o + 1) % 7)) else upd f 2 (nI (n + 1))
theorem keepC {h : Hp} {n o : Nat} {x : Int32} (hn : n ≤ 6) (ho : o < 7) (e2 : h 1 2 = nI n) (e1 : h 1 1 = nI o) (hx : ¬ x < 0) {Q : Int32 → Hp → Prop} (q : Q x (up1 h 1 (keptN n o (h 1)))) : F_X2_keepUnlessError x h Q := by
  unfold keptN at q
  refine bf' hx ?_
  rw [e1, e2, show (1 : Int32) = nI 1 from rfl, ring_ix ho (by decide), nI_add]
  by_cases h6 : n = 6
  · rw [if_pos h6] at q
    exact bt' (by rw [h6]; decide) (nm' q)
  · rw [if_neg h6] at q
    exact bf' (by rw [show (6 : Int32) = nI 6 from rfl, nI_leI (by decide) (by omega)]; omega) (nm' q)
theorem keepE {h : Hp} {x : Int32} (hx : x < 0) {Q : Int32 → Hp → Prop} (q : Q x h) : F_X2_keepUnlessError x h Q := bt' hx q
/-! What is kept between the calls. -/
theorem VEq_refl (v : Nat → Nat → Int32) : VEq v v := VEq_of (fun _ _ => rfl)
theorem ring_ne {o i n c : Nat} (hn : n ≤ 6) (hi : i < n) (h1 : ringP o i ≤ c) (h2 : c < ringP o i + 15) : ¬ (ringP o n ≤ c ∧ c < ringP o n + 15) := by
  unfold ringP at *
  omega
/-! The settings and the navigators' natures. -/
theorem rng_lm {x lo hi : Int32} {l u : Int} (h1 : ¬ x < lo) (h2 : x ≤ hi) (hl : lo.toInt = l) (hu : hi.toInt = u) : rng x l u := rng_in ⟨nlt.mp h1, h2⟩ hl hu
theorem iv_set {r : Nat → Int32} {j : Nat} {x2 : Int32} (hj : j ≤ 3) (h1 : ¬ x2 < stLS j) (h2 : x2 ≤ stMS j) (hI : IV r) : IV (upd r j x2) := by
  obtain ⟨⟨a, b, c, d⟩, icrs, isky, inav, isum⟩ := hI
  refine ⟨?_, ivCrs_c (fun k h1 h2 => upd_n' (by omega)) icrs, ivSky_c (upd_n' (by omega)) (fun k h1 h2 => upd_n' (by omega)) isky, fun n hn => ivNav_c (nv_c hn (fun k h1 h2 => upd_n' (by omega))) (inav n hn), Eq.trans (b := sm7 r) (by rw [upd_n' (by omega)]; exact isum) (sm7_c (fun n hn => nv_c hn (fun k h1 h2 => upd_n' (by omega)) 4 (by decide))).symm⟩
  rcases (show j = 0 ∨ j = 1 ∨ j = 2 ∨ j = 3 by omega) with rfl | rfl | rfl | rfl
  · exact ⟨by rw [upd_s']; exact rng_lm h1 h2 (by decide) (by decide), by rw [upd_n' (by decide)]; exact b, by rw [upd_n' (by decide)]; exact c, by rw [upd_n' (by decide)]; exact d⟩
  · exact ⟨by rw [upd_n' (by decide)]; exact a, by rw [upd_s']; exact rng_lm h1 h2 (by decide) (by decide), by rw [upd_n' (by decide)]; exact c, by rw [upd_n' (by decide)]; exact d⟩
  · exact ⟨by rw [upd_n' (by decide)]; exact a, by rw [upd_n' (by decide)]; exact b, by rw [upd_s']; exact rng_lm h1 h2 (by decide) (by decide), by rw [upd_n' (by decide)]; exact d⟩
  · exact ⟨by rw [upd_n' (by decide)]; exact a, by rw [upd_n' (by decide)]; exact b, by rw [upd_n' (by decide)]; exact c, by rw [upd_s']; exact rng_lm h1 h2 (by decide) (by decide)⟩
theorem add_nn {x y : Int32} {k : Int} (h : rng x (-k) 100000) (hy : y.toInt = k) (hk : 0 ≤ k) (hk2 : k ≤ 100000) : ¬ x + y < 0 := by
  obtain ⟨a, b⟩ := h
  rw [fa_lt, fb_addI (by omega) (by omega), show (0 : Int32).toInt = 0 by decide]
  omega
theorem rng_w {x : Int32} {a b c d : Int} (h : rng x a b) (h1 : c ≤ a) (h2 : b ≤ d) : rng x c d := by
  obtain ⟨p, q⟩ := h
  exact ⟨by omega, by omega⟩
theorem lt4 {j : Nat} (hj : j ≤ 3) : ¬ (4 : Int32) ≤ nI j := nI_ge (a := j) (b := 4) (by omega) (by decide)
theorem lt3 {f : Nat} (hf : f ≤ 2) : ¬ (3 : Int32) ≤ nI f := nI_ge (a := f) (b := 3) (by omega) (by decide)
/-! Undo, save, restore. -/
