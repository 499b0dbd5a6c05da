/-! A call with the history around it, and what undo gives back. -/
def histI (g : Hp) : Prop := ∃ n o : Nat, n ≤ 6 ∧ o < 7 ∧ g 1 2 = nI n ∧ g 1 1 = nI o
/-- the class's cells tell the row -/
def CS (g : Hp) (r : Nat → Int32) : Prop := RVv (fun o => g (8 + o)) r ∧ histI g
/-- what a call gives: its answer x, the next row r', and a step back -/
def CallOK (L : Hp → (Int32 → Hp → Prop) → Prop) (g : Hp) (r : Nat → Int32) (x : Int32) (r' : Nat → Int32) : Prop := ∃ g' : Hp, (∀ Q : Int32 → Hp → Prop, Q x g' → L g Q) ∧ CS g' r' ∧ (∀ c, 158 ≤ c → g' c = g c) ∧ (¬ x < 0 → ∃ (k : Int32) (g2 : Hp), ¬ k < 0 ∧ (∀ Q : Int32 → Hp → Prop, Q k g2 → F_X7_undo g' Q) ∧ CS g2 r ∧ ∀ c, 158 ≤ c → g2 c = g' c)
theorem op_law {B : Nat → Hp → (Int32 → Hp → Prop) → Prop} {D : Hp → (Int32 → Hp → Prop) → Prop} {F : (Nat → Int32) → Int32 × (Nat → Int32)} (hS : SimV B D F) {g : Hp} {r : Nat → Int32} (hC : CS g r) (hI : IV r) (hG : GG r) : LawP D r (F r).1 (F r).2 ∧ IV (F r).2 ∧ ((F r).1 < 0 → (F r).2 = r) ∧ CallOK (fun h Q => F_X2_hold 8 h (fun h_2 => B 8 h_2 (fun r_3 h_4 => F_X2_keepUnlessError r_3 h_4 (fun r_5 h_6 => Q r_5 h_6)))) g r (F r).1 (F r).2 := by
  obtain ⟨hV, n, o, hn, ho, e2, e1⟩ := hC
  have hb := ringP_b o n
  obtain ⟨w, hw, hH⟩ := holdC hn ho e2 e1
  have V1 : RVv (fun k => cv (ringP o n) g w (8 + k)) r := RV_out (b2 := 8) (Or.inl (by omega)) hV
  obtain ⟨x, v', r', eF, hC, hL, hV', hI', herr⟩ := hS 8 (cv (ringP o n) g w) (fun k => cv (ringP o n) g w (8 + k)) r V1 hI hG
  rw [cv_self] at hC
  rw [eF]
  refine ⟨hL, hI', fun hx => (herr hx).2, ?_⟩
  by_cases hx : x < 0
  · obtain ⟨hv, hr⟩ := herr hx
    have hr2 : r' = r := hr
    refine ⟨cv (ringP o n) g w, fun Q q => hH _ (hC _ (keepE hx ?_)), ⟨by rw [hr2]; exact V1, n, o, hn, ho, (by rw [cv_out (by omega)]; exact e2), (by rw [cv_out (by omega)]; exact e1)⟩, fun c hc => cv_out (by omega), fun z => absurd hx z⟩
    rw [hv, cv_self]
    exact q
  · have e8 : cv 8 (cv (ringP o n) g w) v' 1 = g 1 := (cv_out (by omega)).trans (cv_out (by omega))
    obtain ⟨g', eg'⟩ : ∃ g', g' = up1 (cv 8 (cv (ringP o n) g w) v') 1 (keptN n o (g 1)) := ⟨_, rfl⟩
    have g1 : g' 1 = keptN n o (g 1) := by rw [eg', up1_s]
    have gc : ∀ c, c ≠ 1 → ¬ (8 ≤ c ∧ c < 23) → ¬ (ringP o n ≤ c ∧ c < ringP o n + 15) → g' c = g c := fun c h0 h1 h2 => by rw [eg', up1_n _ _ h0, cv_out (by omega), cv_out (by omega)]
    have gv : RVv (fun k => g' (8 + k)) r' := by
      refine RVv_c (VEq_of (fun k hk => ?_)) (fun _ _ => rfl) hV'
      rw [eg', up1_n _ _ (by omega), cv_at hk]
    have gr : ∀ c, ringP o n ≤ c → c < ringP o n + 15 → g' c = cv (ringP o n) g w c := fun c h1 h2 => by rw [eg', up1_n _ _ (by omega), cv_out (by omega)]
    -- the ring after the call: s states below the kept one
    obtain ⟨s, o2, hs, ho2, er, k2, k1⟩ : ∃ s o2 : Nat, s ≤ 5 ∧ o2 < 7 ∧ ringP o2 s = ringP o n ∧ g' 1 2 = nI (s + 1) ∧ g' 1 1 = nI o2 := by
      rw [g1]
      unfold keptN
      by_cases h6 : n = 6
      · subst h6
        refine ⟨5, (o + 1) % 7, by decide, by omega, by unfold ringP; omega, ?_, ?_⟩
        · rw [if_pos rfl, upd_n' (by decide)]; exact e2
        · rw [if_pos rfl, upd_s']
      · refine ⟨n, o, by omega, ho, rfl, ?_, ?_⟩
        · rw [if_neg h6, upd_s']
        · rw [if_neg h6, upd_n' (by decide)]; exact e1
    refine ⟨g', fun Q q => hH _ (hC _ (keepC hn ho (by rw [e8]; exact e2) (by rw [e8]; exact e1) hx (by rw [e8, ← eg']; exact q))), ⟨gv, s + 1, o2, by omega, ho2, k2, k1⟩, fun c hc => gc c (by omega) (by omega) (by omega), fun _ => ?_⟩
    have hb2 := ringP_b o2 s
    obtain ⟨v2, hv2, hC2⟩ := copyC (b1 := 8) (b2 := ringP o2 s) (h := up1 g' 1 (upd (g' 1) 2 (nI s))) (Or.inl hb2.1)
    have hne : ¬ nI (s + 1) = 0 := nI_ne0 (by omega) (by omega)
    refine ⟨nI s, cv 8 (up1 g' 1 (upd (g' 1) 2 (nI s))) v2, nI_pos (by omega), fun Q q => ?_, ⟨?_, s, o2, by omega, ho2, ?_, ?_⟩, fun c hc => by rw [cv_out (by omega), up1_n _ _ (by omega)]⟩
    · refine bf' (by rw [k2]; exact hne) (nm' ?_)
      rw [k2, nI_pred, up1_s, upd_s', upd_n' (show (1 : Nat) ≠ 2 by decide), k1, ring_ix ho2 (by omega), clN (by omega)]
      refine ⟨vpn (by omega) (by decide), hC2 _ ?_⟩
      rw [cv_out (by decide), up1_s, upd_s']
      exact q
    · refine RV_in (RVv_c hv2 (fun _ _ => rfl) (?_ : RVv (fun k => up1 g' 1 (upd (g' 1) 2 (nI s)) (ringP o2 s + k)) r))
      refine RVv_c (VEq_of (fun k hk => ?_)) (fun _ _ => rfl) (RV_in (b := ringP o n) (h := g) (RVv_c hw (fun _ _ => rfl) hV))
      rw [up1_n _ _ (by omega), er]
      exact gr _ (by omega) (by omega)
    · rw [cv_out (by decide), up1_s, upd_s']
    · rw [cv_out (by decide), up1_s, upd_n' (by decide)]; exact k1
/-- what the law hands to a call -/
def ArgsOK (k a b w : Int32) : Prop :=
  (k = 0 ∧ (∃ n : Nat, n < 7 ∧ a = nI n) ∧ ¬ b < 0) ∨ k = 1 ∨ (k = 2 ∧ ∃ X : Nat, 1 ≤ X ∧ X ≤ 99 ∧ a = nI X) ∨ k = 3 ∨ (k = 4 ∧ -5400 ≤ w ∧ w ≤ 5400) ∨ (k = 5 ∧ ¬ b < 0) ∨ (k = 6 ∧ ∃ n : Nat, n < 7 ∧ a = nI n) ∨ (k = 7 ∧ -5400 ≤ w ∧ w ≤ 5400) ∨ (k = 8 ∧ ∃ n f : Nat, n < 7 ∧ f ≤ 2 ∧ a = nI n ∧ b = nI f ∧ ¬ w < stLT f ∧ w ≤ stMT f) ∨ (k = 9 ∧ ∃ j : Nat, j ≤ 3 ∧ b = nI j ∧ ¬ w < stLS j ∧ w ≤ stMS j)
theorem gr_low {r : Nat → Int32} {k : Nat} {x : Int32} (h : k ≠ 8 ∧ k ≠ 9) : GR r (upd r k x) := GR_c (upd_n' (Ne.symm h.1)) (upd_n' (Ne.symm h.2))
theorem jst_89 {med qr : Int32} {i k : Nat} {r : Nat → Int32} (hk : k < 12) : jst med qr i r k = r k := by
  unfold jst
  split
  · split
    · rw [upd_n' (by omega), upd_n' (by omega), upd_n' (by omega), upd_n' (by omega)]
    · split
      · rw [upd_n' (by omega), upd_n' (by omega), upd_n' (by omega), upd_n' (by omega)]
      · rw [upd_n' (by omega), upd_n' (by omega), upd_n' (by omega), upd_n' (by omega), upd_n' (by omega)]
  · rfl
theorem jit_89 {med qr : Int32} {k : Nat} (hk : k < 12) : ∀ (m i : Nat) (r : Nat → Int32), jit med qr m i r k = r k
  | 0, _, _ => rfl
  | m + 1, i, r => (jit_89 hk m (i + 1) (jst med qr i r)).trans (jst_89 hk)
theorem CallOK_map {L L' : Hp → (Int32 → Hp → Prop) → Prop} {g : Hp} {r r' : Nat → Int32} {x : Int32} (h : ∀ Q : Int32 → Hp → Prop, L g Q → L' g Q) (hc : CallOK L g r x r') : CallOK L' g r x r' := by
  obtain ⟨g', a, b⟩ := hc
  exact ⟨g', fun Q q => h Q (a Q q), b⟩
theorem gr_same (r : Nat → Int32) : GR r r := GR_c rfl rfl
theorem gr_comes (x : Int32) (r : Nat → Int32) : GR r (comesF x r).2 := by
  unfold comesF
  split
  · exact gr_same r
  · exact GR_c (by dsimp only; rw [upd_n' (by omega), upd_n' (by omega)]) (by dsimp only; rw [upd_n' (by omega), upd_n' (by omega)])
theorem gr_clouds (x : Int32) (r : Nat → Int32) : GR r (cloudsF x r).2 := by
  unfold cloudsF
  split
  · exact gr_low (by omega)
  · exact gr_same r
theorem gr_sleeps (x : Int32) (r : Nat → Int32) : GR r (sleepsF x r).2 := by
  unfold sleepsF
  split
  · exact gr_low (by omega)
  · split
    · exact gr_low (by omega)
    · exact gr_same r
theorem gr_sights (x y : Int32) (r : Nat → Int32) : GR r (sightsF x y r).2 := by
  unfold sightsF
  split
  · split
    · exact GR_c (by dsimp only; rw [upd_n' (by omega), upd_n' (by omega), upd_n' (by omega), upd_n' (by omega)]) (by dsimp only; rw [upd_n' (by omega), upd_n' (by omega), upd_n' (by omega), upd_n' (by omega)])
    · exact gr_same r
  · exact gr_same r
theorem gr_agrees (r : Nat → Int32) : GR r (agreesF r).2 := by
  unfold agreesF
  split
  · exact GR_c (by dsimp only; rw [upd_n' (by omega), upd_n' (by omega), upd_n' (by omega)]; exact jit_89 (by decide) _ _ _) (by dsimp only; rw [upd_n' (by omega), upd_n' (by omega), upd_n' (by omega)]; exact jit_89 (by decide) _ _ _)
  · exact gr_same r
theorem gr_sails {X : Nat} {r : Nat → Int32} (hX : X ≤ 99) (hI : IV r) (hG : GG r) : GR r (sailsF X r).2 := by
  obtain ⟨H, hH, eH⟩ := rngN (n := 9999) hI.2.1.2.2.2.2 (by decide)
  refine ⟨?_, ?_⟩
  · show (hrs X r 8).toInt ≤ _
    rw [hrs_8 X H r eH, eH, nI_toInt (by omega), nI_toInt (by omega)]
    omega
  · show (hrs X r 9).toInt ≤ _
    rw [hrs_out X r 9 (by decide)]
    omega
theorem gr_ends {nt : Nat} {r : Nat → Int32} (hnt : nt ≤ 999) (e9 : r 9 = nI nt) : GR r (endsF r).2 := by
  unfold endsF
  rw [e9, clN (by omega)]
  refine ⟨?_, ?_⟩
  · show (upd (upd (eE (eR nt r)) 12 0) 9 (nI (nt + 1)) 8).toInt ≤ _
    rw [upd_n' (by decide), upd_n' (by decide), (eE_P _).1 8 (by decide), eR_lo (by decide) (by decide)]
    omega
  · show (upd (upd (eE (eR nt r)) 12 0) 9 (nI (nt + 1)) 9).toInt ≤ _
    rw [upd_s', e9, nI_toInt (by omega), nI_toInt (by omega)]
    omega
/-- every call of the law: the class and the law's rows go alike -/
theorem call_ok {k a b w : Int32} (hA : ArgsOK k a b w) {r : Nat → Int32} (hI : IV r) (hG : GG r) : ∃ (x : Int32) (r' : Nat → Int32), ∀ g : Hp, CS g r → IV r' ∧ GR r r' ∧ (x < 0 → r' = r) ∧ LawP (fun g Q => F_L_due k a b w g Q) r x r' ∧ CallOK (fun h Q => F_L_call k a b w h Q) g r x r' := by
  rcases hA with ⟨rfl, h1, h2⟩ | rfl | ⟨rfl, X, h1, h2, rfl⟩ | rfl | ⟨rfl, h1, h2⟩ | ⟨rfl, h1⟩ | ⟨rfl, h1⟩ | ⟨rfl, h1, h2⟩ | ⟨rfl, n, f, hn, hf, rfl, rfl, h1, h2⟩ | ⟨rfl, j, hj, rfl, h1, h2⟩
  · refine ⟨(sightsF a b r).1, (sightsF a b r).2, fun g hC => ?_⟩
    obtain ⟨a1, a2, a3, a4⟩ := op_law (sim_sights a b w h1 h2) hC hI hG
    exact ⟨a2, gr_sights a b r, a3, a1, CallOK_map (fun Q q => bt' rfl q) a4⟩
  · refine ⟨(agreesF r).1, (agreesF r).2, fun g hC => ?_⟩
    obtain ⟨a1, a2, a3, a4⟩ := op_law (sim_agrees a b w) hC hI hG
    exact ⟨a2, gr_agrees r, a3, a1, CallOK_map (fun Q q => bf' (by decide) (bt' rfl q)) a4⟩
  · refine ⟨(sailsF X r).1, (sailsF X r).2, fun g hC => ?_⟩
    obtain ⟨a1, a2, a3, a4⟩ := op_law (sim_sails b w h1 h2) hC hI hG
    exact ⟨a2, gr_sails h2 hI hG, a3, a1, CallOK_map (fun Q q => bf' (by decide) (bf' (by decide) (bt' rfl q))) a4⟩
  · refine ⟨(endsF r).1, (endsF r).2, fun g hC => ?_⟩
    obtain ⟨a1, a2, a3, a4⟩ := op_law (sim_ends a b w) hC hI hG
    obtain ⟨nt, hnt, e9, -, -⟩ := hC.1.2.2.2.2.2
    exact ⟨a2, gr_ends hnt e9, a3, a1, CallOK_map (fun Q q => bf' (by decide) (bf' (by decide) (bf' (by decide) (bt' rfl q)))) a4⟩
  · refine ⟨(comesF w r).1, (comesF w r).2, fun g hC => ?_⟩
    obtain ⟨a1, a2, a3, a4⟩ := op_law (sim_comes a b w ⟨h1, h2⟩) hC hI hG
    exact ⟨a2, gr_comes w r, a3, a1, CallOK_map (fun Q q => bf' (by decide) (bf' (by decide) (bf' (by decide) (bf' (by decide) (bt' rfl q))))) a4⟩
  · refine ⟨(cloudsF b r).1, (cloudsF b r).2, fun g hC => ?_⟩
    obtain ⟨a1, a2, a3, a4⟩ := op_law (sim_clouds a b w h1) hC hI hG
    exact ⟨a2, gr_clouds b r, a3, a1, CallOK_map (fun Q q => bf' (by decide) (bf' (by decide) (bf' (by decide) (bf' (by decide) (bf' (by decide) (bt' rfl q)))))) a4⟩
  · refine ⟨(sleepsF a r).1, (sleepsF a r).2, fun g hC => ?_⟩
    obtain ⟨a1, a2, a3, a4⟩ := op_law (sim_sleeps a b w h1) hC hI hG
    exact ⟨a2, gr_sleeps a r, a3, a1, CallOK_map (fun Q q => bf' (by decide) (bf' (by decide) (bf' (by decide) (bf' (by decide) (bf' (by decide) (bf' (by decide) (bt' rfl q))))))) a4⟩
  · refine ⟨(aimsF w r).1, (aimsF w r).2, fun g hC => ?_⟩
    obtain ⟨a1, a2, a3, a4⟩ := op_law (sim_aims a b w ⟨h1, h2⟩) hC hI hG
    exact ⟨a2, gr_low (by decide), a3, a1, CallOK_map (fun Q q => bf' (by decide) (bf' (by decide) (bf' (by decide) (bf' (by decide) (bf' (by decide) (bf' (by decide) (bf' (by decide) (bt' rfl q)))))))) a4⟩
  · refine ⟨(navF n f w r).1, (navF n f w r).2, fun g hC => ?_⟩
    obtain ⟨a1, a2, a3, a4⟩ := op_law (sim_navigator w hn hf h1 h2) hC hI hG
    exact ⟨a2, gr_low (by omega), a3, a1, CallOK_map (fun Q q => bf' (by decide) (bf' (by decide) (bf' (by decide) (bf' (by decide) (bf' (by decide) (bf' (by decide) (bf' (by decide) (bf' (by decide) (bt' rfl q))))))))) a4⟩
  · refine ⟨(setF j w r).1, (setF j w r).2, fun g hC => ?_⟩
    obtain ⟨a1, a2, a3, a4⟩ := op_law (sim_set a w hj h1 h2) hC hI hG
    exact ⟨a2, gr_low (by omega), a3, a1, CallOK_map (fun Q q => bf' (by decide) (bf' (by decide) (bf' (by decide) (bf' (by decide) (bf' (by decide) (bf' (by decide) (bf' (by decide) (bf' (by decide) (bf' (by decide) q))))))))) a4⟩
