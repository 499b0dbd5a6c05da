/-! The ten calls that change: the class's voyage and the law's rows go alike. -/
def LawP (D : Hp → (Int32 → Hp → Prop) → Prop) (r : Nat → Int32) (x : Int32) (r' : Nat → Int32) : Prop := ∀ g : Hp, lrow g = r → DI g → ∃ g' : Hp, (∀ Q : Int32 → Hp → Prop, Q x g' → D g Q) ∧ lrow g' = r' ∧ DI g' ∧ ∀ c, c < 158 → g' c = g c
/-- what the law's few turns give: few hours, few nights -/
def GG (r : Nat → Int32) : Prop := (r 8).toInt ≤ 4851 ∧ (r 9).toInt ≤ 49
def GR (r r' : Nat → Int32) : Prop := (r' 8).toInt ≤ (r 8).toInt + 99 ∧ (r' 9).toInt ≤ (r 9).toInt + 1
theorem GR_c {r r' : Nat → Int32} (h8 : r' 8 = r 8) (h9 : r' 9 = r 9) : GR r r' := by
  unfold GR
  rw [h8, h9]
  omega
def SimV (B : Nat → Hp → (Int32 → Hp → Prop) → Prop) (D : Hp → (Int32 → Hp → Prop) → Prop) (F : (Nat → Int32) → Int32 × (Nat → Int32)) : Prop := ∀ (b : Nat) (hc : Hp) (v : Nat → Nat → Int32) (r : Nat → Int32), RVv v r → IV r → GG r → ∃ (x : Int32) (v' : Nat → Nat → Int32) (r' : Nat → Int32), F r = (x, r') ∧ (∀ Q : Int32 → Hp → Prop, Q x (cv b hc v') → B b (cv b hc v) Q) ∧ LawP D r x r' ∧ RVv v' r' ∧ IV r' ∧ (x < 0 → v' = v ∧ r' = r)
theorem lawE {D : Hp → (Int32 → Hp → Prop) → Prop} {r : Nat → Int32} {x : Int32} (h : ∀ g : Hp, lrow g = r → DI g → ∀ Q : Int32 → Hp → Prop, Q x g → D g Q) : LawP D r x r := fun g eg hd => ⟨g, h g eg hd, eg, hd, fun _ _ => rfl⟩
theorem DI_c {g g' : Hp} (h12 : g' 158 12 = g 158 12) (h : g' 159 = g 159) (hd : DI g) : DI g' := by
  intro s h1 h2
  rw [h]
  rw [h12] at h1
  exact hd s h1 h2
theorem eg12 {g : Hp} {r : Nat → Int32} (eg : lrow g = r) : g 158 12 = r 13 := by rw [← eg]; exact (lr_p (by decide) (by decide)).symm
theorem sub_k {x : Int32} {k : Nat} (h : x = nI k) (hk : k < 2 ^ 31) : x.toNatClampNeg = k := by rw [h]; exact clN hk
theorem dcl_in {x : Int32} (h : rng x (-5400) 5400) : dcl x = x ∧ cld x = 0 := by
  have : ¬ 9000 < x := by rw [fa_lt, show (9000 : Int32).toInt = 9000 by decide]; have := h.2; omega
  exact ⟨if_neg this, if_neg this⟩
def comesF (x : Int32) (r : Nat → Int32) : Int32 × (Nat → Int32) := if r 13 = 8 then (-4, r) else (r 13, upd (upd r (15 + (r 13).toNatClampNeg) x) 13 (r 13 + 1))
def aimsF (x : Int32) (r : Nat → Int32) : Int32 × (Nat → Int32) := (r 7 + 5400, upd r 7 x)
def cloudsF (x : Int32) (r : Nat → Int32) : Int32 × (Nat → Int32) := if ¬ x < 0 ∧ x < r 13 then (1 - r (23 + x.toNatClampNeg), upd r (23 + x.toNatClampNeg) (1 - r (23 + x.toNatClampNeg))) else (-1, r)
def sleepsF (x : Int32) (r : Nat → Int32) : Int32 × (Nat → Int32) := if nv r x.toNatClampNeg 7 = 0 then (1, upd r (31 + 8 * x.toNatClampNeg + 7) 1) else if nv r x.toNatClampNeg 7 = 1 then (0, upd r (31 + 8 * x.toNatClampNeg + 7) 0) else (-5, r)
def sightsF (x1 x2 : Int32) (r : Nat → Int32) : Int32 × (Nat → Int32) := if x2 < r 13 then (if rsn r x1.toNatClampNeg x2.toNatClampNeg = 0 then (est r x1.toNatClampNeg x2.toNatClampNeg + 5400, upd (upd (upd (upd r (31 + 8 * x1.toNatClampNeg + 6) (est r x1.toNatClampNeg x2.toNatClampNeg)) (31 + 8 * x1.toNatClampNeg + 5) 1) (31 + 8 * x1.toNatClampNeg + 4) (nv r x1.toNatClampNeg 4 + 1)) 10 (r 10 + 1)) else (-5, r)) else (-1, r)
def sailsF (X : Nat) (r : Nat → Int32) : Int32 × (Nat → Int32) := (hrs X r 4 + 5400, hrs X r)
def setF (j : Nat) (x : Int32) (r : Nat → Int32) : Int32 × (Nat → Int32) := (r j + 30, upd r j x)
def navF (n f : Nat) (x : Int32) (r : Nat → Int32) : Int32 × (Nat → Int32) := (nv r n f + 60, upd r (31 + 8 * n + f) x)
theorem sim_comes (a b4 x : Int32) (hx0 : -5400 ≤ x ∧ x ≤ 5400) : SimV (fun b h Q => F_X6_addStar b x h Q) (fun g Q => F_L_due 4 a b4 x g Q) (comesF x) := by
  intro b hc v r hV hI hG
  obtain ⟨hset, ⟨hst, hcl, hdec⟩, hnav, hcrs, hmisc, hlog⟩ := id hV
  obtain ⟨iset, icrs, ⟨isk, idec⟩, inav, isum⟩ := id hI
  by_cases hx : -5400 ≤ x ∧ x ≤ 5400
  · obtain ⟨k, hk, ek⟩ := rngN (n := 8) isk (by decide)
    by_cases hk8 : k = 8
    · refine ⟨-4, v, r, if_pos (by rw [ek, hk8]; rfl), fun Q q => ?_, ?_, hV, hI, fun _ => ⟨rfl, rfl⟩⟩
      · simp only [F_X6_addStar, isOnEarth_iff, b01_0, cv_2]
        refine bf' (fun z => z hx) (bf' ?_ q)
        rw [hst, ek, hk8]; decide
      · refine lawE (fun g eg hd Q q => bf' (by decide) (bf' (by decide) (bf' (by decide) (bf' (by decide) (bt' rfl (bt' ?_ q))))))
        rw [eg12 eg, ek, hk8]; rfl
    · have hk7 : k < 8 := by omega
      refine ⟨nI k, up1 (up1 v 3 (upd (v 3) k x)) 2 (upd (v 2) 0 (nI (k + 1))), upd (upd r (15 + k) x) 13 (nI (k + 1)), by unfold comesF; rw [if_neg (by rw [ek, show (8 : Int32) = nI 8 from rfl, nI_eq (by omega) (by decide)]; exact hk8), ek, clN (by omega), nI_1], fun Q q => ?_, ?_, ?_, ?_, fun h => absurd h (nI_pos (by omega))⟩
      · simp only [F_X6_addStar, isOnEarth_iff, b01_0, cv_2, hst, ek]
        refine bf' (fun z => z hx) (bt' ?_ ⟨vpn hk7 (by decide), ?_⟩)
        · rw [show (8 : Int32) = nI 8 from rfl, nI_ltI (by omega) (by decide)]; exact hk7
        · intro h5 e5
          simp only [clN (show k < 2 ^ 31 by omega), cv_3, cu_3] at e5
          subst e5
          intro h7 e7
          simp only [cv_2, cu_2, up1_n v _ (show (2 : Nat) ≠ 3 by decide), hst, ek, nI_1] at e7
          subst e7
          simp only [cv_2, up1_s, upd_s', pk_sub (show 1 ≤ k + 1 by omega)]
          rw [show nI (k + 1) - 1 = nI k from nI_pred k]
          exact q
      · intro g eg hd
        have e12 : g 158 12 = nI k := (eg12 eg).trans ek
        have ek2 : (g 158 12).toNatClampNeg = k := sub_k e12 (by omega)
        have hc0 : r (23 + k) = 0 := by rw [← eg, lr_c hk7, hd k (by rw [ek2]; exact Nat.le_refl k) hk7]; decide
        obtain ⟨d1, d2⟩ := dcl_in (rng_in hx0 (l := -5400) (u := 5400) (by decide) (by decide))
        refine ⟨up1 (up1 g 159 (upd (g 159) k x)) 158 (upd (g 158) 12 (nI (k + 1))), fun Q q => bf' (by decide) (bf' (by decide) (bf' (by decide) (bf' (by decide) (bt' rfl (bf' ?_ ⟨by rw [e12]; exact vpn (by omega) (by decide), ?_⟩))))), ?_, ?_, fun c hc2 => by rw [up1_n _ _ (by omega), up1_n _ _ (by omega)]⟩
        · rw [e12, show (8 : Int32) = nI 8 from rfl, nI_eq (by omega) (by decide)]; exact hk8
        · rw [ek2]
          refine nm' ?_
          rw [up1_n _ _ (show (158 : Nat) ≠ 159 by decide), e12, nI_1]
          refine nm' ?_
          rw [up1_s, upd_s', nI_pred]
          exact q
        · show rwA (upd (g 158) 12 (nI (k + 1))) (upd (g 159) k x) (g 160) (g 161) = _
          rw [ra_p (by decide) (by decide), ra_d hk7, d1, d2, show rwA (g 158) (g 159) (g 160) (g 161) = r from eg, fa_upd_same (i := 23 + k) (by rw [upd_n' (by omega)]; exact hc0)]
        · intro s h1 h2
          rw [up1_s, upd_s', clN (by omega)] at h1
          rw [up1_n _ _ (by decide), up1_s, upd_n' (by omega)]
          exact hd s (by rw [ek2]; omega) h2
      · refine ⟨rvSet_c (fun j hj => rfl) (fun j hj => by rw [upd_n' (by omega), upd_n' (by omega)]) hset, ⟨?_, ?_, ?_⟩, fun n hn => rvNav_c (fun o h1 h2 => by rw [up1_n _ _ (by omega), up1_n _ _ (by omega)]) (nv_c hn (fun k h1 h2 => by rw [upd_n' (by omega), upd_n' (by omega)])) (hnav n hn), rvCrs_c (fun j hj => rfl) (fun k h1 h2 => by rw [upd_n' (by omega), upd_n' (by omega)]) hcrs, rvMisc_c (fun j h1 h2 => rfl) (by rw [upd_n' (by omega), upd_n' (by omega)]) (by rw [upd_n' (by omega), upd_n' (by omega)]) (by rw [upd_n' (by omega), upd_n' (by omega)]) hmisc, rvLog_c (fun j hj => rfl) (by rw [upd_n' (by omega), upd_n' (by omega)]) (by rw [upd_n' (by omega), upd_n' (by omega)]) (fun k h1 h2 => by rw [upd_n' (by omega), upd_n' (by omega)]) hlog⟩
        · rw [up1_s, upd_s', upd_s']
        · obtain ⟨m, hm2, em, hb⟩ := hcl
          refine ⟨m, hm2, by rw [up1_s, upd_n' (by decide)]; exact em, fun s hs => ?_⟩
          rw [upd_n' (by omega), upd_n' (by omega)]
          exact hb s hs
        · intro s hs
          rw [up1_n _ _ (by decide), up1_s, upd_n' (show 15 + s ≠ 13 by omega)]
          by_cases h1 : s = k
          · subst h1; rw [upd_s', upd_s']
          · rw [upd_n' h1, upd_n' (by omega)]; exact hdec s hs
      · refine ⟨ivSet_c (fun j hj => by rw [upd_n' (by omega), upd_n' (by omega)]) iset, ivCrs_c (fun k h1 h2 => by rw [upd_n' (by omega), upd_n' (by omega)]) icrs, ⟨?_, fun s hs => ?_⟩, fun n hn => ivNav_c (nv_c hn (fun k h1 h2 => by rw [upd_n' (by omega), upd_n' (by omega)])) (inav n hn), ?_⟩
        · rw [upd_s']; unfold rng; rw [nI_toInt (by omega)]; omega
        · rw [upd_n' (show 15 + s ≠ 13 by omega)]
          by_cases h1 : s = k
          · subst h1; rw [upd_s']; exact rng_in hx (by decide) (by decide)
          · rw [upd_n' (by omega)]; exact idec s hs
        · exact Eq.trans (b := sm7 r) (by rw [upd_n' (by omega), upd_n' (by omega)]; exact isum) (sm7_c (fun n hn => nv_c hn (fun k h1 h2 => by rw [upd_n' (by omega), upd_n' (by omega)]) 4 (by decide))).symm
  · refine ⟨-2, v, r, absurd hx0 hx, fun Q q => ?_, ?_, hV, hI, fun _ => ⟨rfl, rfl⟩⟩
    · simp only [F_X6_addStar, isOnEarth_iff, b01_0]
      exact bt' hx q
    · exact absurd hx0 hx

theorem sim_aims (a b4 x : Int32) (hx0 : -5400 ≤ x ∧ x ≤ 5400) : SimV (fun b h Q => F_X6_changeGoal b x h Q) (fun g Q => F_L_due 7 a b4 x g Q) (aimsF x) := by
  intro b hc v r hV hI hG
  obtain ⟨hset, hsky, hnav, ⟨c0, c1, c2, c3⟩, hmisc, hlog⟩ := id hV
  obtain ⟨iset, ⟨i4, i5, i6, i7, i8⟩, isky, inav, isum⟩ := id hI
  by_cases hx : -5400 ≤ x ∧ x ≤ 5400
  · refine ⟨r 7 + 5400, up1 v 12 (upd (v 12) 2 x), upd r 7 x, rfl, fun Q q => ?_, ?_, ?_, ?_, fun h => ?_⟩
    · simp only [F_X6_changeGoal, isOnEarth_iff, b01_0, cv_12, cu_12, forall_eq, c2]
      exact bf' (fun z => z hx) q
    · intro g eg hd
      refine ⟨up1 g 158 (upd (g 158) 6 x), fun Q q => bf' (by decide) (bf' (by decide) (bf' (by decide) (bf' (by decide) (bf' (by decide) (bf' (by decide) (bf' (by decide) (bt' rfl (nm' (bf' (by decide) (bt' rfl (nm' ?_))))))))))), ?_, DI_c (by rw [up1_s, upd_n' (by decide)]) (up1_n _ _ (by decide)) hd, fun c hc2 => up1_n _ _ (by omega)⟩
      · rw [show g 158 6 = r 7 by rw [← eg]; exact (lr_p (by decide) (by decide)).symm]
        exact q
      · rw [lu_p (by decide) (by decide), eg]
    · refine ⟨rvSet_c (fun j hj => rfl) (fun j hj => by rw [upd_n' (by omega)]) hset, rvSky_c (fun j hj => rfl) (fun j hj => rfl) (by rw [upd_n' (by omega)]) (fun k h1 h2 => by rw [upd_n' (by omega)]) hsky, fun n hn => rvNav_c (fun o h1 h2 => by rw [up1_n _ _ (by omega)]) (nv_c hn (fun k h1 h2 => by rw [upd_n' (by omega)])) (hnav n hn), ⟨?_, ?_, ?_, ?_⟩, rvMisc_c (fun j h1 h2 => rfl) (by rw [upd_n' (by omega)]) (by rw [upd_n' (by omega)]) (by rw [upd_n' (by omega)]) hmisc, rvLog_c (fun j hj => rfl) (by rw [upd_n' (by omega)]) (by rw [upd_n' (by omega)]) (fun k h1 h2 => by rw [upd_n' (by omega)]) hlog⟩
      · rw [up1_s, upd_n' (by decide), upd_n' (by decide)]; exact c0
      · rw [up1_s, upd_n' (by decide), upd_n' (by decide), upd_n' (by decide)]; exact c1
      · rw [up1_s, upd_s', upd_s']
      · rw [up1_s, upd_n' (by decide), upd_n' (by decide)]; exact c3
    · refine ⟨ivSet_c (fun j hj => by rw [upd_n' (by omega)]) iset, ⟨by rw [upd_n' (by decide)]; exact i4, by rw [upd_n' (by decide)]; exact i5, by rw [upd_n' (by decide)]; exact i6, by rw [upd_s']; exact rng_in hx (by decide) (by decide), by rw [upd_n' (by decide)]; exact i8⟩, ivSky_c (by rw [upd_n' (by decide)]) (fun k h1 h2 => by rw [upd_n' (by omega)]) isky, fun n hn => ivNav_c (nv_c hn (fun k h1 h2 => by rw [upd_n' (by omega)])) (inav n hn), ?_⟩
      exact Eq.trans (b := sm7 r) (by rw [upd_n' (by omega)]; exact isum) (sm7_c (fun n hn => nv_c hn (fun k h1 h2 => by rw [upd_n' (by omega)]) 4 (by decide))).symm
    · exfalso
      rw [fa_lt, fb_addI (by have := i7.1; have := i7.2; rw [show (5400 : Int32).toInt = 5400 by decide]; omega) (by have := i7.1; have := i7.2; rw [show (5400 : Int32).toInt = 5400 by decide]; omega), show (5400 : Int32).toInt = 5400 by decide, show (0 : Int32).toInt = 0 by decide] at h
      have := i7.1
      omega
  · refine ⟨-2, v, r, absurd hx0 hx, fun Q q => ?_, ?_, hV, hI, fun _ => ⟨rfl, rfl⟩⟩
    · simp only [F_X6_changeGoal, isOnEarth_iff, b01_0]
      exact bt' hx q
    · exact absurd hx0 hx


theorem sim_clouds (a x w : Int32) (hxb : ¬ x < 0) : SimV (fun b h Q => F_X6_turnCloud b x h Q) (fun g Q => F_L_due 5 a x w g Q) (cloudsF x) := by
  intro b hc v r hV hI hG
  obtain ⟨hset, ⟨hst, ⟨m, hm2, em, hb⟩, hdec⟩, hnav, hcrs, hmisc, hlog⟩ := id hV
  obtain ⟨iset, icrs, ⟨isk, idec⟩, inav, isum⟩ := id hI
  obtain ⟨k, hk, ek⟩ := rngN (n := 8) isk (by decide)
  by_cases hx : ∃ s : Nat, s < k ∧ x = nI s
  · obtain ⟨s, hs, rfl⟩ := hx
    have hm3 : m ^^^ 2 ^ s < 256 := Nat.xor_lt_two_pow (n := 8) hm2 (Nat.pow_lt_pow_right (by decide) (show s < 8 by omega))
    have hr1 : r (23 + s) = if m.testBit s then 1 else 0 := hb s (by omega)
    have hz : (1 : Int32) - r (23 + s) = if (m ^^^ 2 ^ s).testBit s then 1 else 0 := by
      rw [hr1, fb_bit_flip]
      cases m.testBit s <;> simp
    refine ⟨1 - r (23 + s), up1 v 2 (upd (v 2) 1 (nI (m ^^^ 2 ^ s))), upd r (23 + s) (1 - r (23 + s)), by unfold cloudsF; rw [if_pos (by rw [ek]; exact ⟨nI_pos (by omega), nI_lt hs (by omega)⟩), clN (by omega)], fun Q q => ?_, ?_, ?_, ?_, fun h => ?_⟩
    · refine hasStar_t hk hs (by rw [cv_2, hst, ek]) (bf' (by decide) ?_)
      intro h4 e4
      simp only [cv_2, cu_2, em, bit_on s (by omega), fb_xorI] at e4
      subst e4
      unfold F_X5_cloudBefore
      rw [cv_2, up1_s, upd_s', bit_rd _ hm3 s (by omega), ← hz]
      exact q
    · intro g eg hd
      have hs8 : s < 8 := by omega
      have e12 : g 158 12 = nI k := (eg12 eg).trans ek
      have ec : r (23 + s) = cld (g 159 s) := by rw [← eg]; exact lr_c hs8
      have ed : r (15 + s) = dcl (g 159 s) := by rw [← eg]; exact lr_d hs8
      have hdr : rng (r (15 + s)) (-5400) 5400 := idec s hs8
      have hvp : vp_in (nI s) 9 := vpn (by omega) (by decide)
      have hcl : (nI s).toNatClampNeg = s := clN (by omega)
      have e9 : (9000 : Int32).toInt = 9000 := by decide
      have e2 : (20000 : Int32).toInt = 20000 := by decide
      have hlt : nI s < g 158 12 := by rw [e12]; exact nI_lt hs (by omega)
      by_cases h9 : 9000 < g 159 s
      · have er : r (15 + s) = g 159 s + (-20000) := by rw [ed]; unfold dcl; rw [if_pos h9, Int32.sub_eq_add_neg]
        have er1 : r (23 + s) = 1 := by rw [ec, cld_1]; exact h9
        obtain ⟨d1, d2⟩ := dcl_in hdr
        refine ⟨up1 g 159 (upd (g 159) s (g 159 s + (-20000))), fun Q q => bf' (by decide) (bf' (by decide) (bf' (by decide) (bf' (by decide) (bf' (by decide) (bt' rfl (bt' hlt ⟨hvp, hvp, ?_⟩)))))), ?_, ?_, fun c hc2 => up1_n _ _ (by omega)⟩
        · rw [hcl]
          refine bf' (nle.mpr h9) ⟨hvp, nm' ⟨hvp, bt' ?_ ?_⟩⟩
          · rw [up1_s, upd_s', ← er, fa_le, e9]; have := hdr.2; omega
          · rw [er1] at q; exact q
        · rw [lu_d hs8, eg, ← er, d1, d2, fa_upd_same (i := 15 + s) rfl, er1]; rfl
        · intro t h1 h2
          rw [up1_n _ _ (show (158 : Nat) ≠ 159 by decide)] at h1
          rw [up1_s, upd_n' (by rw [sub_k e12 (by omega)] at h1; omega)]
          exact hd t h1 h2
      · have er : r (15 + s) = g 159 s := by rw [ed]; unfold dcl; rw [if_neg h9]
        have er1 : r (23 + s) = 0 := by rw [ec]; unfold cld; rw [if_neg h9]
        have ei : (g 159 s + 20000).toInt = (g 159 s).toInt + 20000 := fb_addI (by rw [← er, e2]; have := hdr.1; omega) (by rw [← er, e2]; have := hdr.2; omega)
        have h10 : 9000 < g 159 s + 20000 := by rw [fa_lt, ei, e9, ← er]; have := hdr.1; omega
        have d1 : dcl (g 159 s + 20000) = r (15 + s) := by unfold dcl; rw [if_pos h10, Int32.add_sub_cancel, er]
        have d2 : cld (g 159 s + 20000) = 1 := cld_1.mpr h10
        refine ⟨up1 g 159 (upd (g 159) s (g 159 s + 20000)), fun Q q => bf' (by decide) (bf' (by decide) (bf' (by decide) (bf' (by decide) (bf' (by decide) (bt' rfl (bt' hlt ⟨hvp, hvp, ?_⟩)))))), ?_, ?_, fun c hc2 => up1_n _ _ (by omega)⟩
        · rw [hcl]
          refine bt' (nlt.mp h9) ⟨hvp, nm' ⟨hvp, bf' ?_ ?_⟩⟩
          · rw [up1_s, upd_s']; exact nle.mpr h10
          · rw [er1] at q; exact q
        · rw [lu_d hs8, eg, d1, d2, fa_upd_same (i := 15 + s) rfl, er1]; rfl
        · intro t h1 h2
          rw [up1_n _ _ (show (158 : Nat) ≠ 159 by decide)] at h1
          rw [up1_s, upd_n' (by rw [sub_k e12 (by omega)] at h1; omega)]
          exact hd t h1 h2
    · refine ⟨rvSet_c (fun j hj => rfl) (fun j hj => by rw [upd_n' (by omega)]) hset, ⟨?_, ⟨m ^^^ 2 ^ s, hm3, ?_, fun t ht => ?_⟩, fun t ht => ?_⟩, fun n hn => rvNav_c (fun o h1 h2 => by rw [up1_n _ _ (by omega)]) (nv_c hn (fun k h1 h2 => by rw [upd_n' (by omega)])) (hnav n hn), rvCrs_c (fun j hj => rfl) (fun k h1 h2 => by rw [upd_n' (by omega)]) hcrs, rvMisc_c (fun j h1 h2 => rfl) (by rw [upd_n' (by omega)]) (by rw [upd_n' (by omega)]) (by rw [upd_n' (by omega)]) hmisc, rvLog_c (fun j hj => rfl) (by rw [upd_n' (by omega)]) (by rw [upd_n' (by omega)]) (fun k h1 h2 => by rw [upd_n' (by omega)]) hlog⟩
      · rw [up1_s, upd_n' (by decide), upd_n' (by omega)]; exact hst
      · rw [up1_s, upd_s']
      · by_cases h1 : t = s
        · subst h1; rw [upd_s']; exact hz
        · rw [upd_n' (by omega), hb t ht, fb_bit_flip]
          simp [h1]
      · rw [up1_n _ _ (by decide), upd_n' (by omega)]; exact hdec t ht
    · refine ⟨ivSet_c (fun j hj => by rw [upd_n' (by omega)]) iset, ivCrs_c (fun k h1 h2 => by rw [upd_n' (by omega)]) icrs, ivSky_c (by rw [upd_n' (by omega)]) (fun k h1 h2 => by rw [upd_n' (by omega)]) ⟨isk, idec⟩, fun n hn => ivNav_c (nv_c hn (fun k h1 h2 => by rw [upd_n' (by omega)])) (inav n hn), ?_⟩
      exact Eq.trans (b := sm7 r) (by rw [upd_n' (by omega)]; exact isum) (sm7_c (fun n hn => nv_c hn (fun k h1 h2 => by rw [upd_n' (by omega)]) 4 (by decide))).symm
    · rw [hz] at h
      split at h <;> exact absurd h (by decide)
  · refine ⟨-1, v, r, if_neg (by rw [ek]; exact fun z => hx ((lt_star hk).mp z)), fun Q q => ?_, ?_, hV, hI, fun _ => ⟨rfl, rfl⟩⟩
    · exact hasStar_f hk hx (by rw [cv_2, hst, ek]) (bt' rfl q)
    · refine lawE (fun g eg hd Q q => bf' (by decide) (bf' (by decide) (bf' (by decide) (bf' (by decide) (bf' (by decide) (bt' rfl (bf' ?_ q)))))))
      rw [eg12 eg, ek]
      exact fun z => hx ((lt_star hk).mp ⟨hxb, z⟩)

theorem sim_sleeps (x b4 w : Int32) (hx0 : ∃ n : Nat, n < 7 ∧ x = nI n) : SimV (fun b h Q => F_X6_turnSleep b x h Q) (fun g Q => F_L_due 6 x b4 w g Q) (sleepsF x) := by
  intro b hc v r hV hI hG
  by_cases hx : ∃ n : Nat, n < 7 ∧ x = nI n
  · obtain ⟨n, hn, rfl⟩ := hx
    obtain ⟨a5, a6, a7, a8, a9, a10, a11⟩ := hV.2.2.1 n hn
    obtain ⟨j0, j1, j2, j5, j6, j7⟩ := hI.2.2.2.1 n hn
    have hcl : (nI n).toNatClampNeg = n := clN (by omega)
    have hok : ∀ (w : Int32), w = 0 ∨ w = 1 → RVv (up1 v 11 (upd (v 11) n w)) (upd r (31 + 8 * n + 7) w) ∧ IV (upd r (31 + 8 * n + 7) w) := by
      intro w hw
      have hr : ∀ k, (k < 31 + 8 * n ∨ 39 + 8 * n ≤ k) → k ≠ 10 → upd r (31 + 8 * n + 7) w k = r k := fun k h1 h2 => by rw [upd_n' (by omega)]
      have hf : ∀ g, g < 8 → nv (upd r (31 + 8 * n + 7) w) n g = if g = 7 then w else nv r n g := fun g hg => by rw [nv_upd (by decide) hg]; simp
      refine ⟨RV_nav hn hV (fun o j ho => by rw [up1_n _ _ (by omega)]) (fun o j hj => ?_) hr ?_, IV_nav hn hI hr ?_ ?_⟩
      · by_cases ho : o = 11
        · subst ho; rw [up1_s, upd_n' hj]
        · rw [up1_n _ _ ho]
      · unfold rvNav
        simp only [hf _ (show 0 < 8 by decide), hf _ (show 1 < 8 by decide), hf _ (show 2 < 8 by decide), hf _ (show 3 < 8 by decide), hf _ (show 4 < 8 by decide), hf _ (show 5 < 8 by decide), hf _ (show 6 < 8 by decide), hf _ (show 7 < 8 by decide), up1_s, upd_s']
        exact ⟨a5, a6, a7, a8, a9, a10, rfl⟩
      · unfold ivNav
        simp only [hf _ (show 0 < 8 by decide), hf _ (show 1 < 8 by decide), hf _ (show 2 < 8 by decide), hf _ (show 5 < 8 by decide), hf _ (show 6 < 8 by decide), hf _ (show 7 < 8 by decide), if_true]
        refine ⟨j0, j1, j2, j5, j6, ?_⟩
        rcases hw with rfl | rfl <;> (constructor <;> decide)
      · exact Eq.trans (b := sm7 r) (by rw [upd_n' (by omega)]; exact hI.2.2.2.2) (sm7_same hn hr (hf 4 (by decide))).symm
    rcases how3 j7 with e | e | e
    · refine ⟨1, up1 v 11 (upd (v 11) n 1), upd r (31 + 8 * n + 7) 1, by unfold sleepsF; rw [hcl, e, if_pos rfl], fun Q q => ?_, ?_, (hok 1 (Or.inr rfl)).1, (hok 1 (Or.inr rfl)).2, fun h => absurd h (by decide)⟩
      · simp only [F_X6_turnSleep, isNavC_iff, b01_0, hcl, cv_11, cu_11, a11, e, forall_eq, up1_s, upd_s']
        exact bf' (fun z => z (nav_c.mpr ⟨n, hn, rfl⟩)) ⟨vpn hn (by decide), bf' (by simp) ⟨vpn hn (by decide), bf' (by simp) ⟨vpn hn (by decide), vpn hn (by decide), bt' (by simp) q⟩⟩⟩
      · intro g eg hd
        have e6 : g 160 (7 * n + 6) = nv r n 7 := by rw [← eg]; exact (lr_v7 hn).symm
        have hvp : vp_in ((7 : Int32) * nI n + 6) 49 := by rw [iv76]; exact vpn (by omega) (by decide)
        have hc6 : ((7 : Int32) * nI n + 6).toNatClampNeg = 7 * n + 6 := by rw [iv76]; exact clN (by omega)
        refine ⟨up1 g 160 (upd (g 160) (7 * n + 6) 1), fun Q q => bf' (by decide) (bf' (by decide) (bf' (by decide) (bf' (by decide) (bf' (by decide) (bf' (by decide) (bt' rfl ⟨hvp, ?_⟩)))))), ?_, DI_c (by rw [up1_n _ _ (by decide)]) (up1_n _ _ (by decide)) hd, fun c hc2 => up1_n _ _ (by omega)⟩
        · rw [hc6, e6, e]
          refine nm' (bf' (by decide) ⟨hvp, nm' (bf' (by decide) q)⟩)
        · rw [lu_v6 hn, eg]
    · refine ⟨0, up1 v 11 (upd (v 11) n 0), upd r (31 + 8 * n + 7) 0, by unfold sleepsF; rw [hcl, e, if_neg (by decide), if_pos rfl], fun Q q => ?_, ?_, (hok 0 (Or.inl rfl)).1, (hok 0 (Or.inl rfl)).2, fun h => absurd h (by decide)⟩
      · simp only [F_X6_turnSleep, isNavC_iff, b01_0, hcl, cv_11, cu_11, a11, e, forall_eq, up1_s, upd_s']
        exact bf' (fun z => z (nav_c.mpr ⟨n, hn, rfl⟩)) ⟨vpn hn (by decide), bf' (by simp) ⟨vpn hn (by decide), bt' (by simp) ⟨vpn hn (by decide), vpn hn (by decide), bf' (by simp) q⟩⟩⟩
      · intro g eg hd
        have e6 : g 160 (7 * n + 6) = nv r n 7 := by rw [← eg]; exact (lr_v7 hn).symm
        have hvp : vp_in ((7 : Int32) * nI n + 6) 49 := by rw [iv76]; exact vpn (by omega) (by decide)
        have hc6 : ((7 : Int32) * nI n + 6).toNatClampNeg = 7 * n + 6 := by rw [iv76]; exact clN (by omega)
        refine ⟨up1 g 160 (upd (g 160) (7 * n + 6) 0), fun Q q => bf' (by decide) (bf' (by decide) (bf' (by decide) (bf' (by decide) (bf' (by decide) (bf' (by decide) (bt' rfl ⟨hvp, ?_⟩)))))), ?_, DI_c (by rw [up1_n _ _ (by decide)]) (up1_n _ _ (by decide)) hd, fun c hc2 => up1_n _ _ (by omega)⟩
        · rw [hc6, e6, e]
          refine nm' (bf' (by decide) ⟨hvp, nm' (bf' (by decide) q)⟩)
        · rw [lu_v6 hn, eg]
    · refine ⟨-5, v, r, by unfold sleepsF; rw [hcl, e, if_neg (by decide), if_neg (by decide)], fun Q q => ?_, ?_, hV, hI, fun _ => ⟨rfl, rfl⟩⟩
      · simp only [F_X6_turnSleep, isNavC_iff, b01_0, hcl, cv_11, a11, e]
        exact bf' (fun z => z (nav_c.mpr ⟨n, hn, rfl⟩)) ⟨vpn hn (by decide), bt' (by simp) q⟩
      · intro g eg hd
        have e6 : g 160 (7 * n + 6) = nv r n 7 := by rw [← eg]; exact (lr_v7 hn).symm
        have hvp : vp_in ((7 : Int32) * nI n + 6) 49 := by rw [iv76]; exact vpn (by omega) (by decide)
        have hc6 : ((7 : Int32) * nI n + 6).toNatClampNeg = 7 * n + 6 := by rw [iv76]; exact clN (by omega)
        refine ⟨up1 g 160 (upd (g 160) (7 * n + 6) 2), fun Q q => bf' (by decide) (bf' (by decide) (bf' (by decide) (bf' (by decide) (bf' (by decide) (bf' (by decide) (bt' rfl ⟨hvp, ?_⟩)))))), ?_, DI_c (by rw [up1_n _ _ (by decide)]) (up1_n _ _ (by decide)) hd, fun c hc2 => up1_n _ _ (by omega)⟩
        · rw [hc6, e6, e]
          refine nm' (bt' rfl ⟨hvp, nm' (bt' rfl q)⟩)
        · rw [lu_v6 hn, eg, fa_upd_same (i := 31 + 8 * n + 7) e]
  · refine ⟨-1, v, r, absurd hx0 hx, fun Q q => ?_, ?_, hV, hI, fun _ => ⟨rfl, rfl⟩⟩
    · simp only [F_X6_turnSleep, isNavC_iff, b01_0]
      exact bt' (fun z => hx (nav_c.mp z)) q
    · exact absurd hx0 hx


theorem sim_sights (x1 x2 w : Int32) (hx0 : ∃ n : Nat, n < 7 ∧ x1 = nI n) (hxb : ¬ x2 < 0) : SimV (fun b h Q => F_X6_takeSight b x1 x2 h Q) (fun g Q => F_L_due 0 x1 x2 w g Q) (sightsF x1 x2) := by
  intro b hc v r hV hI hG
  have hst := hV.2.1.1
  obtain ⟨k, hk, ek⟩ := rngN (n := 8) hI.2.2.1.1 (by decide)
  by_cases hx : ∃ n : Nat, n < 7 ∧ x1 = nI n
  · by_cases hy : ∃ s : Nat, s < k ∧ x2 = nI s
    · obtain ⟨n, hn, rfl⟩ := hx
      obtain ⟨s, hs, rfl⟩ := hy
      by_cases he : rsn r n s = 0
      · obtain ⟨a5, a6, a7, a8, a9, a10, a11⟩ := hV.2.2.1 n hn
        obtain ⟨j0, j1, j2, j5, j6, j7⟩ := hI.2.2.2.1 n hn
        have hcl : (nI n).toNatClampNeg = n := clN (by omega)
        obtain ⟨w, ew⟩ : ∃ w, w = est r n s := ⟨_, rfl⟩
        have hw : rng w (-5400) 5400 := by rw [ew]; exact est_rng r n s
        obtain ⟨r', er⟩ : ∃ r', r' = upd (upd (upd (upd r (31 + 8 * n + 6) w) (31 + 8 * n + 5) 1) (31 + 8 * n + 4) (nv r n 4 + 1)) 10 (r 10 + 1) := ⟨_, rfl⟩
        have hr : ∀ k, (k < 31 + 8 * n ∨ 39 + 8 * n ≤ k) → k ≠ 10 → r' k = r k := fun k h1 h2 => by rw [er, upd_n' (by omega), upd_n' (by omega), upd_n' (by omega), upd_n' (by omega)]
        have hf : ∀ m g, m < 7 → g < 8 → nv r' m g = if m = n ∧ g = 4 then nv r n 4 + 1 else if m = n ∧ g = 5 then 1 else if m = n ∧ g = 6 then w else nv r m g := fun m g hm hg => by
          rw [er, upd_nv (by omega) hg hm, nv_upd (by decide) hg, nv_upd (by decide) hg, nv_upd (by decide) hg]
        have hfn : ∀ g, g < 8 → nv r' n g = if g = 4 then nv r n 4 + 1 else if g = 5 then 1 else if g = 6 then w else nv r n g := fun g hg => by rw [hf n g hn hg]; simp
        refine ⟨w + 5400, up1 (up1 v 10 (upd (v 10) n w)) 9 (upd (v 9) n (nv r n 4 + 1)), r', by unfold sightsF; rw [if_pos (by rw [ek]; exact nI_lt hs (by omega)), hcl, clN (show s < 2 ^ 31 by omega), if_pos he, er, ew], fun Q q => ?_, ?_, ?_, ?_, fun h => absurd h (told_nn hw)⟩
        · refine tellC hV hI hn hs hk ek ?_
          rw [if_pos he, ← ew]
          refine bf' (told_nn hw) ⟨vpn hn (by decide), fun h4 e4 => ⟨vpn hn (by decide), vpn hn (by decide), fun h7 e7 => ?_⟩⟩
          rw [Int32.add_sub_cancel, hcl, cv_10, cu_10] at e4
          subst e4
          rw [hcl, cv_9, cu_9, up1_n v _ (by decide), a9] at e7
          subst e7
          exact q
        · intro g eg hd
          have e12 : g 158 12 = nI k := (eg12 eg).trans ek
          have hs8 : s < 8 := by omega
          have hle : ¬ g 158 12 ≤ nI s := by rw [e12]; exact nI_ge hs (by omega)
          have v5 : ((7 : Int32) * nI n + 5).toNatClampNeg = 7 * n + 5 := by rw [iv75]; exact clN (by omega)
          have v4 : ((7 : Int32) * nI n + 4).toNatClampNeg = 7 * n + 4 := by rw [iv74]; exact clN (by omega)
          have i5 : vp_in ((7 : Int32) * nI n + 5) 49 := by rw [iv75]; exact vpn (by omega) (by decide)
          have i4 : vp_in ((7 : Int32) * nI n + 4) 49 := by rw [iv74]; exact vpn (by omega) (by decide)
          have e4 : g 160 (7 * n + 4) = nv r n 4 := by rw [← eg]; exact (lr_v hn (by decide)).symm
          have e9 : g 158 9 = r 10 := by rw [← eg]; exact (lr_p (by decide) (by decide)).symm
          have hw9 := ne_9999 hw
          refine ⟨up1 (up1 g 160 (upd (upd (g 160) (7 * n + 5) w) (7 * n + 4) (nv r n 4 + 1))) 158 (upd (g 158) 9 (r 10 + 1)), fun Q q => bt' rfl (bf' hle (whyL (by rw [eg]; exact hI) hn hs8 ?_)), ?_, ?_, fun c hc2 => by rw [up1_n _ _ (by omega), up1_n _ _ (by omega)]⟩
          · rw [eg]
            refine bt' he (wouldL hn hs8 ?_)
            rw [eg, ← ew, v5, v4]
            refine ⟨i5, nm' ⟨i4, i4, nm' (nm' ⟨i5, ?_⟩)⟩⟩
            have e49 : up1 (up1 g 160 (upd (g 160) (7 * n + 5) w)) 160 (upd (up1 g 160 (upd (g 160) (7 * n + 5) w) 160) (7 * n + 4) (up1 g 160 (upd (g 160) (7 * n + 5) w) 160 (7 * n + 4) + 1)) = up1 g 160 (upd (upd (g 160) (7 * n + 5) w) (7 * n + 4) (nv r n 4 + 1)) := by
              rw [up1_s, up1_up1, upd_n' (show 7 * n + 4 ≠ 7 * n + 5 by omega), e4]
            rw [e49, up1_n _ _ (show (158 : Nat) ≠ 160 by decide), up1_n _ _ (show (160 : Nat) ≠ 158 by decide), up1_s, upd_n' (show 7 * n + 5 ≠ 7 * n + 4 by omega), upd_s', e9]
            exact q
          · show rwA (upd (g 158) 9 (r 10 + 1)) (g 159) (upd (upd (g 160) (7 * n + 5) w) (7 * n + 4) (nv r n 4 + 1)) (g 161) = r'
            rw [ra_p (by decide) (by decide), ra_v hn (by decide), ra_v5 hn, hs9_n hw9, vl9_n hw9, show rwA (g 158) (g 159) (g 160) (g 161) = r from eg, er, fa_upd_swap r (i := 31 + 8 * n + 5) (j := 31 + 8 * n + 6) (by omega)]
          · exact DI_c (by rw [up1_s, upd_n' (by decide)]) (by rw [up1_n _ _ (by decide), up1_n _ _ (by decide)]) hd
        · refine RV_nav hn hV (fun o j ho => by rw [up1_n _ _ (by omega), up1_n _ _ (by omega)]) (fun o j hj => ?_) hr ?_
          · by_cases ho : o = 9
            · subst ho; rw [up1_s, upd_n' hj]
            · rw [up1_n _ _ ho]
              by_cases ho2 : o = 10
              · subst ho2; rw [up1_s, upd_n' hj]
              · rw [up1_n _ _ ho2]
          · unfold rvNav
            rw [hfn 0 (by decide), hfn 1 (by decide), hfn 2 (by decide), hfn 3 (by decide), hfn 4 (by decide), hfn 5 (by decide), hfn 6 (by decide), hfn 7 (by decide)]
            refine ⟨a5, a6, a7, a8, ?_, ?_, a11⟩
            · rw [up1_s, upd_s']; rfl
            · rw [up1_n _ _ (by decide), up1_s, upd_s']; rfl
        · refine IV_nav hn hI hr ?_ ?_
          · unfold ivNav
            rw [hfn 0 (by decide), hfn 1 (by decide), hfn 2 (by decide), hfn 5 (by decide), hfn 6 (by decide), hfn 7 (by decide)]
            exact ⟨j0, j1, j2, (show rng (1 : Int32) 0 1 from ⟨by decide, by decide⟩), hw, j7⟩
          · exact Eq.trans (b := sm7 r + 1) (by rw [er, upd_s', hI.2.2.2.2]) (sm7_inc (r := r) hn (fun m hm hmn => by rw [hf m 4 hm (by decide)]; simp [hmn]) (by rw [hfn 4 (by decide)]; rfl)).symm
      · refine ⟨-5, v, r, by unfold sightsF; rw [if_pos (by rw [ek]; exact nI_lt hs (by omega)), clN (show n < 2 ^ 31 by omega), clN (show s < 2 ^ 31 by omega), if_neg he], fun Q q => ?_, ?_, hV, hI, fun _ => ⟨rfl, rfl⟩⟩
        · refine tellC hV hI hn hs hk ek ?_
          rw [if_neg he]
          exact bt' (by decide) q
        · refine lawE (fun g eg hd Q q => ?_)
          have e12 : g 158 12 = nI k := (eg12 eg).trans ek
          have hle : ¬ g 158 12 ≤ nI s := by rw [e12]; exact nI_ge hs (by omega)
          have hlt : nI s < g 158 12 := by rw [e12]; exact nI_lt hs (by omega)
          refine bt' rfl (bf' hle (whyL (by rw [eg]; exact hI) hn (by omega) ?_))
          rw [eg]
          exact bf' he (bt' hlt q)
    · refine ⟨-1, v, r, if_neg (by rw [ek]; exact fun z => hy ((lt_star hk).mp ⟨hxb, z⟩)), fun Q q => ?_, ?_, hV, hI, fun _ => ⟨rfl, rfl⟩⟩
      · show F_X6_takeSight b x1 x2 (cv b hc v) Q
        unfold F_X6_takeSight F_X6_tellSight
        exact reasonC_s (v := v) hk (by rw [hst, ek]) hy (bf' (by decide) (bt' (by decide) q))
      · refine lawE (fun g eg hd Q q => ?_)
        have e12 : g 158 12 = nI k := (eg12 eg).trans ek
        have hnl : ¬ x2 < g 158 12 := by rw [e12]; exact fun z => hy ((lt_star hk).mp ⟨hxb, z⟩)
        exact bt' rfl (bt' (nlt.mp hnl) (bf' hnl q))
  · refine ⟨-1, v, r, absurd hx0 hx, fun Q q => ?_, ?_, hV, hI, fun _ => ⟨rfl, rfl⟩⟩
    · show F_X6_takeSight b x1 x2 (cv b hc v) Q
      unfold F_X6_takeSight F_X6_tellSight
      exact reasonC_n (v := v) hx (bf' (by decide) (bt' (by decide) q))
    · exact absurd hx0 hx

