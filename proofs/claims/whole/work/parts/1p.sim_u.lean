/-! Digits and the whole order. -/
def oneC (h : Hp) (Q : Int32 → Hp → Prop) : Prop := F_X4_readDigit h (fun r_12 h_13 => ∀ h_14 : Hp, h_14 = up1 h_13 3 (upd (h_13 3) 4 r_12) → ((((h_14 3 4) = (-1 : Int32) → (Q (0 : Int32) h_14)) ∧ (¬ (h_14 3 4) = (-1 : Int32) → (Q (1 : Int32) h_14)))))
def dg1S (t : Nat → Nat) (L p : Nat) : Bool × Nat := if dgT t L p = true then (true, p + 1) else (false, p)
theorem oneRead {H M : Hp} {t : Nat → Nat} {L p : Nat} {f g : Nat → Int32} (hT : TX H M t L) (hp : p ≤ L) (hf : PC L p f) (hg : PM L p g) : RD H M L oneC (fun h Q => F_X8_readsDigits 0 h Q) p (dg1S t L p) f g (fun f' g' => f' 4 = g' 10) := by
  have hcd := cd_le (p := p) hT
  by_cases hd : dgT t L p = true
  · have hpL := dg_L hd
    rw [show dg1S t L p = (true, p + 1) from if_pos hd]
    refine ⟨upd (upd f 2 (nI (p + 1))) 4 (nI (cdT t L p - 48)), upd (upd (upd g 8 (nI (p + 1))) 10 (nI (cdT t L p - 48))) 11 (nI (cdT t L p - 48)), Nat.le_succ p, hpL, fun _ => Nat.lt_succ_self p, ⟨by rw [upd_n' (by decide), upd_n' (by decide)]; exact hf.1, by rw [upd_n' (by decide), upd_s']⟩, ⟨by rw [upd_n' (by decide), upd_n' (by decide), upd_n' (by decide)]; exact hg.1, by rw [upd_n' (by decide), upd_n' (by decide), upd_s']⟩, by rw [upd_n' (by decide), upd_n' (by decide)], fun k h8 h10 h11 => by rw [upd_n' h11, upd_n' h10, upd_n' h8], fun _ => by dsimp only; rw [upd_s', upd_n' (by decide), upd_s'], fun Q q => ?_, fun Q q => ?_⟩
    · refine digC hT hp hf (fun _ => nm' ?_) (fun z => absurd hd z)
      simp only [up1_s, up1_up1, upd_s']
      exact bf' (nI_m1 (by omega)) q
    · refine digM hT hp hg (fun _ => nm' ?_) (fun z => absurd hd z)
      simp only [up1_s, up1_up1, upd_s']
      refine bf' (nI_m6 (by omega)) (bt' (by simp) (nm' ?_))
      simp only [up1_s, up1_up1, upd_s']
      exact bf' (nI_m6 (by omega)) q
  · rw [show dg1S t L p = (false, p) from if_neg hd]
    refine ⟨upd f 4 (-1), upd (upd g 10 (-6)) 11 (-6), Nat.le_refl _, hp, fun z => absurd z Bool.false_ne_true, ⟨by rw [upd_n' (by decide)]; exact hf.1, by rw [upd_n' (by decide)]; exact hf.2⟩, ⟨by rw [upd_n' (by decide), upd_n' (by decide)]; exact hg.1, by rw [upd_n' (by decide), upd_n' (by decide)]; exact hg.2⟩, upd_n' (by decide), fun k h8 h10 h11 => by rw [upd_n' h11, upd_n' h10], fun z => absurd z Bool.false_ne_true, fun Q q => ?_, fun Q q => ?_⟩
    · refine digC hT hp hf (fun z => absurd z hd) (fun _ => nm' ?_)
      simp only [up1_s, up1_up1, upd_s']
      exact bt' (by simp) q
    · refine digM hT hp hg (fun z => absurd z hd) (fun _ => nm' ?_)
      simp only [up1_s, up1_up1, upd_s']
      refine bt' (by simp) (nm' ?_)
      simp only [up1_s, up1_up1, upd_s']
      exact bt' (by simp) q
def dg2S (t : Nat → Nat) (L p : Nat) : Bool × Nat := if dgT t L p = true then (if dgT t L (p + 1) = true then (true, p + 2) else (false, p + 1)) else (false, p)
theorem twoRead {H M : Hp} {t : Nat → Nat} {L p : Nat} {f g : Nat → Int32} (hT : TX H M t L) (hp : p ≤ L) (hf : PC L p f) (hg : PM L p g) : RD H M L F_X4_readTwoDigits (fun h Q => F_X8_readsDigits 1 h Q) p (dg2S t L p) f g (fun f' g' => f' 4 = g' 10 ∧ f' 5 = g' 11) := by
  have hcd := cd_le (p := p) hT
  have hcd1 := cd_le (p := p + 1) hT
  by_cases hd : dgT t L p = true
  · have hpL := dg_L hd
    have hf1 : PC L (p + 1) (upd (upd f 2 (nI (p + 1))) 4 (nI (cdT t L p - 48))) := ⟨by rw [upd_n' (by decide), upd_n' (by decide)]; exact hf.1, by rw [upd_n' (by decide), upd_s']⟩
    have hg1 : PM L (p + 1) (upd (upd g 8 (nI (p + 1))) 10 (nI (cdT t L p - 48))) := ⟨by rw [upd_n' (by decide), upd_n' (by decide)]; exact hg.1, by rw [upd_n' (by decide), upd_s']⟩
    have hp1 : p + 1 ≤ L := hpL
    by_cases hd1 : dgT t L (p + 1) = true
    · have hpL1 := dg_L hd1
      have hp2 : p + 2 ≤ L := hpL1
      rw [show dg2S t L p = (true, p + 2) from (if_pos hd).trans (if_pos hd1)]
      refine ⟨upd (upd (upd (upd f 2 (nI (p + 1))) 4 (nI (cdT t L p - 48))) 2 (nI (p + 1 + 1))) 5 (nI (cdT t L (p + 1) - 48)), upd (upd (upd (upd g 8 (nI (p + 1))) 10 (nI (cdT t L p - 48))) 8 (nI (p + 1 + 1))) 11 (nI (cdT t L (p + 1) - 48)), by show p ≤ p + 2; omega, hp2, fun _ => by show p < p + 2; omega, ⟨by rw [upd_n' (by decide), upd_n' (by decide)]; exact hf1.1, by rw [upd_n' (by decide), upd_s']⟩, ⟨by rw [upd_n' (by decide), upd_n' (by decide)]; exact hg1.1, by rw [upd_n' (by decide), upd_s']⟩, by rw [upd_n' (by decide), upd_n' (by decide), upd_n' (by decide), upd_n' (by decide)], fun k h8 h10 h11 => by rw [upd_n' h11, upd_n' h8, upd_n' h10, upd_n' h8], fun _ => by dsimp only; rw [upd_n' (by decide), upd_n' (by decide), upd_s', upd_n' (by decide), upd_n' (by decide), upd_s', upd_s', upd_s']; exact ⟨rfl, rfl⟩, fun Q q => ?_, fun Q q => ?_⟩
      · refine digC hT hp hf (fun _ => nm' ?_) (fun z => absurd hd z)
        simp only [up1_s, up1_up1, upd_s']
        refine bf' (nI_m1 (by omega)) (digC hT hp1 hf1 (fun _ => nm' ?_) (fun z => absurd hd1 z))
        simp only [up1_s, up1_up1, upd_s']
        exact bf' (nI_m1 (by omega)) q
      · refine digM hT hp hg (fun _ => nm' ?_) (fun z => absurd hd z)
        simp only [up1_s, up1_up1, upd_s']
        refine bf' (nI_m6 (by omega)) (bf' (by decide) (digM hT hp1 hg1 (fun _ => nm' ?_) (fun z => absurd hd1 z)))
        simp only [up1_s, up1_up1, upd_s']
        exact bf' (nI_m6 (by omega)) q
    · rw [show dg2S t L p = (false, p + 1) from (if_pos hd).trans (if_neg hd1)]
      refine ⟨upd (upd (upd f 2 (nI (p + 1))) 4 (nI (cdT t L p - 48))) 5 (-1), upd (upd (upd g 8 (nI (p + 1))) 10 (nI (cdT t L p - 48))) 11 (-6), by show p ≤ p + 1; omega, hp1, fun z => absurd z Bool.false_ne_true, ⟨by rw [upd_n' (by decide)]; exact hf1.1, by rw [upd_n' (by decide)]; exact hf1.2⟩, ⟨by rw [upd_n' (by decide)]; exact hg1.1, by rw [upd_n' (by decide)]; exact hg1.2⟩, by rw [upd_n' (by decide), upd_n' (by decide), upd_n' (by decide)], fun k h8 h10 h11 => by rw [upd_n' h11, upd_n' h10, upd_n' h8], fun z => absurd z Bool.false_ne_true, fun Q q => ?_, fun Q q => ?_⟩
      · refine digC hT hp hf (fun _ => nm' ?_) (fun z => absurd hd z)
        simp only [up1_s, up1_up1, upd_s']
        refine bf' (nI_m1 (by omega)) (digC hT hp1 hf1 (fun z => absurd z hd1) (fun _ => nm' ?_))
        simp only [up1_s, up1_up1, upd_s']
        exact bt' (by simp) q
      · refine digM hT hp hg (fun _ => nm' ?_) (fun z => absurd hd z)
        simp only [up1_s, up1_up1, upd_s']
        refine bf' (nI_m6 (by omega)) (bf' (by decide) (digM hT hp1 hg1 (fun z => absurd z hd1) (fun _ => nm' ?_)))
        simp only [up1_s, up1_up1, upd_s']
        exact bt' (by simp) q
  · rw [show dg2S t L p = (false, p) from if_neg hd]
    refine ⟨upd f 4 (-1), upd (upd g 10 (-6)) 11 (-6), Nat.le_refl _, hp, fun z => absurd z Bool.false_ne_true, ⟨by rw [upd_n' (by decide)]; exact hf.1, by rw [upd_n' (by decide)]; exact hf.2⟩, ⟨by rw [upd_n' (by decide), upd_n' (by decide)]; exact hg.1, by rw [upd_n' (by decide), upd_n' (by decide)]; exact hg.2⟩, upd_n' (by decide), fun k h8 h10 h11 => by rw [upd_n' h11, upd_n' h10], fun z => absurd z Bool.false_ne_true, fun Q q => ?_, fun Q q => ?_⟩
    · refine digC hT hp hf (fun z => absurd z hd) (fun _ => nm' ?_)
      simp only [up1_s, up1_up1, upd_s']
      exact bt' (by simp) q
    · refine digM hT hp hg (fun z => absurd z hd) (fun _ => nm' ?_)
      simp only [up1_s, up1_up1, upd_s']
      refine bt' (by simp) (nm' ?_)
      simp only [up1_s, up1_up1, upd_s']
      exact bt' (by simp) q
def ordF (t : Nat → Nat) (L p : Nat) : Bool × Nat := if cdT t L p = 42 then sgnS t L (p + 1) else if cdT t L p = 99 then dg1S t L (p + 1) else if cdT t L p = 103 then sgnS t L (p + 1) else if cdT t L p = 109 then (true, p + 1) else if cdT t L p = 110 then (true, p + 1) else if cdT t L p = 111 then dg2S t L (p + 1) else if cdT t L p = 115 then numS t L (p + 1) else if cdT t L p = 122 then dg1S t L (p + 1) else (false, p)
def OK8 (c : Nat) : Prop := c = 42 ∨ c = 99 ∨ c = 103 ∨ c = 109 ∨ c = 110 ∨ c = 111 ∨ c = 115 ∨ c = 122
def ORD (H M : Hp) (L p : Nat) (o : Bool × Nat) (c : Nat) (f g : Nat → Int32) : Prop := ∃ f' g' : Nat → Int32, p ≤ o.2 ∧ o.2 ≤ L ∧ (o.1 = true → p < o.2) ∧ PC L o.2 f' ∧ PM L o.2 g' ∧ (∀ k, k ≠ 8 → k ≠ 9 → k ≠ 10 → k ≠ 11 → g' k = g k) ∧ (o.1 = true → f' 3 = nI c ∧ g' 9 = nI c ∧ OK8 c ∧ (c = 109 ∨ c = 110 ∨ f' 4 = g' 10) ∧ (c = 111 → f' 5 = g' 11)) ∧ (∀ Q : Int32 → Hp → Prop, Q (bI o.1) (up1 H 3 f') → F_X4_readOrder (up1 H 3 f) Q) ∧ (∀ Q : Int32 → Hp → Prop, Q (bI o.1) (up1 M 0 g') → F_X8_readsOrder (up1 M 0 g) Q)
theorem ordRead {H M : Hp} {t : Nat → Nat} {L p : Nat} {f g : Nat → Int32} (hT : TX H M t L) (hp : p ≤ L) (hf : PC L p f) (hg : PM L p g) : ORD H M L p (ordF t L p) (cdT t L p) f g := by
  have hcd := cd_le (p := p) hT
  have hf1 : ∀ c : Int32, PC L (p + 1) (upd (upd f 3 c) 2 (nI (p + 1))) := fun c => ⟨by rw [upd_n' (by decide), upd_n' (by decide)]; exact hf.1, upd_s'⟩
  have hg1 : ∀ c : Int32, PM L (p + 1) (upd (upd g 9 c) 8 (nI (p + 1))) := fun c => ⟨by rw [upd_n' (by decide), upd_n' (by decide)]; exact hg.1, upd_s'⟩
  have ef : ∀ c : Int32, upd (upd f 3 c) 2 (upd f 3 c 2 + 1) = upd (upd f 3 c) 2 (nI (p + 1)) := fun c => by rw [upd_n' (show (2 : Nat) ≠ 3 by decide), hf.2, nI_1]
  have eg : ∀ c : Int32, upd (upd g 9 c) 8 (upd g 9 c 8 + 1) = upd (upd g 9 c) 8 (nI (p + 1)) := fun c => by rw [upd_n' (show (8 : Nat) ≠ 9 by decide), hg.2, nI_1]
  unfold ordF
  by_cases h42 : cdT t L p = 42
  · have hpL : p < L := cd_L (t := t) (L := L) (by omega)
    rw [if_pos h42]
    obtain ⟨f', g', a1, a2, a3, a4, a5, a6, a7, a8, aC, aM⟩ := sgnRead (p := p + 1) hT hpL (hf1 (nI 42)) (hg1 (nI 42))
    refine ⟨f', g', by omega, a2, fun z => by have := a3 z; omega, a4, a5, fun k h8 h9 h10 h11 => (a7 k h8 h10 h11).trans (by rw [upd_n' h8, upd_n' h9]), fun z => ⟨by rw [a6, upd_n' (by decide), upd_s', h42], by rw [a7 9 (by decide) (by decide) (by decide), upd_n' (by decide), upd_s', h42], by rw [h42]; unfold OK8; decide, Or.inr (Or.inr (a8 z)), fun z2 => by omega⟩, fun Q q => ?_, fun Q q => ?_⟩
    · refine nextC hT hp hf (nm' (nm' ?_))
      simp only [up1_s, up1_up1, upd_s', h42]
      refine bt' (by decide) (nm' ?_)
      simp only [up1_up1, ef]
      exact aC _ ⟨bI_n _, q⟩
    · refine codeM hT hp hg (nm' (nm' ?_))
      simp only [up1_s, up1_up1, upd_s', h42]
      refine bt' (by decide) (nm' ?_)
      simp only [up1_up1, eg]
      exact aM _ ⟨bI_n _, q⟩
  by_cases h99 : cdT t L p = 99
  · have hpL : p < L := cd_L (t := t) (L := L) (by omega)
    rw [if_neg h42, if_pos h99]
    obtain ⟨f', g', a1, a2, a3, a4, a5, a6, a7, a8, aC, aM⟩ := oneRead (p := p + 1) hT hpL (hf1 (nI 99)) (hg1 (nI 99))
    refine ⟨f', g', by omega, a2, fun z => by have := a3 z; omega, a4, a5, fun k h8 h9 h10 h11 => (a7 k h8 h10 h11).trans (by rw [upd_n' h8, upd_n' h9]), fun z => ⟨by rw [a6, upd_n' (by decide), upd_s', h99], by rw [a7 9 (by decide) (by decide) (by decide), upd_n' (by decide), upd_s', h99], by rw [h99]; unfold OK8; decide, Or.inr (Or.inr (a8 z)), fun z2 => by omega⟩, fun Q q => ?_, fun Q q => ?_⟩
    · refine nextC hT hp hf (nm' (nm' ?_))
      simp only [up1_s, up1_up1, upd_s', h99]
      refine bf' (by decide) (bt' (by decide) (nm' ?_))
      simp only [up1_up1, ef]
      exact aC Q q
    · refine codeM hT hp hg (nm' (nm' ?_))
      simp only [up1_s, up1_up1, upd_s', h99]
      refine bf' (by decide) (bt' (by decide) (nm' ?_))
      simp only [up1_up1, eg]
      refine bf' ?_ (aM _ ⟨bI_n _, q⟩)
      rw [up1_s, upd_n' (by decide), upd_s']
      decide
  by_cases h103 : cdT t L p = 103
  · have hpL : p < L := cd_L (t := t) (L := L) (by omega)
    rw [if_neg h42, if_neg h99, if_pos h103]
    obtain ⟨f', g', a1, a2, a3, a4, a5, a6, a7, a8, aC, aM⟩ := sgnRead (p := p + 1) hT hpL (hf1 (nI 103)) (hg1 (nI 103))
    refine ⟨f', g', by omega, a2, fun z => by have := a3 z; omega, a4, a5, fun k h8 h9 h10 h11 => (a7 k h8 h10 h11).trans (by rw [upd_n' h8, upd_n' h9]), fun z => ⟨by rw [a6, upd_n' (by decide), upd_s', h103], by rw [a7 9 (by decide) (by decide) (by decide), upd_n' (by decide), upd_s', h103], by rw [h103]; unfold OK8; decide, Or.inr (Or.inr (a8 z)), fun z2 => by omega⟩, fun Q q => ?_, fun Q q => ?_⟩
    · refine nextC hT hp hf (nm' (nm' ?_))
      simp only [up1_s, up1_up1, upd_s', h103]
      refine bf' (by decide) (bf' (by decide) (bt' (by decide) (nm' ?_)))
      simp only [up1_up1, ef]
      exact aC _ ⟨bI_n _, q⟩
    · refine codeM hT hp hg (nm' (nm' ?_))
      simp only [up1_s, up1_up1, upd_s', h103]
      refine bf' (by decide) (bf' (by decide) (bt' (by decide) (nm' ?_)))
      simp only [up1_up1, eg]
      exact aM _ ⟨bI_n _, q⟩
  by_cases h109 : cdT t L p = 109
  · have hpL : p < L := cd_L (t := t) (L := L) (by omega)
    rw [if_neg h42, if_neg h99, if_neg h103, if_pos h109]
    refine ⟨upd (upd f 3 (nI 109)) 2 (nI (p + 1)), upd (upd g 9 (nI 109)) 8 (nI (p + 1)), Nat.le_succ p, hpL, fun _ => Nat.lt_succ_self p, hf1 _, hg1 _, fun k h8 h9 h10 h11 => by rw [upd_n' h8, upd_n' h9], fun _ => ⟨by rw [upd_n' (by decide), upd_s', h109], by rw [upd_n' (by decide), upd_s', h109], by rw [h109]; unfold OK8; decide, Or.inl h109, fun z => by omega⟩, fun Q q => ?_, fun Q q => ?_⟩
    · refine nextC hT hp hf (nm' (nm' ?_))
      simp only [up1_s, up1_up1, upd_s', h109]
      refine bf' (by decide) (bf' (by decide) (bf' (by decide) (bt' (by decide) (nm' ?_))))
      simp only [up1_up1, ef]
      exact q
    · refine codeM hT hp hg (nm' (nm' ?_))
      simp only [up1_s, up1_up1, upd_s', h109]
      refine bf' (by decide) (bf' (by decide) (bf' (by decide) (bt' (by decide) (nm' ?_))))
      simp only [up1_up1, eg]
      exact q
  by_cases h110 : cdT t L p = 110
  · have hpL : p < L := cd_L (t := t) (L := L) (by omega)
    rw [if_neg h42, if_neg h99, if_neg h103, if_neg h109, if_pos h110]
    refine ⟨upd (upd f 3 (nI 110)) 2 (nI (p + 1)), upd (upd g 9 (nI 110)) 8 (nI (p + 1)), Nat.le_succ p, hpL, fun _ => Nat.lt_succ_self p, hf1 _, hg1 _, fun k h8 h9 h10 h11 => by rw [upd_n' h8, upd_n' h9], fun _ => ⟨by rw [upd_n' (by decide), upd_s', h110], by rw [upd_n' (by decide), upd_s', h110], by rw [h110]; unfold OK8; decide, Or.inr (Or.inl h110), fun z => by omega⟩, fun Q q => ?_, fun Q q => ?_⟩
    · refine nextC hT hp hf (nm' (nm' ?_))
      simp only [up1_s, up1_up1, upd_s', h110]
      refine bf' (by decide) (bf' (by decide) (bf' (by decide) (bf' (by decide) (bt' (by decide) (nm' ?_)))))
      simp only [up1_up1, ef]
      exact q
    · refine codeM hT hp hg (nm' (nm' ?_))
      simp only [up1_s, up1_up1, upd_s', h110]
      refine bf' (by decide) (bf' (by decide) (bf' (by decide) (bf' (by decide) (bt' (by decide) (nm' ?_)))))
      simp only [up1_up1, eg]
      exact q
  by_cases h111 : cdT t L p = 111
  · have hpL : p < L := cd_L (t := t) (L := L) (by omega)
    rw [if_neg h42, if_neg h99, if_neg h103, if_neg h109, if_neg h110, if_pos h111]
    obtain ⟨f', g', a1, a2, a3, a4, a5, a6, a7, a8, aC, aM⟩ := twoRead (p := p + 1) hT hpL (hf1 (nI 111)) (hg1 (nI 111))
    refine ⟨f', g', by omega, a2, fun z => by have := a3 z; omega, a4, a5, fun k h8 h9 h10 h11 => (a7 k h8 h10 h11).trans (by rw [upd_n' h8, upd_n' h9]), fun z => ⟨by rw [a6, upd_n' (by decide), upd_s', h111], by rw [a7 9 (by decide) (by decide) (by decide), upd_n' (by decide), upd_s', h111], by rw [h111]; unfold OK8; decide, Or.inr (Or.inr (a8 z).1), fun _ => (a8 z).2⟩, fun Q q => ?_, fun Q q => ?_⟩
    · refine nextC hT hp hf (nm' (nm' ?_))
      simp only [up1_s, up1_up1, upd_s', h111]
      refine bf' (by decide) (bf' (by decide) (bf' (by decide) (bf' (by decide) (bf' (by decide) (bt' (by decide) (nm' ?_))))))
      simp only [up1_up1, ef]
      exact aC _ ⟨bI_n _, q⟩
    · refine codeM hT hp hg (nm' (nm' ?_))
      simp only [up1_s, up1_up1, upd_s', h111]
      refine bf' (by decide) (bf' (by decide) (bf' (by decide) (bf' (by decide) (bf' (by decide) (bt' (by decide) (nm' ?_))))))
      simp only [up1_up1, eg]
      refine bt' ?_ (aM _ ⟨bI_n _, q⟩)
      rw [up1_s, upd_n' (by decide), upd_s']
      decide
  by_cases h115 : cdT t L p = 115
  · have hpL : p < L := cd_L (t := t) (L := L) (by omega)
    rw [if_neg h42, if_neg h99, if_neg h103, if_neg h109, if_neg h110, if_neg h111, if_pos h115]
    obtain ⟨f', g', a1, a2, a3, a4, a5, a6, a7, a8, aC, aM⟩ := nrRead (p := p + 1) hT hpL (hf1 (nI 115)) (hg1 (nI 115))
    refine ⟨f', g', by omega, a2, fun z => by have := a3 z; omega, a4, a5, fun k h8 h9 h10 h11 => (a7 k h8 h10 h11).trans (by rw [upd_n' h8, upd_n' h9]), fun z => ⟨by rw [a6, upd_n' (by decide), upd_s', h115], by rw [a7 9 (by decide) (by decide) (by decide), upd_n' (by decide), upd_s', h115], by rw [h115]; unfold OK8; decide, Or.inr (Or.inr (a8 z)), fun z2 => by omega⟩, fun Q q => ?_, fun Q q => ?_⟩
    · refine nextC hT hp hf (nm' (nm' ?_))
      simp only [up1_s, up1_up1, upd_s', h115]
      refine bf' (by decide) (bf' (by decide) (bf' (by decide) (bf' (by decide) (bf' (by decide) (bf' (by decide) (bt' (by decide) (nm' ?_)))))))
      simp only [up1_up1, ef]
      exact aC Q q
    · refine codeM hT hp hg (nm' (nm' ?_))
      simp only [up1_s, up1_up1, upd_s', h115]
      refine bf' (by decide) (bf' (by decide) (bf' (by decide) (bf' (by decide) (bf' (by decide) (bf' (by decide) (bt' (by decide) (nm' ?_)))))))
      simp only [up1_up1, eg]
      exact aM _ ⟨bI_n _, q⟩
  by_cases h122 : cdT t L p = 122
  · have hpL : p < L := cd_L (t := t) (L := L) (by omega)
    rw [if_neg h42, if_neg h99, if_neg h103, if_neg h109, if_neg h110, if_neg h111, if_neg h115, if_pos h122]
    obtain ⟨f', g', a1, a2, a3, a4, a5, a6, a7, a8, aC, aM⟩ := oneRead (p := p + 1) hT hpL (hf1 (nI 122)) (hg1 (nI 122))
    refine ⟨f', g', by omega, a2, fun z => by have := a3 z; omega, a4, a5, fun k h8 h9 h10 h11 => (a7 k h8 h10 h11).trans (by rw [upd_n' h8, upd_n' h9]), fun z => ⟨by rw [a6, upd_n' (by decide), upd_s', h122], by rw [a7 9 (by decide) (by decide) (by decide), upd_n' (by decide), upd_s', h122], by rw [h122]; unfold OK8; decide, Or.inr (Or.inr (a8 z)), fun z2 => by omega⟩, fun Q q => ?_, fun Q q => ?_⟩
    · refine nextC hT hp hf (nm' (nm' ?_))
      simp only [up1_s, up1_up1, upd_s', h122]
      refine bf' (by decide) (bf' (by decide) (bf' (by decide) (bf' (by decide) (bf' (by decide) (bf' (by decide) (bf' (by decide) (bt' (by decide) (nm' ?_))))))))
      simp only [up1_up1, ef]
      exact aC Q q
    · refine codeM hT hp hg (nm' (nm' ?_))
      simp only [up1_s, up1_up1, upd_s', h122]
      refine bf' (by decide) (bf' (by decide) (bf' (by decide) (bf' (by decide) (bf' (by decide) (bf' (by decide) (bf' (by decide) (bt' (by decide) (nm' ?_))))))))
      simp only [up1_up1, eg]
      refine bf' ?_ (aM _ ⟨bI_n _, q⟩)
      rw [up1_s, upd_n' (by decide), upd_s']
      decide
  rw [if_neg h42, if_neg h99, if_neg h103, if_neg h109, if_neg h110, if_neg h111, if_neg h115, if_neg h122]
  have hne : ∀ m : Nat, m < 2 ^ 31 → ¬ cdT t L p = m → ¬ nI (cdT t L p) = nI m := fun m hm h z => h ((nI_eq (by omega) hm).mp z)
  refine ⟨upd f 3 (nI (cdT t L p)), upd g 9 (nI (cdT t L p)), Nat.le_refl _, hp, fun z => absurd z Bool.false_ne_true, ⟨by rw [upd_n' (by decide)]; exact hf.1, by rw [upd_n' (by decide)]; exact hf.2⟩, ⟨by rw [upd_n' (by decide)]; exact hg.1, by rw [upd_n' (by decide)]; exact hg.2⟩, fun k h8 h9 h10 h11 => upd_n' h9, fun z => absurd z Bool.false_ne_true, fun Q q => ?_, fun Q q => ?_⟩
  · refine nextC hT hp hf (nm' (nm' ?_))
    simp only [up1_s, up1_up1, upd_s']
    exact bf' (hne 42 (by decide) h42) (bf' (hne 99 (by decide) h99) (bf' (hne 103 (by decide) h103) (bf' (hne 109 (by decide) h109) (bf' (hne 110 (by decide) h110) (bf' (hne 111 (by decide) h111) (bf' (hne 115 (by decide) h115) (bf' (hne 122 (by decide) h122) (q))))))))
  · refine codeM hT hp hg (nm' (nm' ?_))
    simp only [up1_s, up1_up1, upd_s']
    exact bf' (hne 42 (by decide) h42) (bf' (hne 99 (by decide) h99) (bf' (hne 103 (by decide) h103) (bf' (hne 109 (by decide) h109) (bf' (hne 110 (by decide) h110) (bf' (hne 111 (by decide) h111) (bf' (hne 115 (by decide) h115) (bf' (hne 122 (by decide) h122) (q))))))))
