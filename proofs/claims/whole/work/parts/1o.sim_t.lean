/-! Orders of the pad. -/
def bI (b : Bool) : Int32 := if b = true then 1 else 0
theorem bI_n (b : Bool) : narrow .boolean (.int (bI b)) = .int (bI b) := by cases b <;> rfl
def numS (t : Nat → Nat) (L p : Nat) : Bool × Nat := if dgT t L p = true then (true, if cdT t L p = 48 then p + 1 else numE t L 3 (p + 1)) else (false, p)
theorem numRead {H M : Hp} {t : Nat → Nat} {L p : Nat} {f g : Nat → Int32} (hT : TX H M t L) (hp : p ≤ L) (hf : PC L p f) (hg : PM L p g) : ∃ (v' : Nat) (f' g' : Nat → Int32), v' ≤ 9999 ∧ p ≤ (numS t L p).2 ∧ (numS t L p).2 ≤ L ∧ ((numS t L p).1 = true → p < (numS t L p).2) ∧ PC L (numS t L p).2 f' ∧ PM L (numS t L p).2 g' ∧ ((numS t L p).1 = true → g' 10 = nI v') ∧ kpC f f' ∧ kpM g g' ∧ (∀ Q : Int32 → Hp → Prop, Q (if (numS t L p).1 = true then nI v' else -1) (up1 H 3 f') → F_X4_readNumber (up1 H 3 f) Q) ∧ (∀ Q : Int32 → Hp → Prop, Q (bI (numS t L p).1) (up1 M 0 g') → F_X8_readsNumber (up1 M 0 g) Q) := by
  by_cases hd : dgT t L p = true
  · have hd2 := dg_i.mp hd
    have hpL := dg_L hd
    by_cases h0 : cdT t L p = 48
    · have eN : numS t L p = (true, p + 1) := by unfold numS; rw [if_pos hd, if_pos h0]
      rw [eN]
      refine ⟨0, upd f 2 (nI (p + 1)), upd (upd g 8 (nI (p + 1))) 10 (nI 0), by decide, Nat.le_succ p, hpL, fun _ => Nat.lt_succ_self p, ⟨by rw [upd_n' (by decide)]; exact hf.1, upd_s'⟩, ⟨by rw [upd_n' (by decide), upd_n' (by decide)]; exact hg.1, by rw [upd_n' (by decide), upd_s']⟩, fun _ => upd_s', fun k h2 => upd_n' h2, fun k h8 h10 h11 => by rw [upd_n' h10, upd_n' h8], fun Q q => ?_, fun Q q => ?_⟩
      · refine digC hT hp hf (fun _ => ⟨1, bf' (by decide) (bt' ?_ ?_)⟩) (fun z => absurd hd z)
        · rw [h0]; decide
        · rw [h0]; exact q
      · refine digM hT hp hg (fun _ => nm' (bf' ?_ ⟨1, bt' ?_ ?_⟩)) (fun z => absurd hd z)
        · rw [up1_s, upd_s', h0]; decide
        · rw [up1_s, upd_s', h0]; decide
        · rw [up1_s, up1_up1, h0]; exact q
    · have eN : numS t L p = (true, numE t L 3 (p + 1)) := by unfold numS; rw [if_pos hd, if_neg h0]
      rw [eN]
      obtain ⟨v', f', g', a1, a2, a3, a4, a5, a6, a7, a8, aC, aM⟩ := numLoop hT 3 1 (cdT t L p - 48) (p + 1) (upd f 2 (nI (p + 1))) (upd (upd g 8 (nI (p + 1))) 10 (nI (cdT t L p - 48))) rfl (by decide) (by show 1 ≤ cdT t L p - 48; omega) (by show cdT t L p - 48 < 10; omega) hpL ⟨by rw [upd_n' (by decide)]; exact hf.1, upd_s'⟩ ⟨by rw [upd_n' (by decide), upd_n' (by decide)]; exact hg.1, by rw [upd_n' (by decide), upd_s']⟩ upd_s'
      refine ⟨v', f', g', a1, by show p ≤ numE t L 3 (p + 1); omega, a3, fun _ => by show p < numE t L 3 (p + 1); omega, a4, a5, fun _ => a6, fun k h2 => (a7 k h2).trans (upd_n' h2), fun k h8 h10 h11 => (a8 k h8 h10 h11).trans (by rw [upd_n' h10, upd_n' h8]), fun Q q => ?_, fun Q q => ?_⟩
      · exact digC hT hp hf (fun _ => ⟨4, aC Q q⟩) (fun z => absurd hd z)
      · refine digM hT hp hg (fun _ => nm' (bf' ?_ ⟨4, ?_⟩)) (fun z => absurd hd z)
        · rw [up1_s, upd_s']
          exact fun z => nI_pos (n := cdT t L p - 48) (by omega) (by rw [z]; decide)
        · rw [up1_s, up1_up1]; exact aM Q q
  · have eN : numS t L p = (false, p) := by unfold numS; rw [if_neg hd]
    rw [eN]
    refine ⟨0, f, upd g 10 (-6), by decide, Nat.le_refl _, hp, fun z => absurd z Bool.false_ne_true, hf, ⟨by rw [upd_n' (by decide)]; exact hg.1, by rw [upd_n' (by decide)]; exact hg.2⟩, fun z => absurd z Bool.false_ne_true, fun _ _ => rfl, fun k h8 h10 h11 => upd_n' h10, fun Q q => ?_, fun Q q => ?_⟩
    · exact digC hT hp hf (fun z => absurd z hd) (fun _ => ⟨1, bf' (by decide) (bt' (by decide) q)⟩)
    · refine digM hT hp hg (fun z => absurd z hd) (fun _ => nm' (bt' ?_ ?_))
      · rw [up1_s, upd_s']
      · rw [up1_s, up1_up1]; exact q
/-- a piece read on both sides -/
def RD (H M : Hp) (L : Nat) (FC FM : Hp → (Int32 → Hp → Prop) → Prop) (p : Nat) (o : Bool × Nat) (f g : Nat → Int32) (X : (Nat → Int32) → (Nat → Int32) → Prop) : Prop := ∃ f' g' : Nat → Int32, p ≤ o.2 ∧ o.2 ≤ L ∧ (o.1 = true → p < o.2) ∧ PC L o.2 f' ∧ PM L o.2 g' ∧ f' 3 = f 3 ∧ (∀ k, k ≠ 8 → k ≠ 10 → k ≠ 11 → g' k = g k) ∧ (o.1 = true → X f' g') ∧ (∀ Q : Int32 → Hp → Prop, Q (bI o.1) (up1 H 3 f') → FC (up1 H 3 f) Q) ∧ (∀ Q : Int32 → Hp → Prop, Q (bI o.1) (up1 M 0 g') → FM (up1 M 0 g) Q)
/-- a number, as the class keeps it at once -/
def nrC (h : Hp) (Q : Int32 → Hp → Prop) : Prop := F_X4_readNumber h (fun r_32 h_33 => ∀ h_34 : Hp, h_34 = up1 h_33 3 (upd (h_33 3) 4 r_32) → ((((h_34 3 4) = (-1 : Int32) → (Q (0 : Int32) h_34)) ∧ (¬ (h_34 3 4) = (-1 : Int32) → (Q (1 : Int32) h_34)))))
theorem nI_m1 {n : Nat} (h : n < 2 ^ 31) : ¬ nI n = -1 := fun z => nI_pos h (by rw [z]; decide)
theorem nI_m6 {n : Nat} (h : n < 2 ^ 31) : ¬ nI n = -6 := fun z => nI_pos h (by rw [z]; decide)
theorem nrRead {H M : Hp} {t : Nat → Nat} {L p : Nat} {f g : Nat → Int32} (hT : TX H M t L) (hp : p ≤ L) (hf : PC L p f) (hg : PM L p g) : RD H M L nrC F_X8_readsNumber p (numS t L p) f g (fun f' g' => f' 4 = g' 10) := by
  obtain ⟨v', f', g', a1, a2, a3, a4, a5, a6, a7, a8, a9, aC, aM⟩ := numRead hT hp hf hg
  by_cases ho : (numS t L p).1 = true
  · refine ⟨upd f' 4 (nI v'), g', a2, a3, a4, ⟨by rw [upd_n' (by decide)]; exact a5.1, by rw [upd_n' (by decide)]; exact a5.2⟩, a6, (upd_n' (by decide)).trans (a8 3 (by decide)), a9, fun _ => by dsimp only; rw [upd_s', a7 ho], fun Q q => aC _ ?_, aM⟩
    rw [if_pos ho]
    refine nm' ?_
    rw [up1_s, up1_s, up1_up1, upd_s']
    unfold bI at q
    rw [if_pos ho] at q
    exact bf' (nI_m1 (by omega)) q
  · refine ⟨upd f' 4 (-1), g', a2, a3, a4, ⟨by rw [upd_n' (by decide)]; exact a5.1, by rw [upd_n' (by decide)]; exact a5.2⟩, a6, (upd_n' (by decide)).trans (a8 3 (by decide)), a9, fun z => absurd z ho, fun Q q => aC _ ?_, aM⟩
    rw [if_neg ho]
    refine nm' ?_
    rw [up1_s, up1_s, up1_up1, upd_s']
    unfold bI at q
    rw [if_neg ho] at q
    exact bt' rfl q
def sgnS (t : Nat → Nat) (L p : Nat) : Bool × Nat := if cdT t L p = 43 ∨ cdT t L p = 45 then numS t L (p + 1) else (false, p)
theorem sgnRead {H M : Hp} {t : Nat → Nat} {L p : Nat} {f g : Nat → Int32} (hT : TX H M t L) (hp : p ≤ L) (hf : PC L p f) (hg : PM L p g) : RD H M L F_X4_readSignedNumber F_X8_readsSigned p (sgnS t L p) f g (fun f' g' => f' 4 = g' 10) := by
  have hcd := cd_le (p := p) hT
  have e43 : (nI (cdT t L p) = (43 : Int32)) ↔ cdT t L p = 43 := by rw [show (43 : Int32) = nI 43 from rfl, nI_eq (by omega) (by decide)]
  have e45 : (nI (cdT t L p) = (45 : Int32)) ↔ cdT t L p = 45 := by rw [show (45 : Int32) = nI 45 from rfl, nI_eq (by omega) (by decide)]
  by_cases h43 : cdT t L p = 43
  · have hpL : p < L := cd_L (t := t) (L := L) (by omega)
    have eS : sgnS t L p = numS t L (p + 1) := if_pos (Or.inl h43)
    have h45 : ¬ cdT t L p = 45 := by omega
    have hf1 : PC L (p + 1) (upd f 2 (nI (p + 1))) := ⟨by rw [upd_n' (by decide)]; exact hf.1, upd_s'⟩
    have hg1 : PM L (p + 1) (upd g 8 (nI (p + 1))) := ⟨by rw [upd_n' (by decide)]; exact hg.1, upd_s'⟩
    obtain ⟨v', f', g', a1, a2, a3, a4, a5, a6, a7, a8, a9, aC, aM⟩ := numRead (p := p + 1) hT hpL hf1 hg1
    rw [eS]
    refine ⟨upd f' 4 (if (numS t L (p + 1)).1 = true then nI v' else -1), upd g' 10 (g' 10), by omega, a3, fun z => by have := a4 z; omega, ⟨by rw [upd_n' (by decide)]; exact a5.1, by rw [upd_n' (by decide)]; exact a5.2⟩, ⟨by rw [upd_n' (by decide)]; exact a6.1, by rw [upd_n' (by decide)]; exact a6.2⟩, ?_, fun k h8 h10 h11 => ?_, fun z => ?_, fun Q q => ?_, fun Q q => ?_⟩
    · rw [upd_n' (by decide), a8 3 (by decide), upd_n' (by decide)]
    · rw [upd_n' h10, a9 k h8 h10 h11, upd_n' h8]
    · dsimp only; rw [upd_s', upd_s', if_pos z, a7 z]
    · refine nextC hT hp hf (bt' (e43.mpr h43) (nm' ?_))
      rw [up1_s, up1_up1, hf.2, nI_1]
      refine aC _ (bf' (fun z => h45 (e45.mp z)) (nm' ?_))
      rw [up1_s, up1_up1]
      unfold bI at q
      by_cases ho : (numS t L (p + 1)).1 = true
      · rw [if_pos ho] at q ⊢
        rw [if_pos ho] at q
        exact bf' (nI_m1 (by omega)) q
      · rw [if_neg ho] at q ⊢
        rw [if_neg ho] at q
        exact bt' rfl q
    · refine codeM hT hp hg (bf' (fun z => h45 (e45.mp z)) (takesM59 (c := 43) hT hp hg (by decide) (fun _ => bf' (by decide) (aM _ (nm' ⟨bI_n _, ?_⟩))) (fun z => absurd h43 z)))
      rw [up1_s, up1_up1]; exact q
  · by_cases h45 : cdT t L p = 45
    · have hpL : p < L := cd_L (t := t) (L := L) (by omega)
      have eS : sgnS t L p = numS t L (p + 1) := if_pos (Or.inr h45)
      have hf1 : PC L (p + 1) (upd f 2 (nI (p + 1))) := ⟨by rw [upd_n' (by decide)]; exact hf.1, upd_s'⟩
      have hg1 : PM L (p + 1) (upd g 8 (nI (p + 1))) := ⟨by rw [upd_n' (by decide)]; exact hg.1, upd_s'⟩
      obtain ⟨v', f', g', a1, a2, a3, a4, a5, a6, a7, a8, a9, aC, aM⟩ := numRead (p := p + 1) hT hpL hf1 hg1
      rw [eS]
      refine ⟨upd f' 4 (-(if (numS t L (p + 1)).1 = true then nI v' else -1)), upd g' 10 (-(g' 10)), by omega, a3, fun z => by have := a4 z; omega, ⟨by rw [upd_n' (by decide)]; exact a5.1, by rw [upd_n' (by decide)]; exact a5.2⟩, ⟨by rw [upd_n' (by decide)]; exact a6.1, by rw [upd_n' (by decide)]; exact a6.2⟩, ?_, fun k h8 h10 h11 => ?_, fun z => ?_, fun Q q => ?_, fun Q q => ?_⟩
      · rw [upd_n' (by decide), a8 3 (by decide), upd_n' (by decide)]
      · rw [upd_n' h10, a9 k h8 h10 h11, upd_n' h8]
      · dsimp only; rw [upd_s', upd_s', if_pos z, a7 z]
      · refine nextC hT hp hf (bf' (fun z => h43 (e43.mp z)) (bt' (e45.mpr h45) (nm' ?_)))
        rw [up1_s, up1_up1, hf.2, nI_1]
        refine aC _ (bt' (e45.mpr h45) (nm' ?_))
        rw [up1_s, up1_up1]
        unfold bI at q
        by_cases ho : (numS t L (p + 1)).1 = true
        · rw [if_pos ho] at q ⊢
          rw [if_pos ho] at q
          exact bf' (nI_m1 (by omega)) q
        · rw [if_neg ho] at q ⊢
          rw [if_neg ho] at q
          exact bt' rfl q
      · refine codeM hT hp hg (bt' (e45.mpr h45) (takesM59 (c := 43) hT hp hg (by decide) (fun z => absurd z h43) (fun _ => bt' rfl (takesM59 (c := 45) hT hp hg (by decide) (fun _ => bf' (by decide) (aM _ (nm' ⟨bI_n _, ?_⟩))) (fun z => absurd h45 z)))))
        rw [up1_s, up1_up1]; exact q
    · have eS : sgnS t L p = (false, p) := if_neg (by omega)
      rw [eS]
      exact ⟨f, g, Nat.le_refl _, hp, fun z => absurd z Bool.false_ne_true, hf, hg, rfl, fun _ _ _ _ => rfl, fun z => absurd z Bool.false_ne_true, fun Q q => nextC hT hp hf (bf' (fun z => h43 (e43.mp z)) (bf' (fun z => h45 (e45.mp z)) q)), fun Q q => codeM hT hp hg (bf' (fun z => h45 (e45.mp z)) (takesM59 (c := 43) hT hp hg (by decide) (fun z => absurd z h43) (fun _ => bt' rfl (takesM59 (c := 45) hT hp hg (by decide) (fun z => absurd z h45) (fun _ => bt' rfl q)))))⟩
