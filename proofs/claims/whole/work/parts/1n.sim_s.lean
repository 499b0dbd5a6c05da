/-! Reading the pad. -/
/-- the text on both sides -/
def TX (H M : Hp) (t : Nat → Nat) (L : Nat) : Prop := L ≤ 80 ∧ ∀ i, i < L → H 4 i = nI (t i) ∧ M 6 i = nI (t i) ∧ 33 ≤ t i ∧ t i ≤ 126
def cdT (t : Nat → Nat) (L p : Nat) : Nat := if p < L then t p else 0
def PC (L p : Nat) (f : Nat → Int32) : Prop := f 1 = nI L ∧ f 2 = nI p
def PM (L p : Nat) (g : Nat → Int32) : Prop := g 7 = nI L ∧ g 8 = nI p
theorem cd_le {H M : Hp} {t : Nat → Nat} {L p : Nat} (hT : TX H M t L) : cdT t L p ≤ 126 := by
  unfold cdT
  split
  · rename_i h; exact (hT.2 p h).2.2.2
  · omega
theorem cd_L {t : Nat → Nat} {L p : Nat} (h : cdT t L p ≠ 0) : p < L := by
  by_cases z : p < L
  · exact z
  · exact absurd (if_neg z) h
theorem nextC {H M : Hp} {t : Nat → Nat} {L p : Nat} {f : Nat → Int32} (hT : TX H M t L) (hp : p ≤ L) (hf : PC L p f) {Q : Int32 → Hp → Prop} (q : Q (nI (cdT t L p)) (up1 H 3 f)) : F_X4_nextSign (up1 H 3 f) Q := by
  have hL := hT.1
  unfold cdT at q
  unfold F_X4_nextSign
  rw [up1_s, hf.1, hf.2, up1_n _ _ (show (4 : Nat) ≠ 3 by decide), clN (by omega), nI_leI (by omega) (by omega)]
  by_cases h : p < L
  · rw [if_pos h] at q
    obtain ⟨a, b, c, d⟩ := hT.2 p h
    rw [a]
    exact bf' (by omega) ⟨vpn (by omega) (by decide), (pk_charN (by omega)).1, q⟩
  · rw [if_neg h] at q
    exact bt' (by omega) q
theorem codeM {H M : Hp} {t : Nat → Nat} {L p : Nat} {g : Nat → Int32} (hT : TX H M t L) (hp : p ≤ L) (hg : PM L p g) {Q : Int32 → Hp → Prop} (q : Q (nI (cdT t L p)) (up1 M 0 g)) : F_X8_code (up1 M 0 g) Q := by
  have hL := hT.1
  unfold cdT at q
  unfold F_X8_code
  rw [up1_s, hg.1, hg.2, up1_n _ _ (show (6 : Nat) ≠ 0 by decide), clN (by omega), nI_leI (by omega) (by omega)]
  by_cases h : p < L
  · rw [if_pos h] at q
    obtain ⟨a, b, c, d⟩ := hT.2 p h
    rw [b]
    exact bf' (by omega) ⟨vpn (by omega) (by decide), q⟩
  · rw [if_neg h] at q
    exact bt' (by omega) q
def dgT (t : Nat → Nat) (L p : Nat) : Bool := decide (48 ≤ cdT t L p ∧ cdT t L p ≤ 57)
theorem dg_i {t : Nat → Nat} {L p : Nat} : dgT t L p = true ↔ (48 ≤ cdT t L p ∧ cdT t L p ≤ 57) := by unfold dgT; rw [decide_eq_true_eq]
theorem dg_L {t : Nat → Nat} {L p : Nat} (h : dgT t L p = true) : p < L := cd_L (t := t) (L := L) (by have := dg_i.mp h; omega)
theorem isDigC {c : Nat} (hc : c ≤ 126) {h : Hp} {Q : Int32 → Hp → Prop} (q : Q (b01 (48 ≤ c ∧ c ≤ 57)) h) : F_X4_isDigit (nI c) h Q := by
  unfold F_X4_isDigit
  rw [show (48 : Int32) = nI 48 from rfl, show (57 : Int32) = nI 57 from rfl, nI_ltI (by omega) (by decide), nI_ltI (by decide) (by omega)]
  refine bc _ (fun h1 => ?_) (fun h1 => bc _ (fun h2 => ?_) (fun h2 => ?_))
  · rw [(b01_0 _).mpr (by omega)] at q; exact q
  · rw [(b01_0 _).mpr (by omega)] at q; exact q
  · rw [(b01_1 _).mpr (by omega)] at q; exact q
theorem digC {H M : Hp} {t : Nat → Nat} {L p : Nat} {f : Nat → Int32} (hT : TX H M t L) (hp : p ≤ L) (hf : PC L p f) {Q : Int32 → Hp → Prop} (q1 : dgT t L p = true → Q (nI (cdT t L p - 48)) (up1 H 3 (upd f 2 (nI (p + 1))))) (q0 : ¬ dgT t L p = true → Q (-1) (up1 H 3 f)) : F_X4_readDigit (up1 H 3 f) Q := by
  refine nextC hT hp hf (isDigC (cd_le hT) (bc _ (fun h => q0 (fun z => (b01_0 _).mp h (dg_i.mp z))) (fun h => nm' ?_)))
  rw [up1_s, up1_up1, hf.2, nI_1, show (48 : Int32) = nI 48 from rfl, pk_sub (b01_t h).1]
  exact q1 (dg_i.mpr (b01_t h))
theorem sub48 {c : Nat} (hc : c ≤ 126) : (nI c - 48 : Int32).toInt = (c : Int) - 48 := by
  rw [fb_subI (by rw [nI_toInt (by omega), show (48 : Int32).toInt = 48 by decide]; omega) (by rw [nI_toInt (by omega), show (48 : Int32).toInt = 48 by decide]; omega), nI_toInt (by omega), show (48 : Int32).toInt = 48 by decide]
theorem digM {H M : Hp} {t : Nat → Nat} {L p : Nat} {g : Nat → Int32} (hT : TX H M t L) (hp : p ≤ L) (hg : PM L p g) {Q : Int32 → Hp → Prop} (q1 : dgT t L p = true → Q (nI (cdT t L p - 48)) (up1 M 0 (upd g 8 (nI (p + 1))))) (q0 : ¬ dgT t L p = true → Q (-6) (up1 M 0 g)) : F_X8_takeDigit (up1 M 0 g) Q := by
  have hcd := cd_le (p := p) hT
  have hw : (0 ≤ nI (cdT t L p) - 48 ∧ nI (cdT t L p) - 48 ≤ 9) ↔ dgT t L p = true := by
    rw [dg_i, fa_le, fa_le, sub48 hcd, show (0 : Int32).toInt = 0 by decide, show (9 : Int32).toInt = 9 by decide]
    omega
  refine codeM hT hp hg (nm' (within_iff.mpr (bc _ (fun h => nm' (bt' h ?_)) (fun h => nm' (bf' h ?_)))))
  · rw [up1_s, up1_up1, hg.2, Int32.add_zero, fa_upd_same hg.2]
    exact q0 (fun z => (b01_0 _).mp h (hw.mpr z))
  · have hd := hw.mp (b01_t h)
    rw [up1_s, up1_up1, hg.2, nI_1, show (48 : Int32) = nI 48 from rfl, pk_sub (dg_i.mp hd).1]
    exact q1 hd
theorem takesM59 {H M : Hp} {t : Nat → Nat} {L p c : Nat} {g : Nat → Int32} (hT : TX H M t L) (hp : p ≤ L) (hg : PM L p g) (hc : c ≤ 126) {Q : Int32 → Hp → Prop} (q1 : cdT t L p = c → Q 1 (up1 M 0 (upd g 8 (nI (p + 1))))) (q0 : ¬ cdT t L p = c → Q 0 (up1 M 0 g)) : F_X8_takes (nI c) (up1 M 0 g) Q := by
  have hcd := cd_le (p := p) hT
  refine codeM hT hp hg ?_
  simp only [nI_eq (show cdT t L p < 2 ^ 31 by omega) (show c < 2 ^ 31 by omega)]
  refine bc _ (fun h => nm' ?_) (fun h => nm' ?_)
  · rw [up1_s, up1_up1, hg.2, nI_1]; exact q1 h
  · rw [up1_s, up1_up1, hg.2, Int32.add_zero, fa_upd_same hg.2]; exact q0 h
/-! Numbers. -/
def numE (t : Nat → Nat) (L : Nat) : Nat → Nat → Nat
  | 0, p => p
  | m + 1, p => if dgT t L p = true then numE t L m (p + 1) else p
def kpC (f f' : Nat → Int32) : Prop := ∀ k, k ≠ 2 → f' k = f k
def kpM (g g' : Nat → Int32) : Prop := ∀ k, k ≠ 8 → k ≠ 10 → k ≠ 11 → g' k = g k
theorem numLoop {H M : Hp} {t : Nat → Nat} {L : Nat} (hT : TX H M t L) : ∀ (m j v p : Nat) (f g : Nat → Int32), j + m = 4 → 1 ≤ j → 10 ^ (j - 1) ≤ v → v < 10 ^ j → p ≤ L → PC L p f → PM L p g → g 10 = nI v → ∃ (v' : Nat) (f' g' : Nat → Int32), v' ≤ 9999 ∧ p ≤ numE t L m p ∧ numE t L m p ≤ L ∧ PC L (numE t L m p) f' ∧ PM L (numE t L m p) g' ∧ g' 10 = nI v' ∧ kpC f f' ∧ kpM g g' ∧ (∀ Q : Int32 → Hp → Prop, Q (nI v') (up1 H 3 f') → F_X4_readNumber_L7 (m + 1) (nI v) (nI j) (up1 H 3 f) Q) ∧ (∀ Q : Int32 → Hp → Prop, Q 1 (up1 M 0 g') → F_X8_readsNumber_L19 (m + 1) (up1 M 0 g) Q) := by
  intro m
  induction m with
  | zero =>
    intro j v p f g e hj hv1 hv2 hp hf hg h10
    obtain rfl : j = 4 := by omega
    refine ⟨v, f, g, by omega, Nat.le_refl _, hp, hf, hg, h10, fun _ _ => rfl, fun _ _ _ _ => rfl, fun Q q => bt' (by decide) q, fun Q q => bf' ?_ (bt' ?_ q)⟩
    · rw [up1_s, h10]; exact nI_nle (by omega) (by omega)
    · rw [up1_s, h10, show (1000 : Int32) = nI 1000 from rfl, nI_leI (by decide) (by omega)]; omega
  | succ m ih =>
    intro j v p f g e hj hv1 hv2 hp hf hg h10
    have hv0 : 1 ≤ v := Nat.le_trans (show 1 ≤ 10 ^ (j - 1) by rcases (show j = 1 ∨ j = 2 ∨ j = 3 by omega) with rfl | rfl | rfl <;> decide) hv1
    have hv1000 : v < 1000 := Nat.lt_of_lt_of_le hv2 (Nat.pow_le_pow_right (by decide) (show j ≤ 3 by omega))
    have hj4 : ¬ (4 : Int32) ≤ nI j := nI_ge (a := j) (b := 4) (by omega) (by decide)
    have hv : ¬ nI v ≤ 0 := nI_nle (by omega) (by omega)
    have hk : ¬ (1000 : Int32) ≤ nI v := nI_ge (a := v) (b := 1000) hv1000 (by decide)
    have hcd := cd_le (p := p) hT
    have hwM : ((48 : Int32) ≤ nI (cdT t L p) ∧ nI (cdT t L p) ≤ 57) ↔ dgT t L p = true := by
      rw [dg_i, show (48 : Int32) = nI 48 from rfl, show (57 : Int32) = nI 57 from rfl, nI_leI (by decide) (by omega), nI_leI (by omega) (by decide)]
    by_cases hd : dgT t L p = true
    · have hd2 := dg_i.mp hd
      have hpL := dg_L hd
      obtain ⟨v', f', g', a1, a2, a3, a4, a5, a6, a7, a8, aC, aM⟩ := ih (j + 1) (10 * v + (cdT t L p - 48)) (p + 1) (upd f 2 (nI (p + 1))) (upd (upd g 8 (nI (p + 1))) 10 (nI (10 * v + (cdT t L p - 48)))) (by omega) (by omega) (by
        have : 10 ^ (j + 1 - 1) = 10 * 10 ^ (j - 1) := by rw [show j + 1 - 1 = (j - 1) + 1 by omega, Nat.pow_succ, Nat.mul_comm]
        omega) (by
        have : 10 ^ (j + 1) = 10 * 10 ^ j := by rw [Nat.pow_succ, Nat.mul_comm]
        omega) hpL ⟨by rw [upd_n' (by decide)]; exact hf.1, upd_s'⟩ ⟨by rw [upd_n' (by decide), upd_n' (by decide)]; exact hg.1, by rw [upd_n' (by decide), upd_s']⟩ upd_s'
      have hE : numE t L (m + 1) p = numE t L m (p + 1) := if_pos hd
      rw [hE]
      refine ⟨v', f', g', a1, by omega, a3, a4, a5, a6, fun k h2 => (a7 k h2).trans (upd_n' h2), fun k h8 h10 h11 => (a8 k h8 h10 h11).trans (by rw [upd_n' h10, upd_n' h8]), fun Q q => ?_, fun Q q => ?_⟩
      · refine bf' hj4 (bf' hv (nextC hT hp hf (isDigC hcd (bf' (fun z => (b01_0 _).mp z hd2) (digC hT hp hf (fun _ => nm' (nm' ?_)) (fun z => absurd hd z))))))
        rw [show (10 : Int32) = nI 10 from rfl, pk_mul, nI_add, nI_1]
        exact aC Q q
      · refine bf' (by rw [up1_s, h10]; exact hv) (bf' (by rw [up1_s, h10]; exact hk) (codeM hT hp hg (within_iff.mpr (bf' (fun z => (b01_0 _).mp z (hwM.mpr hd)) (digM hT hp hg (fun _ => nm' ?_) (fun z => absurd hd z))))))
        rw [up1_s, up1_s, up1_up1, h10, show (10 : Int32) = nI 10 from rfl, pk_mul, nI_add]
        exact aM Q q
    · have hE : numE t L (m + 1) p = p := if_neg hd
      rw [hE]
      refine ⟨v, f, g, by omega, Nat.le_refl _, hp, hf, hg, h10, fun _ _ => rfl, fun _ _ _ _ => rfl, fun Q q => bf' hj4 (bf' hv (nextC hT hp hf (isDigC hcd (bt' ((b01_0 _).mpr (fun z => hd (dg_i.mpr z))) q)))), fun Q q => bf' (by rw [up1_s, h10]; exact hv) (bf' (by rw [up1_s, h10]; exact hk) (codeM hT hp hg (within_iff.mpr (bt' ((b01_0 _).mpr (fun z => hd (hwM.mp z))) q))))⟩
