/-! The law, turn by turn. -/
theorem cmp0 (x y : Int64) : lg_cmp x y = 0 ↔ x = y := by
  unfold lg_cmp
  by_cases h : x > y
  · rw [if_pos h]
    refine ⟨fun z => absurd z (by decide), fun z => ?_⟩
    rw [z] at h
    have := (fa_lt64 _ _).mp h
    omega
  · rw [if_neg h]
    by_cases h2 : x = y
    · rw [if_pos h2]; exact ⟨fun _ => h2, fun _ => rfl⟩
    · rw [if_neg h2]; exact ⟨fun z => absurd z (by decide), fun z => absurd z h2⟩
def INV (t : Nat) (g : Hp) : Prop := ST g ∧ (lrow g 8).toInt ≤ 99 * t ∧ (lrow g 9).toInt ≤ t
theorem CS_c {g g' : Hp} {r : Nat → Int32} (h : ∀ c, c < 158 → g' c = g c) (hC : CS g r) : CS g' r := by
  obtain ⟨hV, n, o, a, b, c, d⟩ := hC
  exact ⟨RVv_c (VEq_of (fun k hk => h _ (by omega))) (fun _ _ => rfl) hV, n, o, a, b, by rw [h 1 (by decide)]; exact c, by rw [h 1 (by decide)]; exact d⟩
section LAW
variable {sc : Int32 → Int32} {K : Int32 → Hp → Prop} {t : Nat} {y6 y7 y8 : Int32} {g : Hp}
theorem law536 {k a b y12 w : Int32} (ht : t < 50) (hInv : INV t g) (hA : ArgsOK k a b w) (hk : ∀ g' : Hp, INV (t + 1) g' → K (y6 + 1) g') : F_L_law_L536 sc K 1 y6 y7 y8 k a b y12 w g := by
  obtain ⟨⟨hC, hI, hD⟩, h8, h9⟩ := hInv
  have hG : GG (lrow g) := ⟨by omega, by omega⟩
  obtain ⟨T, hT⟩ := toldR (lrow g)
  obtain ⟨x, r', hc⟩ := call_ok hA hI hG
  have tl : ∀ gs : Hp, CS gs (lrow g) → ∀ Q : Int64 → Hp → Prop, Q T gs → F_L_told gs Q := fun gs h Q q => hT gs h.1 hI Q q
  have l620 : ∀ gs : Hp, CS gs r' → (∀ c, 158 ≤ c → gs c = g c) → F_L_law_L620 sc K 1 y6 y7 y8 k a b y12 w T x gs := by
    intro gs hCs hcs
    obtain ⟨hI', hGR, -, hL, -⟩ := hc g hC
    have el := lrow_c hcs
    have hds : DI gs := DI_c (by rw [hcs 158 (by decide)]) (hcs 159 (by decide)) hD
    obtain ⟨g4, hq, el4, hd4, hc4⟩ := hL gs el hds
    have hS4 : ST g4 := ⟨by rw [el4]; exact CS_c hc4 hCs, by rw [el4]; exact hI', hd4⟩
    rw [F_L_law_L620]
    refine hq _ ?_
    refine bt' rfl (isSoL hS4 (bf' (by decide) (nm' (hk g4 ⟨hS4, ?_, ?_⟩))))
    · rw [el4]; have := hGR.1; omega
    · rw [el4]; have := hGR.2; omega
  obtain ⟨-, -, hr, -, g1, hq1, hC1, hc1, hun⟩ := hc g hC
  refine tl g hC _ (hq1 _ (bc _ (fun h0 => bc _ (fun h1 => ?_) (fun h1 => ⟨1, l620 g1 hC1 hc1⟩)) (fun h0 => ?_)))
  · obtain ⟨kk, g2, hk0, hu, hC2, hc2⟩ := hun (nlt.mpr h0)
    have hc12 : ∀ c, 158 ≤ c → g2 c = g c := fun c h => (hc2 c h).trans (hc1 c h)
    refine hu _ (bf' hk0 (tl g2 hC2 _ (bt' ((cmp0 T T).mpr rfl) ?_)))
    obtain ⟨-, -, -, -, g3, hq3, hC3, hc3, -⟩ := hc g2 hC2
    exact hq3 _ (bt' rfl ⟨1, l620 g3 hC3 (fun c h => (hc3 c h).trans (hc12 c h))⟩)
  · have e := hr (nle.mp h0)
    exact tl g1 (by rw [← e]; exact hC1) _ (bt' ((cmp0 T T).mpr rfl) ⟨1, l620 g1 hC1 hc1⟩)
def PA (kk : Nat) (a : Int32) : Prop := (kk = 2 → ∃ X : Nat, 1 ≤ X ∧ X ≤ 99 ∧ a = nI X) ∧ (kk ≠ 2 → ∃ n : Nat, n < 7 ∧ a = nI n)
def PB2 (kk : Nat) (b : Int32) : Prop := ((kk = 0 ∨ kk = 5) → ∃ j : Nat, j < 9 ∧ b = nI j) ∧ (kk = 8 → ∃ f : Nat, f ≤ 2 ∧ b = nI f) ∧ (kk = 9 → ∃ j : Nat, j ≤ 3 ∧ b = nI j)
theorem w_in {w lo hi : Int32} {l h : Int} (hl : lo.toInt = l) (hh : hi.toInt = h) (h1 : l ≤ w.toInt) (h2 : w.toInt ≤ h) : ¬ w < lo ∧ w ≤ hi := by
  rw [fa_lt, fa_le, hl, hh]
  omega
theorem wsub {j cn : Nat} {c : Int32} (hj : j < 20000) (hc : c.toInt = cn) (hcn : cn < 20000) : (nI j - c).toInt = (j : Int) - cn := by
  rw [fb_subI (by rw [nI_toInt (by omega), hc]; omega) (by rw [nI_toInt (by omega), hc]; omega), nI_toInt (by omega), hc]
theorem wadd {j : Nat} (hj : j < 20000) : ((1 : Int32) + nI j).toInt = 1 + (j : Int) := by
  rw [fb_addI (by rw [nI_toInt (by omega), show (1 : Int32).toInt = 1 by decide]; omega) (by rw [nI_toInt (by omega), show (1 : Int32).toInt = 1 by decide]; omega), nI_toInt (by omega), show (1 : Int32).toInt = 1 by decide]
theorem law353 {kk : Nat} {a b : Int32} (ht : t < 50) (hInv : INV t g) (hkk : kk ≤ 9) (hPA : PA kk a) (hPB : PB2 kk b) (hk : ∀ g' : Hp, INV (t + 1) g' → K (y6 + 1) g') : F_L_law_L353 sc K 1 y6 y7 y8 (nI kk) a b g := by
  have fin : ∀ (x30 w : Int32), ArgsOK (nI kk) a b w → ∃ n, F_L_law_L536 sc K n y6 y7 y8 (nI kk) a b x30 w g := fun x30 w h => ⟨1, law536 ht hInv h hk⟩
  refine nm' ?_
  obtain ⟨z, ez⟩ : ∃ z : Int32, z = y8 >>> ((5 : Int32) &&& 31) := ⟨_, rfl⟩
  rw [← ez]
  -- the kinds that don't ask for the value
  have anyW : (∀ w, ArgsOK (nI kk) a b w) → (((b = 0 → (F_L_low z (61 : Int32) g (fun r_96 h_97 => ∀ x_98 : Int32, x_98 = (r_96 - (30 : Int32)) → (∃ n_99, F_L_law_L536 sc K n_99 y6 y7 y8 (nI kk) a b z x_98 h_97)))) ∧ (¬ b = 0 → (((b = (1 : Int32) → (F_L_low z (31 : Int32) g (fun r_93 h_94 => ∃ n_95, F_L_law_L536 sc K n_95 y6 y7 y8 (nI kk) a b z r_93 h_94))) ∧ (¬ b = (1 : Int32) → (((b = (2 : Int32) → (F_L_low z (200 : Int32) g (fun r_89 h_90 => ∀ x_91 : Int32, x_91 = ((1 : Int32) + r_89) → (∃ n_92, F_L_law_L536 sc K n_92 y6 y7 y8 (nI kk) a b z x_91 h_90)))) ∧ (¬ b = (2 : Int32) → (F_L_low z (1801 : Int32) g (fun r_86 h_87 => ∃ n_88, F_L_law_L536 sc K n_88 y6 y7 y8 (nI kk) a b z r_86 h_87))))))))))) := fun hw =>
    bc _ (fun _ => lowL (n := 61) (by decide) (by decide) (nm' (fin z _ (hw _)))) (fun _ => bc _ (fun _ => lowL (n := 31) (by decide) (by decide) (fin z _ (hw _))) (fun _ => bc _ (fun _ => lowL (n := 200) (by decide) (by decide) (nm' (fin z _ (hw _)))) (fun _ => lowL (n := 1801) (by decide) (by decide) (fin z _ (hw _)))))
  have lat : ∀ j : Nat, j < 10801 → -5400 ≤ nI j - 5400 ∧ nI j - 5400 ≤ 5400 := fun j hj => by
    have e := wsub (j := j) (cn := 5400) (c := 5400) (by omega) (by decide) (by omega)
    have := w_in (w := nI j - 5400) (lo := -5400) (hi := 5400) (l := -5400) (h := 5400) (by decide) (by decide) (by omega) (by omega)
    exact ⟨nlt.mp this.1, this.2⟩
  have lat2 : ∀ j : Nat, j < 2001 → -5400 ≤ nI j - 1000 ∧ nI j - 1000 ≤ 5400 := fun j hj => by
    have e := wsub (j := j) (cn := 1000) (c := 1000) (by omega) (by decide) (by omega)
    have := w_in (w := nI j - 1000) (lo := -5400) (hi := 5400) (l := -5400) (h := 5400) (by decide) (by decide) (by omega) (by omega)
    exact ⟨nlt.mp this.1, this.2⟩
  rcases (show kk = 0 ∨ kk = 1 ∨ kk = 2 ∨ kk = 3 ∨ kk = 4 ∨ kk = 5 ∨ kk = 6 ∨ kk = 7 ∨ kk = 8 ∨ kk = 9 by omega) with rfl | rfl | rfl | rfl | rfl | rfl | rfl | rfl | rfl | rfl
  · obtain ⟨j, hj, rfl⟩ := hPB.1 (Or.inl rfl)
    exact bf' (by decide) (bf' (by decide) (bf' (by decide) (anyW (fun w => Or.inl ⟨rfl, hPA.2 (by decide), nI_pos (by omega)⟩))))
  · exact bf' (by decide) (bf' (by decide) (bf' (by decide) (anyW (fun w => Or.inr (Or.inl rfl)))))
  · exact bf' (by decide) (bf' (by decide) (bf' (by decide) (anyW (fun w => Or.inr (Or.inr (Or.inl ⟨rfl, hPA.1 rfl⟩))))))
  · exact bf' (by decide) (bf' (by decide) (bf' (by decide) (anyW (fun w => Or.inr (Or.inr (Or.inr (Or.inl rfl)))))))
  · have fin4 : ∀ w : Int32, (-5400 ≤ w ∧ w ≤ 5400) → ∃ n, F_L_law_L536 sc K n y6 y7 y8 (nI 4) a b z w g := fun w h => fin z w (Or.inr (Or.inr (Or.inr (Or.inr (Or.inl ⟨rfl, h⟩)))))
    refine bt' rfl (lowL (n := 3) (by decide) (by decide) (bc _ (fun h1 => lowL (n := 10801) (by decide) (by decide) (lowL (n := 3) (by decide) (by decide) (bt' h1 (nm' (fin4 _ (lat _ (lowv_lt (by decide)))))))) (fun h1 => lowL (n := 2001) (by decide) (by decide) (lowL (n := 3) (by decide) (by decide) (bf' h1 (nm' (fin4 _ (lat2 _ (lowv_lt (by decide))))))))))
  · obtain ⟨j, hj, rfl⟩ := hPB.1 (Or.inr rfl)
    exact bf' (by decide) (bf' (by decide) (bf' (by decide) (anyW (fun w => Or.inr (Or.inr (Or.inr (Or.inr (Or.inr (Or.inl ⟨rfl, nI_pos (by omega)⟩)))))))))
  · exact bf' (by decide) (bf' (by decide) (bf' (by decide) (anyW (fun w => Or.inr (Or.inr (Or.inr (Or.inr (Or.inr (Or.inr (Or.inl ⟨rfl, hPA.2 (by decide)⟩))))))))))
  · have fin7 : ∀ w : Int32, (-5400 ≤ w ∧ w ≤ 5400) → ∃ n, F_L_law_L536 sc K n y6 y7 y8 (nI 7) a b z w g := fun w h => fin z w (Or.inr (Or.inr (Or.inr (Or.inr (Or.inr (Or.inr (Or.inr (Or.inl ⟨rfl, h⟩))))))))
    refine bf' (by decide) (bt' rfl (lowL (n := 3) (by decide) (by decide) (bc _ (fun h1 => lowL (n := 10801) (by decide) (by decide) (lowL (n := 3) (by decide) (by decide) (bt' h1 (nm' (fin7 _ (lat _ (lowv_lt (by decide)))))))) (fun h1 => lowL (n := 2001) (by decide) (by decide) (lowL (n := 3) (by decide) (by decide) (bf' h1 (nm' (fin7 _ (lat2 _ (lowv_lt (by decide)))))))))))
  · obtain ⟨n, hn, rfl⟩ := hPA.2 (by decide)
    obtain ⟨f, hf, rfl⟩ := hPB.2.1 rfl
    have fin8 : ∀ w : Int32, (¬ w < stLT f ∧ w ≤ stMT f) → ∃ m, F_L_law_L536 sc K m y6 y7 y8 (nI 8) (nI n) (nI f) z w g := fun w h => fin z w (Or.inr (Or.inr (Or.inr (Or.inr (Or.inr (Or.inr (Or.inr (Or.inr (Or.inl ⟨rfl, n, f, hn, hf, rfl, rfl, h⟩)))))))))
    refine bf' (by decide) (bf' (by decide) (bt' rfl ?_))
    rcases (show f = 0 ∨ f = 1 ∨ f = 2 by omega) with rfl | rfl | rfl
    · have hl : lowv z 10 < 10 := lowv_lt (by decide)
      refine bt' rfl (lowL (n := 10) (by decide) (by decide) (fin8 _ (w_in (l := 0) (h := 9) (by decide) (by decide) ?_ ?_))) <;> (rw [nI_toInt (by omega)]; omega)
    · have hl : lowv z 121 < 121 := lowv_lt (by decide)
      refine bf' (by decide) (bt' rfl (lowL (n := 121) (by decide) (by decide) (nm' (fin8 _ (w_in (l := -60) (h := 60) (by decide) (by decide) ?_ ?_))))) <;> (rw [wsub (cn := 60) (by omega) (by decide) (by omega)]; omega)
    · have hl : lowv z 2 < 2 := lowv_lt (by decide)
      refine bf' (by decide) (bf' (by decide) (lowL (n := 2) (by decide) (by decide) (fin8 _ (w_in (l := 0) (h := 1) (by decide) (by decide) ?_ ?_)))) <;> (rw [nI_toInt (by omega)]; omega)
  · obtain ⟨j, hj, rfl⟩ := hPB.2.2 rfl
    have fin9 : ∀ w : Int32, (¬ w < stLS j ∧ w ≤ stMS j) → ∃ m, F_L_law_L536 sc K m y6 y7 y8 (nI 9) a (nI j) z w g := fun w h => fin z w (Or.inr (Or.inr (Or.inr (Or.inr (Or.inr (Or.inr (Or.inr (Or.inr (Or.inr ⟨rfl, j, hj, rfl, h⟩)))))))))
    refine bf' (by decide) (bf' (by decide) (bf' (by decide) ?_))
    rcases (show j = 0 ∨ j = 1 ∨ j = 2 ∨ j = 3 by omega) with rfl | rfl | rfl | rfl
    · have hl : lowv z 61 < 61 := lowv_lt (by decide)
      refine bt' rfl (lowL (n := 61) (by decide) (by decide) (nm' (fin9 _ (w_in (l := -30) (h := 30) (by decide) (by decide) ?_ ?_)))) <;> (rw [wsub (cn := 30) (by omega) (by decide) (by omega)]; omega)
    · have hl : lowv z 31 < 31 := lowv_lt (by decide)
      refine bf' (by decide) (bt' rfl (lowL (n := 31) (by decide) (by decide) (fin9 _ (w_in (l := 0) (h := 30) (by decide) (by decide) ?_ ?_)))) <;> (rw [nI_toInt (by omega)]; omega)
    · have hl : lowv z 200 < 200 := lowv_lt (by decide)
      refine bf' (by decide) (bf' (by decide) (bt' rfl (lowL (n := 200) (by decide) (by decide) (nm' (fin9 _ (w_in (l := 1) (h := 999) (by decide) (by decide) ?_ ?_)))))) <;> (rw [wadd (by omega)]; omega)
    · have hl : lowv z 1801 < 1801 := lowv_lt (by decide)
      refine bf' (by decide) (bf' (by decide) (bf' (by decide) (lowL (n := 1801) (by decide) (by decide) (fin9 _ (w_in (l := 0) (h := 1800) (by decide) (by decide) ?_ ?_))))) <;> (rw [nI_toInt (by omega)]; omega)
theorem law275 {kk : Nat} {a : Int32} (ht : t < 50) (hInv : INV t g) (hkk : kk ≤ 9) (hPA : PA kk a) (hk : ∀ g' : Hp, INV (t + 1) g' → K (y6 + 1) g') : F_L_law_L275 sc K 1 y6 y7 y8 (nI kk) a g := by
  obtain ⟨k, hk8, ek⟩ := stars_k hInv.1.2.1
  have e12 : g 158 12 = nI k := (lr_p (by decide) (by decide)).symm.trans ek
  have nxt : ∀ b : Int32, PB2 kk b → ∃ n, F_L_law_L353 sc K n y6 y7 y8 (nI kk) a b g := fun b h => ⟨1, law353 ht hInv hkk hPA h hk⟩
  have b9 : (kk = 0 ∨ kk = 5) → ∀ j : Nat, j < 9 → PB2 kk (nI j) := fun h j hj => ⟨fun _ => ⟨j, hj, rfl⟩, fun z => absurd h (by omega), fun z => absurd h (by omega)⟩
  have star : (kk = 0 ∨ kk = 5) → F_L_low (y8 >>> ((20 : Int32) &&& 31)) (9 : Int32) g (fun r_25 h_26 => ((r_25 = 0 → (F_L_low (y8 >>> ((3 : Int32) &&& 31)) (9 : Int32) h_26 (fun r_28 h_29 => ∃ n_133, F_L_law_L353 sc K n_133 y6 y7 y8 (nI kk) a r_28 h_29))) ∧ (¬ r_25 = 0 → ((((h_26 158 12) = 0 → (F_L_low (y8 >>> ((3 : Int32) &&& 31)) (9 : Int32) h_26 (fun r_138 h_139 => ∃ n_140, F_L_law_L353 sc K n_140 y6 y7 y8 (nI kk) a r_138 h_139))) ∧ (¬ (h_26 158 12) = 0 → (F_L_low (y8 >>> ((3 : Int32) &&& 31)) (h_26 158 12) h_26 (fun r_135 h_136 => ∃ n_137, F_L_law_L353 sc K n_137 y6 y7 y8 (nI kk) a r_135 h_136)))))))) := fun h05 => by
    refine lowL (n := 9) (by decide) (by decide) (bc _ (fun _ => lowL (n := 9) (by decide) (by decide) (nxt _ (b9 h05 _ (lowv_lt (by decide))))) (fun _ => bc _ (fun _ => lowL (n := 9) (by decide) (by decide) (nxt _ (b9 h05 _ (lowv_lt (by decide))))) (fun h0 => ?_)))
    rw [e12] at h0 ⊢
    have hk0 : 0 < k := Nat.pos_of_ne_zero (fun z => h0 (by rw [z]; rfl))
    have hl : lowv (y8 >>> ((3 : Int32) &&& 31)) k < k := lowv_lt hk0
    exact lowL hk0 (by omega) (nxt _ (b9 h05 _ (by omega)))
  rcases (show kk = 0 ∨ kk = 5 ∨ kk = 8 ∨ (kk ≠ 0 ∧ kk ≠ 5 ∧ kk ≠ 8) by omega) with rfl | rfl | rfl | ⟨n0, n5, n8⟩
  · exact bt' rfl (star (Or.inl rfl))
  · exact bf' (by decide) (bt' rfl (star (Or.inr rfl)))
  · have hl : lowv (y8 >>> ((3 : Int32) &&& 31)) 3 < 3 := lowv_lt (by decide)
    exact bf' (by decide) (bf' (by decide) (bt' rfl (lowL (n := 3) (by decide) (by decide) (nxt _ ⟨fun z => absurd z (by decide), fun _ => ⟨_, by omega, rfl⟩, fun z => absurd z (by decide)⟩))))
  · have hl : lowv (y8 >>> ((3 : Int32) &&& 31)) 4 < 4 := lowv_lt (by decide)
    have ne : ∀ m : Nat, m ≤ 9 → kk ≠ m → ¬ nI kk = nI m := fun m hm h => by rw [nI_eq (by omega) (by omega)]; exact h
    exact bf' (ne 0 (by decide) n0) (bf' (ne 5 (by decide) n5) (bf' (ne 8 (by decide) n8) (lowL (n := 4) (by decide) (by decide) (nxt _ ⟨fun z => absurd z (by omega), fun z => absurd z n8, fun _ => ⟨_, by omega, rfl⟩⟩))))
theorem law231 {kk : Nat} (ht : t < 50) (hInv : INV t g) (hkk : kk ≤ 9) (hk : ∀ g' : Hp, INV (t + 1) g' → K (y6 + 1) g') : F_L_law_L231 sc K 1 y6 y7 y8 (nI kk) g := by
  have nxt : ∀ a : Int32, PA kk a → ∃ n, F_L_law_L275 sc K n y6 y7 y8 (nI kk) a g := fun a h => ⟨1, law275 ht hInv hkk h hk⟩
  by_cases h2 : kk = 2
  · subst h2
    have l99 : lowv y8 99 < 99 := lowv_lt (by decide)
    have l9 : lowv y8 9 < 9 := lowv_lt (by decide)
    have e1 : ∀ j : Nat, (1 : Int32) + nI j = nI (1 + j) := fun j => nI_add 1 j
    refine bt' rfl (lowL (n := 4) (by decide) (by decide) (bc _ (fun _ => lowL (n := 99) (by decide) (by decide) (nm' ?_)) (fun _ => lowL (n := 9) (by decide) (by decide) (nm' ?_))))
    · rw [e1]
      exact nxt _ ⟨fun _ => ⟨_, by omega, by omega, rfl⟩, fun z => absurd rfl z⟩
    · rw [e1]
      exact nxt _ ⟨fun _ => ⟨_, by omega, by omega, rfl⟩, fun z => absurd rfl z⟩
  · refine bf' (by rw [show (2 : Int32) = nI 2 from rfl, nI_eq (by omega) (by decide)]; exact h2) (lowL (n := 7) (by decide) (by decide) (nxt _ ⟨fun z => absurd z h2, fun _ => ⟨_, lowv_lt (by decide), rfl⟩⟩))
end LAW
theorem law108 (sc : Int32 → Int32) : ∀ (m t : Nat) (g : Hp), t + m = 50 → INV t g → F_L_law_L108 sc (m + 1) (nI t) g := by
  intro m
  induction m with
  | zero =>
    intro t g e hI
    obtain rfl : t = 50 := by omega
    exact bt' (by decide) trivial
  | succ m ih =>
    intro t g e hI
    have ht : t < 50 := by omega
    have e2 : (2 : Int32) * nI t = nI (2 * t) := by rw [show (2 : Int32) = nI 2 from rfl, pk_mul]
    have e3 : nI (2 * t) + 1 = nI (2 * t + 1) := nI_1 _
    have nxt : ∀ (x y : Int32) (kk : Nat), kk ≤ 9 → ∃ n, F_L_law_L231 sc (fun z0 g => F_L_law_L108 sc (m + 1) z0 g) n (nI t) x y (nI kk) g := fun x y kk h => ⟨1, law231 ht hI h (fun g' h' => by
      show F_L_law_L108 sc (m + 1) (nI t + 1) g'
      rw [nI_1]
      exact ih (t + 1) g' (by omega) h')⟩
    refine bf' (nI_ge (a := t) (b := 50) ht (by decide)) ?_
    rw [e2, e3]
    refine ⟨nI_pos (by omega), nm' ⟨nI_pos (by omega), nm' (lowL (n := 28) (by decide) (by decide) ?_)⟩⟩
    obtain ⟨j, ej⟩ : ∃ j, j = lowv (sc (nI (2 * t))) 28 := ⟨_, rfl⟩
    have hj : j < 28 := by rw [ej]; exact lowv_lt (by decide)
    rw [← ej]
    have le : ∀ a : Nat, a < 100 → (nI a ≤ nI j ↔ a ≤ j) := fun a ha => nI_leI (by omega) (by omega)
    refine bc _ (fun h3 => bc _ (fun h13 => bc _ (fun h17 => bc _ (fun h19 => bc _ (fun h0 => nxt _ _ 3 (by decide)) (fun h0 => bc _ (fun h24 => bc _ (fun h26 => nxt _ _ 9 (by decide)) (fun h26 => nxt _ _ 8 (by decide))) (fun h24 => nm' ?_))) (fun h19 => nxt _ _ 2 (by decide))) (fun h17 => nxt _ _ 1 (by decide))) (fun h13 => nxt _ _ 0 (by decide))) (fun h3 => nxt _ _ 4 (by decide))
    have a19 : 19 ≤ j := (le 19 (by decide)).mp h19
    have a24 : ¬ 24 ≤ j := fun z => h24 ((le 24 (by decide)).mpr z)
    rw [show (16 : Int32) = nI 16 from rfl, pk_sub (by omega)]
    exact nxt _ _ (j - 16) (by omega)
/-! How it begins. -/
def q0 : Nat → Int32 := upd (upd (upd (upd (upd (fun _ => 0) 0 4) 1 6) 2 60) 3 300) 5 9999
def v0 (i : Nat) : Nat → Int32 := fun k => if k / 7 < i then (if k % 7 = 0 then 5 else if k % 7 = 2 then 1 else if k % 7 = 5 then 9999 else 0) else 0
theorem v0_s (i : Nat) : upd (upd (upd (v0 i) (7 * i) 5) (7 * i + 2) 1) (7 * i + 5) 9999 = v0 (i + 1) := by
  funext k
  by_cases h5 : k = 7 * i + 5
  · subst h5
    rw [upd_s']
    unfold v0
    rw [if_pos (by omega), if_neg (by omega), if_neg (by omega), if_pos (by omega)]
  by_cases h2 : k = 7 * i + 2
  · subst h2
    rw [upd_n' h5, upd_s']
    unfold v0
    rw [if_pos (by omega), if_neg (by omega), if_pos (by omega)]
  by_cases h0 : k = 7 * i
  · subst h0
    rw [upd_n' h5, upd_n' h2, upd_s']
    unfold v0
    rw [if_pos (by omega), if_pos (by omega)]
  rw [upd_n' h5, upd_n' h2, upd_n' h0]
  unfold v0
  by_cases h : k / 7 < i
  · rw [if_pos h, if_pos (show k / 7 < i + 1 by omega)]
  · rw [if_neg h]
    by_cases h1 : k / 7 < i + 1
    · rw [if_pos h1, if_neg (by omega), if_neg (by omega), if_neg (by omega)]
    · rw [if_neg h1]
def g0 (i : Nat) (g : Hp) : Hp := up1 (up1 g 158 q0) 160 (v0 i)
theorem law59 (sc : Int32 → Int32) (g : Hp) (q : ∃ n, F_L_law_L108 sc n 0 (g0 7 g)) : ∀ (m i : Nat), i + m = 7 → F_L_law_L59 sc (m + 1) (nI i) (g0 i g) := by
  intro m
  induction m with
  | zero =>
    intro i e
    obtain rfl : i = 7 := by omega
    exact bt' (by decide) q
  | succ m ih =>
    intro i e
    have hi : i < 7 := by omega
    refine bf' (ge7 hi) ?_
    have a2 : nI (7 * i) + 2 = nI (7 * i + 2) := nI_add _ 2
    have a5 : nI (7 * i) + 5 = nI (7 * i + 5) := nI_add _ 5
    rw [iv70, a2, a5, clN (show 7 * i < 2 ^ 31 by omega), clN (show 7 * i + 2 < 2 ^ 31 by omega), clN (show 7 * i + 5 < 2 ^ 31 by omega)]
    refine ⟨vpn (by omega) (by decide), nm' ⟨vpn (by omega) (by decide), nm' ⟨vpn (by omega) (by decide), nm' (nm' ?_)⟩⟩⟩
    have e : up1 (up1 (up1 (g0 i g) 160 (upd (g0 i g 160) (7 * i) 5)) 160 (upd (up1 (g0 i g) 160 (upd (g0 i g 160) (7 * i) 5) 160) (7 * i + 2) 1)) 160 (upd (up1 (up1 (g0 i g) 160 (upd (g0 i g 160) (7 * i) 5)) 160 (upd (up1 (g0 i g) 160 (upd (g0 i g 160) (7 * i) 5) 160) (7 * i + 2) 1) 160) (7 * i + 5) 9999) = g0 (i + 1) g := by
      unfold g0
      simp only [up1_s, up1_up1, v0_s]
    rw [e, nI_1]
    exact ih (i + 1) (by omega)
