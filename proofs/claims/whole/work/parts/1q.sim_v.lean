/-! Faults. -/
def okT (t : Nat → Nat) (L : Nat) : Nat → Nat → Prop
  | 0, _ => False
  | m + 1, p => (ordF t L p).1 = true ∧ ((ordF t L p).2 = L ∨ ((ordF t L p).2 < L ∧ t (ordF t L p).2 = 59 ∧ okT t L m ((ordF t L p).2 + 1)))
theorem bI_0 {b : Bool} (h : ¬ b = true) : bI b = 0 := if_neg h
theorem bI_1 {b : Bool} (h : b = true) : bI b = 1 := if_pos h
theorem faultLoop {H M : Hp} {t : Nat → Nat} {L : Nat} (hT : TX H M t L) : ∀ (m p y : Nat) (f g : Nat → Int32), L + 1 ≤ p + m → p ≤ L → 2 * y ≤ p → PC L p f → PM L p g → ∃ (z : Int32) (f' g' : Nat → Int32), f' 1 = nI L ∧ g' 7 = nI L ∧ g' 3 = g 3 ∧ (z = -6 → okT t L m p) ∧ (∀ Q : Int32 → Hp → Prop, Q z (up1 H 3 f') → F_X4_findFault_L6 m (nI y) (up1 H 3 f) Q) ∧ (∀ Q : Int32 → Hp → Prop, Q z (up1 M 0 g') → F_X8_findFault_L5 m (up1 M 0 g) Q) := by
  have hL := hT.1
  intro m
  induction m with
  | zero => intro p y f g h1 h2; omega
  | succ m ih =>
    intro p y f g h1 hp hy hf hg
    obtain ⟨f1, g1, a1, a2, a3, a4, a5, a6, a7, aC, aM⟩ := ordRead hT hp hf hg
    have hge : ¬ (80 : Int32) ≤ nI y := nI_ge (a := y) (b := 80) (by omega) (by decide)
    have e3 : g1 3 = g 3 := a6 3 (by decide) (by decide) (by decide) (by decide)
    by_cases ho : (ordF t L p).1 = true
    · rw [bI_1 ho] at aC aM
      by_cases hE : (ordF t L p).2 = L
      · refine ⟨-6, f1, g1, a4.1, a5.1, e3, fun _ => ⟨ho, Or.inl hE⟩, fun Q q => bf' hge (aC _ (bf' (by decide) (bf' ?_ q))), fun Q q => aM _ (bf' (by decide) (bt' ?_ q))⟩
        · rw [up1_s, a4.1, a4.2, nI_ltI (by omega) (by omega)]; omega
        · rw [up1_s, a5.1, a5.2, hE]
      · have hlt : (ordF t L p).2 < L := by omega
        have hltI : nI (ordF t L p).2 < nI L := nI_lt hlt (by omega)
        have hcd : cdT t L (ordF t L p).2 = t (ordF t L p).2 := if_pos hlt
        obtain ⟨b1, b2, b3, b4⟩ := hT.2 _ hlt
        have hneI : ¬ nI (ordF t L p).2 = nI L := fun z => hE ((nI_eq (by omega) (by omega)).mp z)
        by_cases h59 : t (ordF t L p).2 = 59
        · obtain ⟨z, f', g', c1, c2, c3, c4, cC, cM⟩ := ih ((ordF t L p).2 + 1) (y + 1) (upd f1 2 (nI ((ordF t L p).2 + 1))) (upd g1 8 (nI ((ordF t L p).2 + 1))) (by have := a3 ho; omega) (by omega) (by have := a3 ho; omega) ⟨by rw [upd_n' (by decide)]; exact a4.1, upd_s'⟩ ⟨by rw [upd_n' (by decide)]; exact a5.1, upd_s'⟩
          refine ⟨z, f', g', c1, c2, by rw [c3, upd_n' (by decide)]; exact e3, fun hz => ⟨ho, Or.inr ⟨hlt, h59, c4 hz⟩⟩, fun Q q => bf' hge (aC _ (bf' (by decide) ?_)), fun Q q => aM _ (bf' (by decide) (bf' ?_ (takesM59 (c := 59) hT a2 a5 (by decide) (fun _ => bf' (by decide) (cM Q q)) (fun w => absurd (hcd.trans h59) w))))⟩
          · simp only [up1_s, a4.1, a4.2, clN (show (ordF t L p).2 < 2 ^ 31 by omega), up1_n _ _ (show (4 : Nat) ≠ 3 by decide), b1, h59, up1_up1, nI_1]
            refine bt' hltI ⟨vpn (by omega) (by decide), bt' (by decide) (nm' (nm' ?_))⟩
            exact cC Q q
          · rw [up1_s, a5.1, a5.2]; exact hneI
        · refine ⟨nI (ordF t L p).2, f1, g1, a4.1, a5.1, e3, fun hz => absurd hz (nI_m6 (by omega)), fun Q q => bf' hge (aC _ (bf' (by decide) ?_)), fun Q q => aM _ (bf' (by decide) (bf' ?_ (takesM59 (c := 59) hT a2 a5 (by decide) (fun w => absurd (hcd.symm.trans w) h59) (fun _ => bt' rfl ?_))))⟩
          · simp only [up1_s, a4.1, a4.2, clN (show (ordF t L p).2 < 2 ^ 31 by omega), up1_n _ _ (show (4 : Nat) ≠ 3 by decide), b1]
            exact bt' hltI ⟨vpn (by omega) (by decide), bf' (fun w => h59 ((nI_eq (b := 59) (by omega) (by decide)).mp w)) q⟩
          · rw [up1_s, a5.1, a5.2]; exact hneI
          · rw [up1_s, a5.2]; exact q
    · rw [bI_0 ho] at aC aM
      refine ⟨nI (ordF t L p).2, f1, g1, a4.1, a5.1, e3, fun hz => absurd hz (nI_m6 (by omega)), fun Q q => bf' hge (aC _ (bt' rfl ?_)), fun Q q => aM _ (bt' rfl ?_)⟩
      · rw [up1_s, a4.2]; exact q
      · rw [up1_s, a5.2]; exact q
theorem text_of {hc hm : Hp} (h : padR hc hm) : ∃ (t : Nat → Nat) (L : Nat), TX hc hm t L ∧ hc 3 1 = nI L ∧ hm 0 7 = nI L := by
  obtain ⟨L, hL, a, b, c⟩ := h
  refine ⟨fun i => (hm 6 i).toInt.toNat, L, ⟨hL, fun i hi => ?_⟩, a, b⟩
  obtain ⟨e, q, q1, q2, eq⟩ := c i hi
  have et : (hm 6 i).toInt.toNat = q := by rw [eq, nI_toInt (by omega)]; omega
  show hc 4 i = nI ((hm 6 i).toInt.toNat) ∧ hm 6 i = nI ((hm 6 i).toInt.toNat) ∧ 33 ≤ (hm 6 i).toInt.toNat ∧ (hm 6 i).toInt.toNat ≤ 126
  rw [et]
  exact ⟨e.trans eq, eq, q1, q2⟩
theorem rel_pad {hc hm hc' hm' : Hp} (hR : Rel hc hm) (hcf : ∀ c, c ≠ 3 → c ≠ 4 → hc' c = hc c) (hmf : ∀ c, c ≠ 0 → c ≠ 6 → hm' c = hm c) (h3 : hm' 0 3 = hm 0 3) (hp : padR hc' hm') : Rel hc' hm' := by
  obtain ⟨hV, hI, ⟨n, o, hh⟩, hs, -⟩ := Rel_i.mp hR
  have e1 := hmf 1 (by decide) (by decide)
  refine Rel_i.mpr ⟨?_, by rw [e1]; exact hI, ⟨n, o, hist_c (hcf 1 (by decide) (by decide)) (fun i c hi h1 h2 => hcf c (by have := ringP_b o i; omega) (by have := ringP_b o i; omega)) h3 (hmf 3 (by decide) (by decide)) hh⟩, slot_c (hcf 6 (by decide) (by decide)) (fun c h => hcf c (by omega) (by omega)) (hmf 4 (by decide) (by decide)) (hmf 5 (by decide) (by decide)) hs, hp⟩
  rw [e1]
  exact RV_fr (fun c h1 h2 => hcf c (by omega) (by omega)) hV
theorem pad_TX {hc hm : Hp} {t : Nat → Nat} {L : Nat} (hT : TX hc hm t L) (a : hc 3 1 = nI L) (b : hm 0 7 = nI L) : padR hc hm :=
  ⟨L, hT.1, a, b, fun i hi => ⟨(hT.2 i hi).1.trans (hT.2 i hi).2.1.symm, t i, (hT.2 i hi).2.2.1, (hT.2 i hi).2.2.2, (hT.2 i hi).2.1⟩⟩
theorem TX_c {H M H' M' : Hp} {t : Nat → Nat} {L : Nat} (h4 : H' 4 = H 4) (h6 : M' 6 = M 6) (h : TX H M t L) : TX H' M' t L := ⟨h.1, fun i hi => by rw [h4, h6]; exact h.2 i hi⟩
theorem faults {hc hm : Hp} {t : Nat → Nat} {L : Nat} (hR : Rel hc hm) (hT : TX hc hm t L) (a : hc 3 1 = nI L) (b : hm 0 7 = nI L) : ∃ (z : Int32) (f' g' : Nat → Int32), f' 1 = nI L ∧ g' 7 = nI L ∧ Rel (up1 hc 3 f') (up1 hm 0 g') ∧ (z = -6 → okT t L (L + 1) 0) ∧ (∀ Q : Int32 → Hp → Prop, Q z (up1 hc 3 f') → F_X4_findFault hc Q) ∧ (∀ Q : Int32 → Hp → Prop, Q z (up1 hm 0 g') → F_X8_findFault hm Q) := by
  obtain ⟨z, f', g', c1, c2, c3, c4, cC, cM⟩ := faultLoop hT (L + 1) 0 0 (upd (hc 3) 2 0) (upd (hm 0) 8 0) (by omega) (by omega) (by omega) ⟨by rw [upd_n' (by decide)]; exact a, upd_s'⟩ ⟨by rw [upd_n' (by decide)]; exact b, upd_s'⟩
  rw [upd_n' (by decide)] at c3
  exact ⟨z, f', g', c1, c2, rel_pad hR (fun c h3 _ => up1_n _ _ h3) (fun c h0 _ => up1_n _ _ h0) c3 (pad_TX (TX_c (up1_n _ _ (by decide)) (up1_n _ _ (by decide)) hT) c1 c2), c4, fun Q q => nm' ⟨L + 1, cC Q q⟩, fun Q q => nm' ⟨L + 1, cM Q q⟩⟩
theorem sim_fault {hc hm : Hp} (hR : Rel hc hm) : F_X7_fault hc (fun r h1 => F_X8_fault hm (fun r2 h2 => r = r2 ∧ Rel h1 h2)) := by
  obtain ⟨t, L, hT, a, b⟩ := text_of (Rel_i.mp hR).2.2.2.2
  obtain ⟨z, f', g', c1, c2, cR, c4, cC, cM⟩ := faults hR hT a b
  exact cC (fun r h1 => F_X8_fault hm (fun r2 h2 => r = r2 ∧ Rel h1 h2)) (cM (fun r2 h2 => z = r2 ∧ Rel (up1 hc 3 f') h2) ⟨rfl, cR⟩)
theorem sim_wipe {hc hm : Hp} (hR : Rel hc hm) : F_X7_wipe hc (fun r h1 => F_X8_wipe hm (fun r2 h2 => r = r2 ∧ Rel h1 h2)) := by
  obtain ⟨L, hL, a, b, c⟩ := (Rel_i.mp hR).2.2.2.2
  refine nm' (nm' (nm' (nm' ⟨by rw [a, b], ?_⟩)))
  exact rel_pad hR (fun c h3 _ => up1_n _ _ h3) (fun c h0 _ => up1_n _ _ h0) (by rw [up1_s, upd_n' (by decide)]) ⟨0, by decide, by rw [up1_s, upd_s']; exact nI_0.symm, by rw [up1_s, upd_s']; exact nI_0.symm, fun i hi => absurd hi (by omega)⟩
/-! An order done. -/
theorem cv_up3 {H : Hp} {v : Nat → Nat → Int32} {f : Nat → Int32} : up1 (cv 8 H v) 3 f = cv 8 (up1 H 3 f) v := by
  funext c
  unfold up1 cv
  by_cases h : c = 3
  · subst h; simp
  · by_cases h2 : 8 ≤ c ∧ c < 8 + 15
    · simp [h]
    · simp [h]
theorem up_10 {M : Hp} {r g : Nat → Int32} : up1 (up1 M 1 r) 0 g = up1 (up1 M 0 g) 1 r := by
  funext c
  unfold up1
  by_cases h : c = 0
  · subst h; simp
  · simp [h]
theorem stepSim {B : Nat → Hp → (Int32 → Hp → Prop) → Prop} {Bm : Hp → (Int32 → Hp → Prop) → Prop} (hS : SimV B Bm) {H M : Hp} {v : Nat → Nat → Int32} {r f g : Nat → Int32} (hV : RVv v r) (hI : IV r) : ∃ (x : Int32) (v' : Nat → Nat → Int32) (r' : Nat → Int32), (∀ Q : Int32 → Hp → Prop, Q x (up1 (cv 8 H v') 3 f) → B 8 (up1 (cv 8 H v) 3 f) Q) ∧ (∀ Q : Int32 → Hp → Prop, Q x (up1 (up1 M 1 r') 0 g) → Bm (up1 (up1 M 1 r) 0 g) Q) ∧ RVv v' r' ∧ IV r' := by
  obtain ⟨x, v', r', hC, hM, hV', hI', -⟩ := hS 8 (up1 H 3 f) v (up1 M 0 g) r hV hI
  refine ⟨x, v', r', fun Q q => ?_, fun Q q => ?_, hV', hI'⟩
  · rw [cv_up3]; exact hC Q (by rw [← cv_up3]; exact q)
  · rw [up_10]; exact hM Q (by rw [← up_10]; exact q)
theorem doOrder {H M : Hp} {v : Nat → Nat → Int32} {r f g : Nat → Int32} {c : Nat} (hV : RVv v r) (hI : IV r) (h3 : f 3 = nI c) (h9 : g 9 = nI c) (h8 : OK8 c) (h4 : c = 109 ∨ c = 110 ∨ f 4 = g 10) (h5 : c = 111 → f 5 = g 11) : ∃ (x : Int32) (v' : Nat → Nat → Int32) (r' : Nat → Int32), (∀ Q : Int32 → Hp → Prop, Q x (up1 (cv 8 H v') 3 f) → F_X7_obeyOrder (up1 (cv 8 H v) 3 f) Q) ∧ (∀ Q : Int32 → Hp → Prop, Q x (up1 (up1 M 1 r') 0 g) → F_X8_doesOrder (up1 (up1 M 1 r) 0 g) Q) ∧ RVv v' r' ∧ IV r' := by
  have h4' : c ≠ 109 → c ≠ 110 → f 4 = g 10 := fun a b => by
    rcases h4 with z | z | z
    · exact absurd z a
    · exact absurd z b
    · exact z
  unfold F_X7_obeyOrder F_X8_doesOrder
  simp only [up1_s, h3, h9]
  rcases h8 with rfl | rfl | rfl | rfl | rfl | rfl | rfl | rfl
  · obtain ⟨x, v', r', hC, hM, hV', hI'⟩ := stepSim (sim_comes (f 4)) (H := H) (M := M) (f := f) (g := g) hV hI
    exact ⟨x, v', r', fun Q q => nm' (bt' (by decide) (hC Q q)), fun Q q => nm' (bt' (by decide) (by rw [← h4' (by decide) (by decide)]; exact hM Q q)), hV', hI'⟩
  · obtain ⟨x, v', r', hC, hM, hV', hI'⟩ := stepSim (sim_clouds (f 4)) (H := H) (M := M) (f := f) (g := g) hV hI
    exact ⟨x, v', r', fun Q q => nm' (bf' (by decide) (bt' (by decide) (hC Q q))), fun Q q => nm' (bf' (by decide) (bt' (by decide) (by rw [← h4' (by decide) (by decide)]; exact hM Q q))), hV', hI'⟩
  · obtain ⟨x, v', r', hC, hM, hV', hI'⟩ := stepSim (sim_aims (f 4)) (H := H) (M := M) (f := f) (g := g) hV hI
    exact ⟨x, v', r', fun Q q => nm' (bf' (by decide) (bf' (by decide) (bt' (by decide) (hC Q q)))), fun Q q => nm' (bf' (by decide) (bf' (by decide) (bt' (by decide) (by rw [← h4' (by decide) (by decide)]; exact hM Q q)))), hV', hI'⟩
  · obtain ⟨x, v', r', hC, hM, hV', hI'⟩ := stepSim sim_agrees (H := H) (M := M) (f := f) (g := g) hV hI
    exact ⟨x, v', r', fun Q q => nm' (bf' (by decide) (bf' (by decide) (bf' (by decide) (bt' (by decide) (hC Q q))))), fun Q q => nm' (bf' (by decide) (bf' (by decide) (bf' (by decide) (bt' (by decide) (hM Q q))))), hV', hI'⟩
  · obtain ⟨x, v', r', hC, hM, hV', hI'⟩ := stepSim sim_ends (H := H) (M := M) (f := f) (g := g) hV hI
    exact ⟨x, v', r', fun Q q => nm' (bf' (by decide) (bf' (by decide) (bf' (by decide) (bf' (by decide) (bt' (by decide) (hC Q q)))))), fun Q q => nm' (bf' (by decide) (bf' (by decide) (bf' (by decide) (bf' (by decide) (bf' (by decide) (bf' (by decide) (bf' (by decide) (hM Q q)))))))), hV', hI'⟩
  · obtain ⟨x, v', r', hC, hM, hV', hI'⟩ := stepSim (sim_sights (f 4) (f 5)) (H := H) (M := M) (f := f) (g := g) hV hI
    exact ⟨x, v', r', fun Q q => nm' (bf' (by decide) (bf' (by decide) (bf' (by decide) (bf' (by decide) (bf' (by decide) (bt' (by decide) (hC Q q))))))), fun Q q => nm' (bf' (by decide) (bf' (by decide) (bf' (by decide) (bf' (by decide) (bt' (by decide) (by rw [← h4' (by decide) (by decide), ← h5 rfl]; exact hM Q q)))))), hV', hI'⟩
  · obtain ⟨x, v', r', hC, hM, hV', hI'⟩ := stepSim (sim_sails (f 4)) (H := H) (M := M) (f := f) (g := g) hV hI
    exact ⟨x, v', r', fun Q q => nm' (bf' (by decide) (bf' (by decide) (bf' (by decide) (bf' (by decide) (bf' (by decide) (bf' (by decide) (bt' (by decide) (hC Q q)))))))), fun Q q => nm' (bf' (by decide) (bf' (by decide) (bf' (by decide) (bf' (by decide) (bf' (by decide) (bt' (by decide) (by rw [← h4' (by decide) (by decide)]; exact hM Q q))))))), hV', hI'⟩
  · obtain ⟨x, v', r', hC, hM, hV', hI'⟩ := stepSim (sim_sleeps (f 4)) (H := H) (M := M) (f := f) (g := g) hV hI
    exact ⟨x, v', r', fun Q q => nm' (bf' (by decide) (bf' (by decide) (bf' (by decide) (bf' (by decide) (bf' (by decide) (bf' (by decide) (bf' (by decide) (bt' (by decide) (hC Q q))))))))), fun Q q => nm' (bf' (by decide) (bf' (by decide) (bf' (by decide) (bf' (by decide) (bf' (by decide) (bf' (by decide) (bt' (by decide) (by rw [← h4' (by decide) (by decide)]; exact hM Q q)))))))), hV', hI'⟩
