/-! What is kept between the calls. -/
def slotR (hc hm : Hp) : Prop := ∀ j, j < 2 → (hc 6 j = 0 ∧ hm 5 j = 0) ∨ (hc 6 j = 1 ∧ hm 5 j = 1 ∧ RV (128 + 15 * j) hc (fun k => hm 4 (j * 119 + k)) ∧ IV (fun k => hm 4 (j * 119 + k)))
def padR (hc hm : Hp) : Prop := ∃ L : Nat, L ≤ 80 ∧ hc 3 1 = nI L ∧ hm 0 7 = nI L ∧ ∀ i, i < L → hc 4 i = hm 6 i ∧ ∃ q : Nat, 33 ≤ q ∧ q ≤ 126 ∧ hm 6 i = nI q
def histR (hc hm : Hp) (n o : Nat) : Prop := n ≤ 6 ∧ o < 7 ∧ hc 1 2 = nI n ∧ hm 0 3 = nI n ∧ hc 1 1 = nI o ∧ ∀ i, i < n → RV (ringP o i) hc (fun k => hm 3 (i * 119 + k)) ∧ IV (fun k => hm 3 (i * 119 + k))
theorem Rel_i {hc hm : Hp} : Rel hc hm ↔ RV 8 hc (hm 1) ∧ IV (hm 1) ∧ (∃ n o : Nat, histR hc hm n o) ∧ slotR hc hm ∧ padR hc hm := Iff.rfl
theorem slot_c {hc hm hc' hm' : Hp} (h6 : hc' 6 = hc 6) (hcf : ∀ c, 128 ≤ c → hc' c = hc c) (h4 : hm' 4 = hm 4) (h5 : hm' 5 = hm 5) (h : slotR hc hm) : slotR hc' hm' := by
  intro j hj
  rw [h6, h5, h4]
  rcases h j hj with q | ⟨a, b, c, d⟩
  · exact Or.inl q
  · exact Or.inr ⟨a, b, RV_fr (fun c hc _ => hcf c (by omega)) c, d⟩
theorem pad_c {hc hm hc' hm' : Hp} (h3 : hc' 3 1 = hc 3 1) (h4 : hc' 4 = hc 4) (h0 : hm' 0 7 = hm 0 7) (h6 : hm' 6 = hm 6) (h : padR hc hm) : padR hc' hm' := by
  obtain ⟨L, hL, a, b, c⟩ := h
  exact ⟨L, hL, h3.trans a, h0.trans b, fun i hi => by rw [h4, h6]; exact c i hi⟩
theorem hist_c {hc hm hc' hm' : Hp} {n o : Nat} (h1 : hc' 1 = hc 1) (hcf : ∀ i c, i < n → ringP o i ≤ c → c < ringP o i + 15 → hc' c = hc c) (h0 : hm' 0 3 = hm 0 3) (h3 : hm' 3 = hm 3) (h : histR hc hm n o) : histR hc' hm' n o := by
  obtain ⟨a, b, c, d, e, f⟩ := h
  refine ⟨a, b, by rw [h1]; exact c, by rw [h0]; exact d, by rw [h1]; exact e, fun i hi => ?_⟩
  rw [h3]
  exact ⟨RV_fr (hcf i · hi) (f i hi).1, (f i hi).2⟩
theorem VEq_refl (v : Nat → Nat → Int32) : VEq v v := VEq_of (fun _ _ => rfl)
theorem ring_ne {o i n c : Nat} (hn : n ≤ 6) (hi : i < n) (h1 : ringP o i ≤ c) (h2 : c < ringP o i + 15) : ¬ (ringP o n ≤ c ∧ c < ringP o n + 15) := by
  unfold ringP at *
  omega
theorem rel_ok {hc hm hc' hm' : Hp} {n o : Nat} {g : Nat → Int32} (hh : histR hc hm n o) (hs : slotR hc hm) (hp : padR hc hm) (cI : IV (hm 1)) (c1 : hc' 1 = keptN n o (hc 1)) (cR : RV (ringP o n) hc' (hm 1)) (cv8 : RV 8 hc' (hm' 1)) (cI' : IV (hm' 1)) (cfr : ∀ c, c ≠ 1 → ¬ (8 ≤ c ∧ c < 23) → ¬ (ringP o n ≤ c ∧ c < ringP o n + 15) → hc' c = hc c) (m0 : hm' 0 = upd (hm 0) 3 (nI (min (n + 1) 6))) (m3 : hm' 3 = pushed n (hm 3) g) (hg : ∀ k, k < 119 → g k = hm 1 k) (m4 : hm' 4 = hm 4) (m5 : hm' 5 = hm 5) (m6 : hm' 6 = hm 6) : Rel hc' hm' := by
  obtain ⟨hn, ho, e2, e0, e1, hrow⟩ := hh
  have hb := ringP_b o n
  refine Rel_i.mpr ⟨cv8, cI', ?_, slot_c (cfr 6 (by decide) (by decide) (by omega)) (fun c h => cfr c (by omega) (by omega) (by omega)) m4 m5 hs, pad_c (by rw [cfr 3 (by decide) (by decide) (by omega)]) (cfr 4 (by decide) (by decide) (by omega)) (by rw [m0, upd_n' (by decide)]) m6 hp⟩
  by_cases h6 : n = 6
  · subst h6
    refine ⟨6, (o + 1) % 7, by decide, by omega, ?_, ?_, ?_, fun i hi => ?_⟩
    · rw [c1]; unfold keptN; rw [if_pos rfl, upd_n' (by decide)]; exact e2
    · rw [m0, upd_s']; rfl
    · rw [c1]; unfold keptN; rw [if_pos rfl, upd_s']
    · by_cases h5 : i = 5
      · subst h5
        have er : ∀ k, k < 119 → hm' 3 (5 * 119 + k) = hm 1 k := fun k hk => by
          rw [m3]
          unfold pushed
          rw [if_pos rfl, fb_put_in (by omega) (by omega), show 5 * 119 + k - 595 = k by omega]
          exact hg k hk
        refine ⟨?_, IV_c er cI⟩
        rw [show ringP ((o + 1) % 7) 5 = ringP o 6 by unfold ringP; omega]
        exact RVv_c (VEq_refl _) er cR
      · have er : ∀ k, k < 119 → hm' 3 (i * 119 + k) = hm 3 ((i + 1) * 119 + k) := fun k hk => by
          rw [m3]
          unfold pushed
          rw [if_pos rfl, fb_put_out (by omega)]
          unfold shiftH
          rw [if_pos (by omega), show i * 119 + k + 119 = (i + 1) * 119 + k by omega]
        obtain ⟨f1, f2⟩ := hrow (i + 1) (by omega)
        refine ⟨?_, IV_c er f2⟩
        rw [show ringP ((o + 1) % 7) i = ringP o (i + 1) by unfold ringP; omega]
        have hb2 := ringP_b o (i + 1)
        exact RVv_c (VEq_refl _) er (RV_fr (fun c h1 h2 => cfr c (by omega) (by omega) (ring_ne (by decide) (show i + 1 < 6 by omega) h1 h2)) f1)
  · refine ⟨n + 1, o, by omega, ho, ?_, ?_, ?_, fun i hi => ?_⟩
    · rw [c1]; unfold keptN; rw [if_neg h6, upd_s']
    · rw [m0, upd_s', show min (n + 1) 6 = n + 1 by omega]
    · rw [c1]; unfold keptN; rw [if_neg h6, upd_n' (by decide)]; exact e1
    · by_cases h5 : i = n
      · subst h5
        have er : ∀ k, k < 119 → hm' 3 (i * 119 + k) = hm 1 k := fun k hk => by
          rw [m3]
          unfold pushed
          rw [if_neg h6, fb_put_in (by omega) (by omega), Nat.add_sub_cancel_left]
          exact hg k hk
        exact ⟨RVv_c (VEq_refl _) er cR, IV_c er cI⟩
      · have er : ∀ k, k < 119 → hm' 3 (i * 119 + k) = hm 3 (i * 119 + k) := fun k hk => by
          rw [m3]
          unfold pushed
          rw [if_neg h6, fb_put_out (by omega)]
        obtain ⟨f1, f2⟩ := hrow i (by omega)
        have hb2 := ringP_b o i
        exact ⟨RVv_c (VEq_refl _) er (RV_fr (fun c h1 h2 => cfr c (by omega) (by omega) (ring_ne hn (show i < n by omega) h1 h2)) f1), IV_c er f2⟩
theorem rel_err {hc hm : Hp} {n o : Nat} {w : Nat → Nat → Int32} {y : Nat → Int32} (hR : Rel hc hm) (hh : histR hc hm n o) : Rel (cv (ringP o n) hc w) (up1 hm 2 y) := by
  have hb := ringP_b o n
  have hf : ∀ c, ¬ (ringP o n ≤ c ∧ c < ringP o n + 15) → cv (ringP o n) hc w c = hc c := fun c h => cv_out (by omega)
  refine Rel_i.mpr ⟨RV_out (Or.inl (by omega)) hR.1, hR.2.1, ⟨n, o, hist_c (hf 1 (by omega)) (fun i c hi h1 h2 => hf c (ring_ne hh.1 hi h1 h2)) rfl rfl hh⟩, slot_c (hf 6 (by omega)) (fun c h => hf c (by omega)) rfl rfl hR.2.2.2.1, pad_c (by rw [hf 3 (by omega)]) (hf 4 (by omega)) rfl rfl hR.2.2.2.2⟩
theorem up1_c1 {hm : Hp} {y : Nat → Int32} : up1 (up1 hm 2 y) 1 (hm 1) = up1 hm 2 y := by
  have := up1_self (up1 hm 2 y) 1
  rw [up1_n _ _ (show (1 : Nat) ≠ 2 by decide)] at this
  exact this
/-- what holds when the row has been changed and pushed -/
theorem rel_chg {hc hm : Hp} {n o : Nat} {w v' : Nat → Nat → Int32} {r' : Nat → Int32} (hR : Rel hc hm) (hh : histR hc hm n o) (hw : VEq w (fun k => hc (8 + k))) (hV : RVv v' r') (hI : IV r') : Rel (up1 (cv 8 (cv (ringP o n) hc w) v') 1 (keptN n o (cv 8 (cv (ringP o n) hc w) v' 1))) (up1 (up1 (up1 (up1 hm 2 (fb_put (hm 2) (hm 1) 0 119)) 1 r') 3 (pushed n (up1 (up1 hm 2 (fb_put (hm 2) (hm 1) 0 119)) 1 r' 3) (up1 (up1 hm 2 (fb_put (hm 2) (hm 1) 0 119)) 1 r' 2))) 0 (upd (up1 (up1 hm 2 (fb_put (hm 2) (hm 1) 0 119)) 1 r' 0) 3 (nI (min (n + 1) 6)))) := by
  have hb := ringP_b o n
  have hf : ∀ c, ¬ (8 ≤ c ∧ c < 23) → ¬ (ringP o n ≤ c ∧ c < ringP o n + 15) → cv 8 (cv (ringP o n) hc w) v' c = hc c := fun c h1 h2 => (cv_out (by omega)).trans (cv_out (by omega))
  refine rel_ok (g := fb_put (hm 2) (hm 1) 0 119) hh hR.2.2.2.1 hR.2.2.2.2 hR.2.1 ?_ ?_ ?_ hI (fun c h0 h1 h2 => by rw [up1_n _ _ h0]; exact hf c h1 h2) rfl rfl (fun k hk => by rw [fb_put_in (by omega) (by omega)]; rfl) rfl rfl rfl
  · rw [up1_s, hf 1 (by decide) (by omega)]
  · refine RV_fr (h := cv (ringP o n) hc w) (fun c h1 h2 => ?_) (RV_in (RVv_c hw (fun _ _ => rfl) hR.1))
    rw [up1_n _ _ (by omega)]
    exact cv_out (by omega)
  · refine RV_fr (h := cv 8 (cv (ringP o n) hc w) v') (fun c h1 h2 => ?_) (RV_in hV)
    rw [up1_n _ _ (by omega)]
theorem op_sim {B : Nat → Hp → (Int32 → Hp → Prop) → Prop} {Bm : Hp → (Int32 → Hp → Prop) → Prop} (hS : SimV B Bm) {hc hm : Hp} (hR : Rel hc hm) : F_X2_hold 8 hc (fun h_2 => B 8 h_2 (fun r_3 h_4 => F_X2_keepUnlessError r_3 h_4 (fun r_5 h_6 => F_X8_putAside hm (fun h2 => Bm h2 (fun r3 h4 => F_X8_recorded r3 h4 (fun r5 h6 => r_5 = r5 ∧ Rel h_6 h6)))))) := by
  obtain ⟨n, o, hh⟩ := (Rel_i.mp hR).2.2.1
  obtain ⟨hn, ho, e2, e0, e1, hrow⟩ := id hh
  have hb := ringP_b o n
  obtain ⟨w, hw, hH⟩ := holdC hn ho e2 e1
  refine hH _ ?_
  have V1 : RVv (fun k => cv (ringP o n) hc w (8 + k)) (hm 1) := RV_out (b2 := 8) (Or.inl (by omega)) hR.1
  obtain ⟨x, v', r', hC, hM, hV', hI', herr⟩ := hS 8 (cv (ringP o n) hc w) (fun k => cv (ringP o n) hc w (8 + k)) (up1 hm 2 (fb_put (hm 2) (hm 1) 0 119)) (hm 1) V1 hR.2.1
  rw [cv_self] at hC
  rw [up1_c1] at hM
  refine hC _ ?_
  by_cases hx : x < 0
  · obtain ⟨hv, hr⟩ := herr hx
    refine keepE hx (putM (hM _ (bt' hx ⟨rfl, ?_⟩)))
    rw [hv, hr, cv_self, up1_c1]
    exact rel_err hR hh
  · have e8 : cv 8 (cv (ringP o n) hc w) v' 1 = hc 1 := (cv_out (by omega)).trans (cv_out (by omega))
    refine keepC hn ho (by rw [e8]; exact e2) (by rw [e8]; exact e1) hx (putM (hM _ (bf' hx (pushM hn ?_ ⟨rfl, rel_chg hR hh hw hV' hI'⟩))))
    exact e0
theorem sim_star (x : Int32) {hc hm : Hp} (hR : Rel hc hm) : F_X7_star x hc (fun r h1 => F_X8_star x hm (fun r2 h2 => r = r2 ∧ Rel h1 h2)) := op_sim (sim_comes x) hR
theorem sim_cloud (x : Int32) {hc hm : Hp} (hR : Rel hc hm) : F_X7_cloud x hc (fun r h1 => F_X8_cloud x hm (fun r2 h2 => r = r2 ∧ Rel h1 h2)) := op_sim (sim_clouds x) hR
theorem sim_sleep (x : Int32) {hc hm : Hp} (hR : Rel hc hm) : F_X7_sleep x hc (fun r h1 => F_X8_sleep x hm (fun r2 h2 => r = r2 ∧ Rel h1 h2)) := op_sim (sim_sleeps x) hR
theorem sim_goal (x : Int32) {hc hm : Hp} (hR : Rel hc hm) : F_X7_goal x hc (fun r h1 => F_X8_goal x hm (fun r2 h2 => r = r2 ∧ Rel h1 h2)) := op_sim (sim_aims x) hR
theorem sim_sight (x1 x2 : Int32) {hc hm : Hp} (hR : Rel hc hm) : F_X7_sight x1 x2 hc (fun r h1 => F_X8_sight x1 x2 hm (fun r2 h2 => r = r2 ∧ Rel h1 h2)) := op_sim (sim_sights x1 x2) hR
theorem sim_agree {hc hm : Hp} (hR : Rel hc hm) : F_X7_agree hc (fun r h1 => F_X8_agree hm (fun r2 h2 => r = r2 ∧ Rel h1 h2)) := op_sim sim_agrees hR
theorem sim_sail (x : Int32) {hc hm : Hp} (hR : Rel hc hm) : F_X7_sail x hc (fun r h1 => F_X8_sail x hm (fun r2 h2 => r = r2 ∧ Rel h1 h2)) := op_sim (sim_sails x) hR
theorem sim_night {hc hm : Hp} (hR : Rel hc hm) : F_X7_night hc (fun r h1 => F_X8_night hm (fun r2 h2 => r = r2 ∧ Rel h1 h2)) := op_sim sim_ends hR
