/-! What the law asks of the class after each call: it is so. -/
/-- class and law's rows together -/
def ST (g : Hp) : Prop := CS g (lrow g) ∧ IV (lrow g) ∧ DI g
theorem xI (x : Int32) : x = nI x.toBitVec.toNat := by
  apply Int32.toBitVec_inj.mp
  show x.toBitVec = BitVec.ofNat 32 x.toBitVec.toNat
  simp
def lowv (x : Int32) (n : Nat) : Nat := x.toBitVec.toNat % 2 ^ 31 % n
theorem lowv_lt {x : Int32} {n : Nat} (h : 0 < n) : lowv x n < n := Nat.mod_lt _ h
theorem lowL {x : Int32} {n : Nat} (hn : 0 < n) (hn2 : n < 2 ^ 31) {g : Hp} {Q : Int32 → Hp → Prop} (q : Q (nI (lowv x n)) g) : F_L_low x (nI n) g Q := by
  refine ⟨nI_ne0 hn hn2, ?_⟩
  have e1 : x &&& (2147483647 : Int32) = nI (x.toBitVec.toNat % 2 ^ 31) := by
    have := fa_mask x.toBitVec.toNat 31
    rw [← xI x] at this
    exact this
  rw [e1, pk_rem (Nat.mod_lt _ (by decide)) hn hn2]
  exact q
theorem estL9 {g : Hp} {n : Nat} (hn : n < 7) : estv (lrow g) n = (if g 160 (7 * n + 5) = 9999 then -6 else g 160 (7 * n + 5) + 5400) := by
  unfold estv
  rw [lr_v5 hn, lr_v6 hn]
  by_cases h : g 160 (7 * n + 5) = 9999
  · rw [h, hs9_9, if_neg (by decide), if_pos rfl]
  · rw [hs9_n h, if_pos rfl, vl9_n h, if_neg h]
theorem belL9 {g : Hp} : bel (lrow g) = (if g 158 5 = 9999 then -6 else g 158 5 + 5400) := by
  by_cases h : g 158 5 = 9999
  · rw [bel_9 h, if_pos h]
  · rw [bel_n h, if_neg h]
theorem misL9 {g : Hp} : mis (lrow g) = (if g 158 5 = 9999 then -6 else jabs (g 158 5 - g 158 4)) := by
  unfold mis
  rw [lr_5, lr_6, lr_q (show 4 < 5 by decide)]
  by_cases h : g 158 5 = 9999
  · rw [h, hs9_9, if_neg (by decide), if_pos rfl]
  · rw [hs9_n h, if_pos rfl, vl9_n h, if_neg h]
theorem can_i {r : Nat → Int32} {s n : Nat} : canP r s n = true ↔ rsn r n s = 0 := by unfold canP; rw [decide_eq_true_eq]
theorem cloud9 {g : Hp} {s : Nat} (hI : IV (lrow g)) (hs : s < 8) : (g 159 s ≤ 9000 ↔ lrow g (23 + s) = 0) ∧ (¬ g 159 s ≤ 9000 ↔ lrow g (23 + s) = 1) := by
  rw [lr_c hs, cld_1, nle]
  refine ⟨?_, Iff.rfl⟩
  rw [← nlt]
  unfold cld
  by_cases h : 9000 < g 159 s
  · rw [if_pos h]; exact ⟨fun z => absurd h z, fun z => absurd z (by decide)⟩
  · rw [if_neg h]; exact ⟨fun _ => rfl, fun _ => h⟩
theorem navTail {g : Hp} (hS : ST g) {n s k : Nat} (hn : n < 7) (hs : s < k) (hk : k ≤ 8) (ek : lrow g 13 = nI k) {y6 y7 : Int32} {Q : Int32 → Hp → Prop} (q : Q 1 g) : ∀ (m i : Nat), i + m = 7 → F_L_isNavigator_L260 (m + 1) (nI n) (nI s) y6 y7 1 (wmk (canP (lrow g) s) i) (nI i) g Q := by
  obtain ⟨⟨hV, hH⟩, hI, hD⟩ := hS
  have hs8 : s < 8 := by omega
  have hlt : nI s < lrow g 13 := by rw [ek]; exact nI_lt hs (by omega)
  have hcl : (nI s).toNatClampNeg = s := clN (by omega)
  have ivp : vp_in (nI s) 9 := vpn (by omega) (by decide)
  have sv0 : starV (lrow g) s 0 = lrow g (15 + s) + 5400 := if_pos hlt
  have sv1 : starV (lrow g) s 1 = lrow g (23 + s) := if_pos hlt
  have sv2 : starV (lrow g) s 2 = hgt (lrow g) s + 5400 := if_pos hlt
  have sv3 : starV (lrow g) s 3 = wmk (canP (lrow g) s) 7 := if_pos hlt
  obtain ⟨cl0, cl1⟩ := cloud9 hI hs8
  intro m
  induction m with
  | zero =>
    intro i e
    obtain rfl : i = 7 := by omega
    -- the four answers about the star
    have star : ∀ Q : Int32 → Hp → Prop, Q 1 g → F_X7_ofStar (nI s) (0 : Int32) g (fun r_26 h_27 => F_L_declination (nI s) h_27 (fun r_28 h_29 => ((r_26 = (r_28 + (5400 : Int32)) → (F_X7_ofStar (nI s) (1 : Int32) h_29 (fun r_31 h_32 => vp_in (nI s) 9 ∧ ((((h_32 159 (nI s).toNatClampNeg) ≤ (9000 : Int32) → (((r_31 = (0 : Int32) → (F_X7_ofStar (nI s) (2 : Int32) h_32 (fun r_36 h_37 => F_L_height (nI s) h_37 (fun r_38 h_39 => ((r_36 = (r_38 + (5400 : Int32)) → (F_X7_ofStar (nI s) (3 : Int32) h_39 (fun r_41 h_42 => ((r_41 = wmk (canP (lrow g) s) 7 → (Q (1 : Int32) h_42)) ∧ (¬ r_41 = wmk (canP (lrow g) s) 7 → (Q (0 : Int32) h_42)))))) ∧ (¬ r_36 = (r_38 + (5400 : Int32)) → (Q (0 : Int32) h_39))))))) ∧ (¬ r_31 = (0 : Int32) → (Q (0 : Int32) h_32))))) ∧ (¬ (h_32 159 (nI s).toNatClampNeg) ≤ (9000 : Int32) → (((r_31 = (1 : Int32) → (F_X7_ofStar (nI s) (2 : Int32) h_32 (fun r_45 h_46 => F_L_height (nI s) h_46 (fun r_47 h_48 => ((r_45 = (r_47 + (5400 : Int32)) → (F_X7_ofStar (nI s) (3 : Int32) h_48 (fun r_50 h_51 => ((r_50 = wmk (canP (lrow g) s) 7 → (Q (1 : Int32) h_51)) ∧ (¬ r_50 = wmk (canP (lrow g) s) 7 → (Q (0 : Int32) h_51)))))) ∧ (¬ r_45 = (r_47 + (5400 : Int32)) → (Q (0 : Int32) h_48))))))) ∧ (¬ r_31 = (1 : Int32) → (Q (0 : Int32) h_32)))))))))) ∧ (¬ r_26 = (r_28 + (5400 : Int32)) → (Q (0 : Int32) h_29))))) := fun Q q => by
      refine starC (f := 0) hV hI (by omega) (by decide) (declL hs8 (bt' (by rw [sv0]) (starC (f := 1) hV hI (by omega) (by decide) ⟨ivp, ?_⟩)))
      rw [hcl, sv1]
      refine bc _ (fun h => bt' (cl0.mp h) (starC (f := 2) hV hI (by omega) (by decide) (heightL hs8 (bt' (by rw [sv2]) (starC (f := 3) hV hI (by omega) (by decide) (bt' (by rw [sv3]) q)))))) (fun h => bt' (cl1.mp h) (starC (f := 2) hV hI (by omega) (by decide) (heightL hs8 (bt' (by rw [sv2]) (starC (f := 3) hV hI (by omega) (by decide) (bt' (by rw [sv3]) q))))))
    have h0 := rsn_nn (s := s) (hI.2.2.2.1 n hn).2.2.2.2.2
    refine bt' (by decide) (whyL hI hn hs8 (bf' (by decide) (whyC hV hI hn hs hk ek (bt' rfl (ifC hV hI hn hs hk ek (bc _ (fun h1 => ?_) (fun h1 => ?_)))))))
    · have e0 : rsn (lrow g) n s = 0 := by rw [fa_eq]; rw [fa_le] at h0 h1; omega
      exact wouldL hn hs8 (bt' (by rw [if_pos e0]) (star Q q))
    · have e0 : ¬ rsn (lrow g) n s = 0 := fun e => h1 (by rw [e]; decide)
      exact bt' (by rw [if_neg e0]) (star Q q)
  | succ m ih =>
    intro i e
    have hi : i < 7 := by omega
    refine bf' (ge7 hi) (whyL hI hi hs8 (bc _ (fun h => nm' (nm' ?_)) (fun h => nm' (nm' ?_))))
    · rw [← wmk_t (p := canP (lrow g) s) (can_i.mpr h), nI_1]
      exact ih (i + 1) (by omega)
    · rw [Int32.or_zero, ← wmk_f (p := canP (lrow g) s) (i := i) (fun z => h (can_i.mp z)), nI_1]
      exact ih (i + 1) (by omega)
theorem isNavL {g : Hp} (hS : ST g) {n s : Nat} (hn : n < 7) (hs9 : s < 9) {Q : Int32 → Hp → Prop} (q : Q 1 g) : F_L_isNavigator (nI n) (nI s) g Q := by
  obtain ⟨⟨hV, hH⟩, hI, hD⟩ := id hS
  obtain ⟨k, hk, ek⟩ := stars_k hI
  obtain ⟨z, hz⟩ := medR_ex (lrow g) (nI n)
  have e12 : g 158 12 = nI k := (lr_p (by decide) (by decide)).symm.trans ek
  have c0 : (nI (7 * n)).toNatClampNeg = 7 * n := clN (by omega)
  have c1 : (nI (7 * n + 1)).toNatClampNeg = 7 * n + 1 := clN (by omega)
  have c2 : (nI (7 * n + 2)).toNatClampNeg = 7 * n + 2 := clN (by omega)
  have c3 : (nI (7 * n + 3)).toNatClampNeg = 7 * n + 3 := clN (by omega)
  have c4 : (nI (7 * n + 4)).toNatClampNeg = 7 * n + 4 := clN (by omega)
  have c5 : (nI (7 * n + 5)).toNatClampNeg = 7 * n + 5 := clN (by omega)
  have c6 : (nI (7 * n + 6)).toNatClampNeg = 7 * n + 6 := clN (by omega)
  have a1 : nI (7 * n) + 1 = nI (7 * n + 1) := nI_add _ 1
  have a2 : nI (7 * n) + 2 = nI (7 * n + 2) := nI_add _ 2
  have a3 : nI (7 * n) + 3 = nI (7 * n + 3) := nI_add _ 3
  have a4 : nI (7 * n) + 4 = nI (7 * n + 4) := nI_add _ 4
  have a5 : nI (7 * n) + 5 = nI (7 * n + 5) := nI_add _ 5
  have a6 : nI (7 * n) + 6 = nI (7 * n + 6) := nI_add _ 6
  have i0 : vp_in (nI (7 * n)) 49 := vpn (by omega) (by decide)
  have i1 : vp_in (nI (7 * n + 1)) 49 := vpn (by omega) (by decide)
  have i2 : vp_in (nI (7 * n + 2)) 49 := vpn (by omega) (by decide)
  have i3 : vp_in (nI (7 * n + 3)) 49 := vpn (by omega) (by decide)
  have i4 : vp_in (nI (7 * n + 4)) 49 := vpn (by omega) (by decide)
  have i5 : vp_in (nI (7 * n + 5)) 49 := vpn (by omega) (by decide)
  have i6 : vp_in (nI (7 * n + 6)) 49 := vpn (by omega) (by decide)
  have v0 : g 160 (7 * n) = nv (lrow g) n 0 := (lr_v (f := 0) hn (by decide)).symm
  have v1 : g 160 (7 * n + 1) = nv (lrow g) n 1 := (lr_v hn (by decide)).symm
  have v2 : g 160 (7 * n + 2) = nv (lrow g) n 2 := (lr_v hn (by decide)).symm
  have v3 : g 160 (7 * n + 3) = nv (lrow g) n 3 := (lr_v hn (by decide)).symm
  have v4 : g 160 (7 * n + 4) = nv (lrow g) n 4 := (lr_v hn (by decide)).symm
  have v6 : g 160 (7 * n + 6) = nv (lrow g) n 7 := (lr_v7 hn).symm
  have hlast : ∀ z9 : Int32, (((nI s) < (g 158 12) → (∃ n_222, F_L_isNavigator_L260 n_222 (nI n) (nI s) (nI (7 * n)) z9 (1 : Int32) (0 : Int32) (0 : Int32) g Q)) ∧ (¬ (nI s) < (g 158 12) → (F_X7_why (nI n) (nI s) g (fun r_224 h_225 => ((r_224 = (-1 : Int32) → (F_X7_ifSighted (nI n) (nI s) h_225 (fun r_227 h_228 => ((r_227 = (-1 : Int32) → (F_X7_ofStar (nI s) (0 : Int32) h_228 (fun r_230 h_231 => ((r_230 = (-1 : Int32) → (Q (1 : Int32) h_231)) ∧ (¬ r_230 = (-1 : Int32) → (Q (0 : Int32) h_231)))))) ∧ (¬ r_227 = (-1 : Int32) → (Q (0 : Int32) h_228)))))) ∧ (¬ r_224 = (-1 : Int32) → (Q (0 : Int32) h_225))))))) := fun z9 => by
    rw [e12, nI_ltI (by omega) (by omega)]
    refine bc _ (fun h => ⟨8, navTail hS hn h hk ek q 7 0 rfl⟩) (fun h => ?_)
    have hx : ¬ ∃ t : Nat, t < k ∧ nI s = nI t := fun ⟨t, ht, e⟩ => h (by
      have := congrArg Int32.toInt e
      rw [nI_toInt (by omega), nI_toInt (by omega)] at this
      omega)
    refine whyC_f hV hk ek hx (bt' rfl (ifC_f hV hk ek hx (bt' rfl (starC (f := 0) hV hI hs9 (by decide) (bt' ?_ q)))))
    unfold starV
    rw [if_neg (by rw [ek, nI_ltI (by omega) (by omega)]; exact h)]
  refine nm' (medianL hI hz ?_)
  rw [iv70]
  simp only [a1, a2, a3, a4, a5, a6, c0, c1, c2, c3, c4, c5, c6]
  refine ofC (f := 0) hV hI hn (by decide) ⟨i0, bt' v0.symm (ofC (f := 1) hV hI hn (by decide) ⟨i1, bt' (by rw [v1]; rfl) (ofC (f := 2) hV hI hn (by decide) ⟨i2, bt' v2.symm (ofC (f := 3) hV hI hn (by decide) ⟨i3, bt' v3.symm (ofC (f := 4) hV hI hn (by decide) ⟨i4, bt' v4.symm (ofC (f := 5) hV hI hn (by decide) ⟨i5, ?_⟩)⟩)⟩)⟩)⟩)⟩
  have he5 : ofV (lrow g) n 5 = estv (lrow g) n := rfl
  rw [he5, estL9 hn]
  refine bc _ (fun h9 => bt' (if_pos h9) (ofC (f := 6) hV hI hn (by decide) ⟨i6, bt' v6.symm (ofC (f := 7) hV hI hn (by decide) (errL hn (bt' rfl (medianC hV hI (Or.inr ⟨n, hn, rfl⟩) hz ?_))))⟩)) (fun h9 => ⟨i5, bt' (if_neg h9) (ofC (f := 6) hV hI hn (by decide) ⟨i6, bt' v6.symm (ofC (f := 7) hV hI hn (by decide) (errL hn (bt' rfl (medianC hV hI (Or.inr ⟨n, hn, rfl⟩) hz ?_))))⟩)⟩)
  · exact bc _ (fun h8 => bt' (if_pos h8) (hlast _)) (fun h8 => bt' (if_neg h8) (hlast _))
  · exact bc _ (fun h8 => bt' (if_pos h8) (hlast _)) (fun h8 => bt' (if_neg h8) (hlast _))
theorem so443 {g : Hp} (hS : ST g) {x y6 y7 y10 : Int32} {z : Int32} {k : Nat} (hk : k ≤ 8) (ek : lrow g 13 = nI k) (hb : bestR (lrow g) 0 k y10) (hz : medR (lrow g) (-6) z) {Q : Int32 → Hp → Prop} (q : Q 1 g) : ∀ (m i : Nat), i + m = 5 → F_L_isSo_L443 (m + 1) x y6 y7 (nit (lrow g) 7 0 (-6, -6)).1 (nit (lrow g) 7 0 (-6, -6)).2 y10 z 1 (nI i) g Q := by
  obtain ⟨⟨hV, hH⟩, hI, hD⟩ := id hS
  intro m
  induction m with
  | zero =>
    intro i e
    obtain rfl : i = 5 := by omega
    have l7 : lowv (x >>> ((6 : Int32) &&& 31)) 7 < 7 := lowv_lt (by decide)
    have l9 : lowv (x >>> ((9 : Int32) &&& 31)) 9 < 9 := lowv_lt (by decide)
    have j9 : lowv x 9 < 9 := lowv_lt (by decide)
    have j4 : lowv (x >>> ((4 : Int32) &&& 31)) 4 < 4 := lowv_lt (by decide)
    obtain ⟨j, ej⟩ : ∃ j, j = lowv x 9 := ⟨_, rfl⟩
    obtain ⟨f, ef⟩ : ∃ f, f = lowv (x >>> ((4 : Int32) &&& 31)) 4 := ⟨_, rfl⟩
    rw [← ej] at j9
    rw [← ef] at j4
    have e13 : g 158 13 = lrow g 14 := (lr_p (by decide) (by decide)).symm
    have hend : F_X7_nearest (0 : Int32) g (fun r_21 h_22 => ((r_21 = (nit (lrow g) 7 0 (-6, -6)).1 → (F_X7_nearest (1 : Int32) h_22 (fun r_25 h_26 => ((r_25 = (nit (lrow g) 7 0 (-6, -6)).2 → (F_X7_bestStar h_26 (fun r_29 h_30 => ((r_29 = y10 → (F_X7_median (-6 : Int32) h_30 (fun r_33 h_34 => ((z = (9999 : Int32) → (((r_33 = (-5 : Int32) → (F_L_low (x >>> ((6 : Int32) &&& 31)) (7 : Int32) h_34 (fun r_49 h_50 => F_L_low (x >>> ((9 : Int32) &&& 31)) (9 : Int32) h_50 (fun r_51 h_52 => F_L_isNavigator r_49 r_51 h_52 (fun r_53 h_54 => ((r_53 = 0 → (Q (0 : Int32) h_54)) ∧ (¬ r_53 = 0 → (Q (1 : Int32) h_54)))))))) ∧ (¬ r_33 = (-5 : Int32) → (Q (0 : Int32) h_34))))) ∧ (¬ z = (9999 : Int32) → (((r_33 = (z + (5400 : Int32)) → (F_L_low (x >>> ((6 : Int32) &&& 31)) (7 : Int32) h_34 (fun r_39 h_40 => F_L_low (x >>> ((9 : Int32) &&& 31)) (9 : Int32) h_40 (fun r_41 h_42 => F_L_isNavigator r_39 r_41 h_42 (fun r_43 h_44 => ((r_43 = 0 → (Q (0 : Int32) h_44)) ∧ (¬ r_43 = 0 → (Q (1 : Int32) h_44)))))))) ∧ (¬ r_33 = (z + (5400 : Int32)) → (Q (0 : Int32) h_34))))))))) ∧ (¬ r_29 = y10 → (Q (0 : Int32) h_30)))))) ∧ (¬ r_25 = (nit (lrow g) 7 0 (-6, -6)).2 → (Q (0 : Int32) h_26)))))) ∧ (¬ r_21 = (nit (lrow g) 7 0 (-6, -6)).1 → (Q (0 : Int32) h_22)))) := by
      refine near0C hV hI (bt' rfl (near1C hV hI (bt' rfl (bestC hV hk ek hb (bt' rfl (medianC hV hI (Or.inl rfl) hz (bc _ (fun h8 => bt' (by rw [if_pos h8]) ?_) (fun h8 => bt' (by rw [if_neg h8]) ?_))))))))
      · exact lowL (n := 7) (by decide) (by decide) (lowL (n := 9) (by decide) (by decide) (isNavL hS l7 l9 (bf' (by decide) q)))
      · exact lowL (n := 7) (by decide) (by decide) (lowL (n := 9) (by decide) (by decide) (isNavL hS l7 l9 (bf' (by decide) q)))
    refine bt' (by decide) (lowL (n := 9) (by decide) (by decide) (lowL (n := 4) (by decide) (by decide) (bf' (by decide) ?_)))
    rw [← ej, ← ef]
    refine logC hV j9 j4 ?_
    rw [e13]
    unfold logV
    refine bc _ (fun h => bt' (if_neg (nlt.mpr h)) hend) (fun h => ?_)
    have h14 : nI j < lrow g 14 := nle.mp h
    have hj8 : j < 8 := by
      obtain ⟨nt, hnt, -, e14, -⟩ := hV.2.2.2.2.2
      rw [e14, nI_ltI (by omega) (by omega)] at h14
      omega
    have ei : ((4 : Int32) * nI j) + nI f = nI (4 * j + f) := by rw [show (4 : Int32) = nI 4 from rfl, pk_mul, nI_add]
    rw [ei, clN (by omega), if_pos h14]
    refine ⟨vpn (by omega) (by decide), bt' ?_ hend⟩
    rw [show 87 + 4 * j + f = 87 + (4 * j + f) by omega]
    exact lr_l
  | succ m ih =>
    intro i e
    have hi : i < 5 := by omega
    have ei : (3 : Int32) + nI i = nI (3 + i) := nI_add 3 i
    have ei7 : (7 : Int32) + nI i = nI (7 + i) := nI_add 7 i
    refine bf' (nI_ge (a := i) (b := 5) hi (by decide)) (bf' (by decide) ?_)
    rw [ei, ei7, clN (show 7 + i < 2 ^ 31 by omega)]
    refine countC hV hI (by omega) ⟨vpn (by omega) (by decide), bt' ?_ (nm' ?_)⟩
    · have el : g 158 (7 + i) = lrow g (7 + i + 1) := (lr_p (by omega) (by omega)).symm
      rw [el]
      rcases (show i = 0 ∨ i = 1 ∨ i = 2 ∨ i = 3 ∨ i = 4 by omega) with rfl | rfl | rfl | rfl | rfl <;> rfl
    · rw [nI_1]
      exact ih (i + 1) (by omega)
theorem so182b {g : Hp} (hS : ST g) {x : Int32} {z : Int32} {k : Nat} (hk : k ≤ 8) (ek : lrow g 13 = nI k) {y10 : Int32} (hb : bestR (lrow g) 0 k y10) {Q : Int32 → Hp → Prop} (q : Q 1 g) {m : Nat} : F_L_isSo_L182 (m + 1) x (wmk (estP (lrow g)) 7) (wmk (sulkP (lrow g)) 7) (nit (lrow g) 7 0 (-6, -6)).1 (nit (lrow g) 7 0 (-6, -6)).2 y10 (-1) g Q := by
  obtain ⟨⟨hV, hH⟩, hI, hD⟩ := id hS
  obtain ⟨z, hz⟩ := medR_ex (lrow g) (-6)
  have q0 : g 158 0 = lrow g 0 := (lr_q (by decide)).symm
  have q1 : g 158 1 = lrow g 1 := (lr_q (by decide)).symm
  have q2 : g 158 2 = lrow g 2 := (lr_q (by decide)).symm
  have q3 : g 158 3 = lrow g 3 := (lr_q (by decide)).symm
  have q4 : g 158 4 = lrow g 4 := (lr_q (by decide)).symm
  have q6 : g 158 6 = lrow g 7 := (lr_p (by decide) (by decide)).symm
  have hend : ∃ n_219, F_L_isSo_L443 n_219 x (wmk (estP (lrow g)) 7) (wmk (sulkP (lrow g)) 7) (nit (lrow g) 7 0 (-6, -6)).1 (nit (lrow g) 7 0 (-6, -6)).2 y10 z (1 : Int32) (0 : Int32) g Q := ⟨6, so443 hS hk ek hb hz q 5 0 rfl⟩
  refine bt' (by decide) (medianL hI (medR_c (fun i hi => PB_m hi) hz) (countC (k := 0) hV hI (by decide) (bt' (by rw [q4]; rfl) (countC (k := 1) hV hI (by decide) ?_))))
  have c1 : countV (lrow g) 1 = (if g 158 5 = 9999 then -6 else g 158 5 + 5400) := belL9
  have c10 : countV (lrow g) 10 = (if g 158 5 = 9999 then -6 else jabs (g 158 5 - g 158 4)) := misL9
  rw [c1]
  by_cases h9 : g 158 5 = 9999
  · rw [if_pos h9] at c10 ⊢
    refine bt' h9 (bt' rfl (countC (k := 2) hV hI (by decide) (bt' (by rw [q6]; rfl) (countC (k := 8) hV hI (by decide) (bt' rfl (countC (k := 9) hV hI (by decide) (bt' rfl (countC (k := 10) hV hI (by decide) (bt' h9 (bt' c10 (countC (k := 11) hV hI (by decide) (bt' (by rw [q0]; rfl) (countC (k := 12) hV hI (by decide) (bt' (by rw [q1]; rfl) (countC (k := 13) hV hI (by decide) (bt' (by rw [q2]; rfl) (countC (k := 14) hV hI (by decide) (bt' (by rw [q3]; rfl) hend))))))))))))))))))
  · rw [if_neg h9] at c10 ⊢
    refine bf' h9 (bt' rfl (countC (k := 2) hV hI (by decide) (bt' (by rw [q6]; rfl) (countC (k := 8) hV hI (by decide) (bt' rfl (countC (k := 9) hV hI (by decide) (bt' rfl (countC (k := 10) hV hI (by decide) (bf' h9 (sizeL.mpr (bt' c10 (countC (k := 11) hV hI (by decide) (bt' (by rw [q0]; rfl) (countC (k := 12) hV hI (by decide) (bt' (by rw [q1]; rfl) (countC (k := 13) hV hI (by decide) (bt' (by rw [q2]; rfl) (countC (k := 14) hV hI (by decide) (bt' (by rw [q3]; rfl) hend)))))))))))))))))))
theorem so182 {g : Hp} (hS : ST g) {x : Int32} {k : Nat} (hk : k ≤ 8) (ek : lrow g 13 = nI k) {Q : Int32 → Hp → Prop} (q : Q 1 g) : ∀ (i : Nat) (y10 : Int32), i ≤ k → bestR (lrow g) i k y10 → F_L_isSo_L182 (i + 1) x (wmk (estP (lrow g)) 7) (wmk (sulkP (lrow g)) 7) (nit (lrow g) 7 0 (-6, -6)).1 (nit (lrow g) 7 0 (-6, -6)).2 y10 (nI i - 1) g Q := by
  obtain ⟨⟨hV, hH⟩, hI, hD⟩ := id hS
  have e3 : g 158 3 = lrow g 3 := (lr_q (by decide)).symm
  have e9 : (9000 : Int32).toInt = 9000 := by decide
  intro i
  induction i with
  | zero =>
    intro y10 h hb
    exact so182b hS hk ek hb q (z := 0)
  | succ i ih =>
    intro y10 h hb
    have hi8 : i < 8 := by omega
    have ei : nI (i + 1) - 1 = nI i := nI_pred i
    have em : nI i + (-1) = nI i - 1 := (Int32.sub_eq_add_neg _ _).symm
    have hcl : (nI i).toNatClampNeg = i := clN (by omega)
    have hdr : rng (lrow g (15 + i)) (-5400) 5400 := hI.2.2.1.2 i hi8
    have hcan : lrow g (23 + i) = 0 ↔ ¬ (9000 : Int32) ≤ g 159 i := by
      rw [← (cloud9 hI hi8).1]
      constructor
      · intro z z2
        have e : lrow g (15 + i) = g 159 i := by rw [lr_d hi8]; unfold dcl; rw [if_neg (nlt.mpr z)]
        rw [e] at hdr
        rw [fa_le, e9] at z2
        have := hdr.2
        omega
      · intro z
        rw [fa_le, e9] at z
        rw [fa_le, e9]
        omega
    rw [ei]
    refine bf' (nI_pos (by omega)) ⟨vpn (by omega) (by decide), ?_⟩
    rw [hcl, em]
    refine bc _ (fun h1 => nm' (ih y10 (by omega) (bd_skip hb (fun z => hcan.mp z.1 h1)))) (fun h1 => heightL hi8 ?_)
    rw [e3]
    refine bc _ (fun h2 => nm' (ih y10 (by omega) (bd_skip hb (fun z => z.2 h2)))) (fun h2 => ?_)
    have hc : canS (lrow g) i := ⟨hcan.mpr h1, h2⟩
    rcases hb with ⟨rfl, a⟩ | ⟨s, s0, s1, rfl, s2, s3⟩
    · exact bt' (by decide) (nm' (ih (nI i) (by omega) (bd_first (by omega) a hc)))
    · refine bf' (nI_pos (by omega)) (heightL hi8 (heightL (show s < 8 by omega) (bc _ (fun h3 => nm' (ih _ (by omega) (bd_keep s0 s1 s2 s3 h3))) (fun h3 => nm' (ih _ (by omega) (bd_new (by omega) hc s3 h3))))))
theorem so21 {g : Hp} (hS : ST g) {x : Int32} {Q : Int32 → Hp → Prop} (q : Q 1 g) : ∀ (m i : Nat) (p : Int32 × Int32), i + m = 7 → nit (lrow g) m i p = nit (lrow g) 7 0 (-6, -6) → (p.1 = -6 ∨ ∃ t : Nat, t < 7 ∧ p.1 = nI t) → F_L_isSo_L21 (m + 1) x (wmk (estP (lrow g)) i) (wmk (sulkP (lrow g)) i) p.1 p.2 (-6) (nI i) g Q := by
  obtain ⟨⟨hV, hH⟩, hI, hD⟩ := id hS
  obtain ⟨k, hk, ek⟩ := stars_k hI
  have e12 : g 158 12 = nI k := (lr_p (by decide) (by decide)).symm.trans ek
  have e4 : g 158 4 = lrow g 4 := (lr_q (by decide)).symm
  intro m
  induction m with
  | zero =>
    intro i p e hp h6
    obtain rfl : i = 7 := by omega
    have hp2 : p = nit (lrow g) 7 0 (-6, -6) := hp
    refine bt' (by decide) (nm' ⟨k + 1, ?_⟩)
    rw [e12, hp2]
    exact so182 hS hk ek q k (-6) (Nat.le_refl k) (Or.inl ⟨rfl, fun s h1 h2 => absurd h1 (by omega)⟩)
  | succ m ih =>
    intro i p e hp h6
    have hi : i < 7 := by omega
    have v5 : ((7 : Int32) * nI i + 5).toNatClampNeg = 7 * i + 5 := by rw [iv75]; exact clN (by omega)
    have v6 : ((7 : Int32) * nI i + 6).toNatClampNeg = 7 * i + 6 := by rw [iv76]; exact clN (by omega)
    have i5 : vp_in ((7 : Int32) * nI i + 5) 49 := by rw [iv75]; exact vpn (by omega) (by decide)
    have i6 : vp_in ((7 : Int32) * nI i + 6) 49 := by rw [iv76]; exact vpn (by omega) (by decide)
    have e7 : g 160 (7 * i + 6) = nv (lrow g) i 7 := (lr_v7 hi).symm
    have hp1 : nit (lrow g) m (i + 1) (nst (lrow g) i p) = nit (lrow g) 7 0 (-6, -6) := hp
    have sk1 : nv (lrow g) i 7 = 2 → wmk (sulkP (lrow g)) (i + 1) = wmk (sulkP (lrow g)) i ||| ((1 : Int32) <<< (nI i &&& 31)) := fun h => wmk_t (by unfold sulkP; exact decide_eq_true h)
    have sk0 : ¬ nv (lrow g) i 7 = 2 → wmk (sulkP (lrow g)) (i + 1) = wmk (sulkP (lrow g)) i := fun h => wmk_f (by unfold sulkP; simp [h])
    have lt6 : p.1 < 0 ↔ p.1 = -6 := by
      rcases h6 with h6 | ⟨t, ht, h6⟩
      · rw [h6]; decide
      · rw [h6]
        exact ⟨fun z => absurd z (nI_pos (by omega)), fun z => absurd (by rw [z]; decide) (nI_pos (n := t) (by omega))⟩
    refine bf' (ge7 hi) ⟨i5, ?_⟩
    rw [v5, v6]
    refine bc _ (fun h9 => ⟨i5, sizeL.mpr (nm' ⟨i6, ?_⟩)⟩) (fun h9 => ⟨i5, sizeL.mpr (nm' ⟨i6, ?_⟩)⟩)
    · have h5 : ¬ nv (lrow g) i 5 = 1 := by rw [lr_v5 hi, hs9_1]; exact fun z => z h9
      have we : wmk (estP (lrow g)) (i + 1) = wmk (estP (lrow g)) i := wmk_f (by unfold estP; simp [h5])
      rw [show nst (lrow g) i p = p from if_neg h5] at hp1
      have := ih (i + 1) p (by omega) hp1 h6
      rw [we] at this
      rw [e7]
      refine bc _ (fun h7 => nm' (nm' ?_)) (fun h7 => nm' (nm' ?_))
      · rw [Int32.or_zero, ← sk1 h7, nI_1]; exact this
      · rw [Int32.or_zero, Int32.or_zero, ← sk0 h7, nI_1]; exact this
    · have h5 : nv (lrow g) i 5 = 1 := by rw [lr_v5 hi, hs9_1]; exact h9
      have we : wmk (estP (lrow g)) (i + 1) = wmk (estP (lrow g)) i ||| ((1 : Int32) <<< (nI i &&& 31)) := wmk_t (by unfold estP; exact decide_eq_true h5)
      have ed : jabs (g 160 (7 * i + 5) - g 158 4) = dst (lrow g) i := by unfold dst; rw [lr_v6 hi, vl9_n h9, e4]
      have goA : p.1 = -6 → F_L_isSo_L21 (m + 1) x (wmk (estP (lrow g)) (i + 1)) (wmk (sulkP (lrow g)) (i + 1)) (nI i) (dst (lrow g) i) (-6) (nI (i + 1)) g Q := fun z => by
        rw [show nst (lrow g) i p = (nI i, dst (lrow g) i) from (if_pos h5).trans (if_pos z)] at hp1
        exact ih (i + 1) (nI i, dst (lrow g) i) (by omega) hp1 (Or.inr ⟨i, hi, rfl⟩)
      have goB : ¬ p.1 = -6 → p.2 ≤ dst (lrow g) i → F_L_isSo_L21 (m + 1) x (wmk (estP (lrow g)) (i + 1)) (wmk (sulkP (lrow g)) (i + 1)) p.1 p.2 (-6) (nI (i + 1)) g Q := fun z z2 => by
        rw [show nst (lrow g) i p = p from (if_pos h5).trans ((if_neg z).trans (if_pos z2))] at hp1
        exact ih (i + 1) p (by omega) hp1 h6
      have goC : ¬ p.1 = -6 → ¬ p.2 ≤ dst (lrow g) i → F_L_isSo_L21 (m + 1) x (wmk (estP (lrow g)) (i + 1)) (wmk (sulkP (lrow g)) (i + 1)) (nI i) (dst (lrow g) i) (-6) (nI (i + 1)) g Q := fun z z2 => by
        rw [show nst (lrow g) i p = (nI i, dst (lrow g) i) from (if_pos h5).trans ((if_neg z).trans (if_neg z2))] at hp1
        exact ih (i + 1) (nI i, dst (lrow g) i) (by omega) hp1 (Or.inr ⟨i, hi, rfl⟩)
      rw [we] at goA goB goC
      rw [e7, ed, lt6]
      refine bc _ (fun h7 => nm' ?_) (fun h7 => nm' ?_)
      · rw [sk1 h7] at goA goB goC
        refine bc _ (fun hA => nm' ?_) (fun hA => bc _ (fun hB => nm' ?_) (fun hB => nm' ?_))
        · rw [nI_1]; exact goA hA
        · rw [nI_1]; exact goB hA hB
        · rw [nI_1]; exact goC hA hB
      · rw [sk0 h7] at goA goB goC
        rw [Int32.or_zero]
        refine bc _ (fun hA => nm' ?_) (fun hA => bc _ (fun hB => nm' ?_) (fun hB => nm' ?_))
        · rw [nI_1]; exact goA hA
        · rw [nI_1]; exact goB hA hB
        · rw [nI_1]; exact goC hA hB
theorem isSoL {g : Hp} (hS : ST g) {x : Int32} {Q : Int32 → Hp → Prop} (q : Q 1 g) : F_L_isSo x g Q :=
  ⟨8, so21 hS q 7 0 (-6, -6) rfl rfl (Or.inl rfl)⟩
