/-! What the class answers, out of the row. -/
theorem atG {F : Hp → (Int32 → Hp → Prop) → Prop} {g : Hp} {r : Nat → Int32} {z : Int32} (hV : RVv (fun o => g (8 + o)) r) (h : ∀ v : Nat → Nat → Int32, RVv v r → ∀ Q : Int32 → Hp → Prop, Q z (cv 8 g v) → F (cv 8 g v) Q) {Q : Int32 → Hp → Prop} (q : Q z g) : F g Q := by
  have h1 := h (fun o => g (8 + o)) hV Q
  rw [cv_self] at h1
  exact h1 q
def ofV (r : Nat → Int32) (n f : Nat) : Int32 := match f with | 0 => nv r n 0 | 1 => nv r n 1 + 60 | 2 => nv r n 2 | 3 => nv r n 3 | 4 => nv r n 4 | 5 => estv r n | 6 => nv r n 7 | _ => errv r n + 999
theorem ofC {g : Hp} {r : Nat → Int32} (hV : RVv (fun o => g (8 + o)) r) (hI : IV r) {n f : Nat} (hn : n < 7) (hf : f < 8) {Q : Int32 → Hp → Prop} (q : Q (ofV r n f) g) : F_X7_of (nI n) (nI f) g Q := by
  refine atG (F := fun h Q => F_X7_of (nI n) (nI f) h Q) hV (fun v hV Q q => ?_) q
  have hxc := nav_c.mpr ⟨n, hn, rfl⟩
  have hcl : (nI n).toNatClampNeg = n := clN (by omega)
  have hvp : vp_in (nI n) 7 := vpn hn (by decide)
  obtain ⟨a5, a6, a7, a8, a9, a10, a11⟩ := hV.2.2.1 n hn
  simp only [F_X7_of, isNavC_iff, b01_0, F_X1_factOf, told_iff, hcl, cv_5, cv_6, cv_7, cv_8, cv_9, cv_10, cv_11, a5, a6, a7, a8, a9, a11, estC (hV.2.2.1 n hn) (hI.2.2.2.1 n hn)]
  rcases f8 hf with rfl | rfl | rfl | rfl | rfl | rfl | rfl | rfl
  · exact bf' (fun z => z hxc) ((bt' rfl ⟨hvp, q⟩))
  · exact bf' (fun z => z hxc) ((bf' (by decide) (bt' rfl ⟨hvp, q⟩)))
  · exact bf' (fun z => z hxc) ((bf' (by decide) (bf' (by decide) (bt' rfl ⟨hvp, q⟩))))
  · exact bf' (fun z => z hxc) ((bf' (by decide) (bf' (by decide) (bf' (by decide) (bt' rfl ⟨hvp, q⟩)))))
  · exact bf' (fun z => z hxc) ((bf' (by decide) (bf' (by decide) (bf' (by decide) (bf' (by decide) (bt' rfl ⟨hvp, q⟩))))))
  · exact bf' (fun z => z hxc) ((bf' (by decide) (bf' (by decide) (bf' (by decide) (bf' (by decide) (bf' (by decide) (bt' rfl ⟨hvp, q⟩)))))))
  · exact bf' (fun z => z hxc) ((bf' (by decide) (bf' (by decide) (bf' (by decide) (bf' (by decide) (bf' (by decide) (bf' (by decide) (bt' rfl ⟨hvp, q⟩))))))))
  · exact bf' (fun z => z hxc) ((bf' (by decide) (bf' (by decide) (bf' (by decide) (bf' (by decide) (bf' (by decide) (bf' (by decide) (bf' (by decide) (bt' rfl (errorC hn (hV.2.2.1 n hn) q)))))))))) 
theorem whyC {g : Hp} {r : Nat → Int32} (hV : RVv (fun o => g (8 + o)) r) (hI : IV r) {n s k : Nat} (hn : n < 7) (hs : s < k) (hk : k ≤ 8) (ek : r 13 = nI k) {Q : Int32 → Hp → Prop} (q : Q (rsn r n s) g) : F_X7_why (nI n) (nI s) g Q :=
  atG (F := fun h Q => F_X7_why (nI n) (nI s) h Q) hV (fun v hV Q q => by
    show F_X6_reasonAgainst 8 (nI n) (nI s) (cv 8 g v) (fun r_1 h_2 => Q r_1 h_2)
    exact reasonC (v := v) hV hI hn hs hk ek q) q
theorem whyC_f {g : Hp} {r : Nat → Int32} (hV : RVv (fun o => g (8 + o)) r) {n k : Nat} {x : Int32} (hk : k ≤ 8) (ek : r 13 = nI k) (hx : ¬ ∃ s : Nat, s < k ∧ x = nI s) {Q : Int32 → Hp → Prop} (q : Q (-1) g) : F_X7_why (nI n) x g Q :=
  atG (F := fun h Q => F_X7_why (nI n) x h Q) hV (fun v hV Q q => by
    show F_X6_reasonAgainst 8 (nI n) x (cv 8 g v) (fun r_1 h_2 => Q r_1 h_2)
    exact reasonC_s (v := v) hk (hV.2.1.1.trans ek) hx q) q
theorem ifC {g : Hp} {r : Nat → Int32} (hV : RVv (fun o => g (8 + o)) r) (hI : IV r) {n s k : Nat} (hn : n < 7) (hs : s < k) (hk : k ≤ 8) (ek : r 13 = nI k) {Q : Int32 → Hp → Prop} (q : Q (if rsn r n s = 0 then est r n s + 5400 else -5) g) : F_X7_ifSighted (nI n) (nI s) g Q :=
  atG (F := fun h Q => F_X7_ifSighted (nI n) (nI s) h Q) hV (fun v hV Q q => by
    show F_X6_tellSight 8 (nI n) (nI s) (cv 8 g v) (fun r_1 h_2 => Q r_1 h_2)
    exact tellC (v := v) hV hI hn hs hk ek q) q
theorem ifC_f {g : Hp} {r : Nat → Int32} (hV : RVv (fun o => g (8 + o)) r) {n k : Nat} {x : Int32} (hk : k ≤ 8) (ek : r 13 = nI k) (hx : ¬ ∃ s : Nat, s < k ∧ x = nI s) {Q : Int32 → Hp → Prop} (q : Q (-1) g) : F_X7_ifSighted (nI n) x g Q :=
  atG (F := fun h Q => F_X7_ifSighted (nI n) x h Q) hV (fun v hV Q q => by
    show F_X6_tellSight 8 (nI n) x (cv 8 g v) (fun r_1 h_2 => Q r_1 h_2)
    unfold F_X6_tellSight
    exact reasonC_s (v := v) hk (hV.2.1.1.trans ek) hx (bf' (by decide) q)) q
def logV (r : Nat → Int32) (j k : Nat) : Int32 := if nI j < r 14 then r (87 + 4 * j + k) else -1
theorem logC {g : Hp} {r : Nat → Int32} (hV : RVv (fun o => g (8 + o)) r) {j k : Nat} (hj : j < 9) (hk : k < 4) {Q : Int32 → Hp → Prop} (q : Q (logV r j k) g) : F_X7_log (nI j) (nI k) g Q := by
  refine atG (F := fun h Q => F_X7_log (nI j) (nI k) h Q) hV (fun v hV Q q => ?_) q
  obtain ⟨nt, hnt, e9, e14, hlog⟩ := hV.2.2.2.2.2
  have m5 : v 0 5 = nI nt := hV.2.2.2.2.1.1.trans e9
  unfold logV at q
  by_cases hjm : j < min nt 8
  · rw [if_pos (by rw [e14]; exact nI_lt hjm (by omega))] at q
    have e4 : (4 : Int32) = nI 4 := rfl
    simp only [F_X7_log, F_X6_factOfLog, cv_0, m5, forall_eq, jmin8 hnt]
    refine bf' (nI_pos (by omega)) (bt' (nI_lt hjm (by omega)) (bf' (nI_pos (by omega)) (bt' (nI_lt (b := 4) hk (by decide)) ?_)))
    have ei : nI nt - 1 - nI j = nI (nt - 1 - j) := by rw [show (1 : Int32) = nI 1 from rfl, pk_sub (by omega), pk_sub (by omega)]
    have ei2 : (nI (nt - 1 - j) - nI (nt - 1 - j) / (8 : Int32) * (8 : Int32)) * (4 : Int32) + nI k = nI ((nt - 1 - j) % 8 * 4 + k) := by rw [show (8 : Int32) = nI 8 from rfl, pk_rem (by omega) (by decide) (by decide), e4, pk_mul, nI_add]
    unfold F_X3_read
    rw [ei, ei2, clN (by omega), cv_14]
    refine ⟨vpn (by omega) (by decide), ?_⟩
    have := hlog j k hjm hk
    rw [show 4 * ((nt - 1 - j) % 8) + k = (nt - 1 - j) % 8 * 4 + k by omega] at this
    rw [this]
    exact q
  · rw [if_neg (by rw [e14, nI_ltI (by omega) (by omega)]; exact hjm)] at q
    simp only [F_X7_log, F_X6_factOfLog, cv_0, m5, forall_eq, jmin8 hnt]
    exact bf' (nI_pos (by omega)) (bf' (by rw [nI_ltI (by omega) (by omega)]; exact hjm) q)
def starV (r : Nat → Int32) (s f : Nat) : Int32 := if nI s < r 13 then (match f with | 0 => r (15 + s) + 5400 | 1 => r (23 + s) | 2 => hgt r s + 5400 | _ => wmk (canP r s) 7) else -1
theorem starC {g : Hp} {r : Nat → Int32} (hV : RVv (fun o => g (8 + o)) r) (hI : IV r) {s f : Nat} (hs9 : s < 9) (hf : f < 4) {Q : Int32 → Hp → Prop} (q : Q (starV r s f) g) : F_X7_ofStar (nI s) (nI f) g Q := by
  refine atG (F := fun h Q => F_X7_ofStar (nI s) (nI f) h Q) hV (fun v hV Q q => ?_) q
  obtain ⟨k, hk, ek⟩ := stars_k hI
  have e13 : cv 8 g v (8 + 2) 0 = nI k := by rw [cv_2]; exact hV.2.1.1.trans ek
  unfold starV at q
  have hsk : nI s < r 13 ↔ s < k := by rw [ek, nI_ltI (by omega) (by omega)]
  by_cases hs : s < k
  · rw [if_pos (hsk.mpr hs)] at q
    have hs8 : s < 8 := by omega
    have hcl : (nI s).toNatClampNeg = s := clN (by omega)
    have hC0 : ∀ Q : Int32 → Hp → Prop, F_X6_factOfStar 8 (nI s) (nI f) (cv 8 g v) Q → F_X7_ofStar (nI s) (nI f) (cv 8 g v) Q := fun Q q => hasStar_t hk hs e13 (bf' (by decide) q)
    refine hC0 Q ?_
    rcases (show f = 0 ∨ f = 1 ∨ f = 2 ∨ f = 3 by omega) with rfl | rfl | rfl | rfl
    · refine (bt' rfl ⟨vpn hs8 (by decide), ?_⟩)
      rw [hcl, cv_3, hV.2.1.2.2 s hs8]; exact q
    · exact (bf' (by decide) (bt' rfl (cloudC hs8 hV.2.1 q)))
    · exact (bf' (by decide) (bf' (by decide) (bt' rfl (heightC hs8 hV.2.1.2.2 hV.2.2.2.1.1 q))))
    · exact (bf' (by decide) (bf' (by decide) (bf' (by decide) (bt' rfl (canC hV hI hs hk ek q)))))
  · rw [if_neg (fun z => hs (hsk.mp z))] at q
    exact hasStar_f hk (fun ⟨t, ht, e⟩ => hs (by
      have := congrArg Int32.toInt e
      rw [nI_toInt (by omega), nI_toInt (by omega)] at this
      omega)) e13 (bt' rfl q)
def countV (r : Nat → Int32) (k : Nat) : Int32 := match k with | 0 => r 4 + 5400 | 1 => bel r | 2 => r 7 + 5400 | 3 => r 8 | 4 => r 9 | 5 => r 10 | 6 => r 11 | 7 => r 12 | 8 => wmk (estP r) 7 | 9 => wmk (sulkP r) 7 | 10 => mis r | 11 => r 0 + 30 | 12 => r 1 | 13 => r 2 | _ => r 3
theorem countC {g : Hp} {r : Nat → Int32} (hV : RVv (fun o => g (8 + o)) r) (hI : IV r) {k : Nat} (hk : k < 15) {Q : Int32 → Hp → Prop} (q : Q (countV r k) g) : F_X7_count (nI k) g Q := by
  refine atG (F := fun h Q => F_X7_count (nI k) h Q) hV (fun v hV Q q => ?_) q
  have hN := navs_of hV hI
  rcases (show k = 0 ∨ k = 1 ∨ k = 2 ∨ k = 3 ∨ k = 4 ∨ k = 5 ∨ k = 6 ∨ k = 7 ∨ k = 8 ∨ k = 9 ∨ k = 10 ∨ k = 11 ∨ k = 12 ∨ k = 13 ∨ k = 14 by omega) with rfl | rfl | rfl | rfl | rfl | rfl | rfl | rfl | rfl | rfl | rfl | rfl | rfl | rfl | rfl
  · exact bf' (by decide) (bf' (by decide) ((bt' rfl (by rw [cv_12, hV.2.2.2.1.1]; exact q))))
  · exact bf' (by decide) (bf' (by decide) ((bf' (by decide) (bt' rfl (by rw [told_iff, cv_12, belC hV.2.2.2.1.2.1 hI.2.1.2.2.1]; exact q)))))
  · exact bf' (by decide) (bf' (by decide) ((bf' (by decide) (bf' (by decide) (bt' rfl (by rw [cv_12, hV.2.2.2.1.2.2.1]; exact q))))))
  · exact bf' (by decide) (bf' (by decide) ((bf' (by decide) (bf' (by decide) (bf' (by decide) (bt' rfl (by rw [cv_12, hV.2.2.2.1.2.2.2]; exact q)))))))
  · exact bf' (by decide) (bf' (by decide) ((bf' (by decide) (bf' (by decide) (bf' (by decide) (bf' (by decide) (bt' rfl (by rw [cv_0, hV.2.2.2.2.1.1]; exact q))))))))
  · exact bf' (by decide) (bf' (by decide) ((bf' (by decide) (bf' (by decide) (bf' (by decide) (bf' (by decide) (bf' (by decide) (bt' rfl (sumC hN (by rw [← hI.2.2.2.2]; exact q))))))))))
  · exact bf' (by decide) (bf' (by decide) ((bf' (by decide) (bf' (by decide) (bf' (by decide) (bf' (by decide) (bf' (by decide) (bf' (by decide) (bt' rfl (by rw [cv_0, hV.2.2.2.2.1.2.1]; exact q))))))))))
  · exact bf' (by decide) (bf' (by decide) ((bf' (by decide) (bf' (by decide) (bf' (by decide) (bf' (by decide) (bf' (by decide) (bf' (by decide) (bf' (by decide) (bt' rfl (by rw [cv_0, hV.2.2.2.2.1.2.2]; exact q)))))))))))
  · exact bf' (by decide) (bf' (by decide) ((bf' (by decide) (bf' (by decide) (bf' (by decide) (bf' (by decide) (bf' (by decide) (bf' (by decide) (bf' (by decide) (bf' (by decide) (bt' rfl (estsC hN q))))))))))))
  · exact bf' (by decide) (bf' (by decide) ((bf' (by decide) (bf' (by decide) (bf' (by decide) (bf' (by decide) (bf' (by decide) (bf' (by decide) (bf' (by decide) (bf' (by decide) (bf' (by decide) (bt' rfl (sulkC hN q)))))))))))))
  · exact bf' (by decide) (bf' (by decide) ((bf' (by decide) (bf' (by decide) (bf' (by decide) (bf' (by decide) (bf' (by decide) (bf' (by decide) (bf' (by decide) (bf' (by decide) (bf' (by decide) (bf' (by decide) (bt' rfl (misC hV.2.2.2.1 hI.2.1.2.2.1 q))))))))))))))
  · exact bf' (by decide) (bf' (by decide) ((bf' (by decide) (bf' (by decide) (bf' (by decide) (bf' (by decide) (bf' (by decide) (bf' (by decide) (bf' (by decide) (bf' (by decide) (bf' (by decide) (bf' (by decide) (bf' (by decide) (bt' rfl (by rw [cv_1, hV.1 0 (by decide)]; exact q)))))))))))))))
  · exact bf' (by decide) (bf' (by decide) ((bf' (by decide) (bf' (by decide) (bf' (by decide) (bf' (by decide) (bf' (by decide) (bf' (by decide) (bf' (by decide) (bf' (by decide) (bf' (by decide) (bf' (by decide) (bf' (by decide) (bf' (by decide) (bt' rfl (by rw [cv_1, hV.1 1 (by decide)]; exact q))))))))))))))))
  · exact bf' (by decide) (bf' (by decide) ((bf' (by decide) (bf' (by decide) (bf' (by decide) (bf' (by decide) (bf' (by decide) (bf' (by decide) (bf' (by decide) (bf' (by decide) (bf' (by decide) (bf' (by decide) (bf' (by decide) (bf' (by decide) (bf' (by decide) (bt' rfl (by rw [cv_1, hV.1 2 (by decide)]; exact q)))))))))))))))))
  · exact bf' (by decide) (bf' (by decide) ((bf' (by decide) (bf' (by decide) (bf' (by decide) (bf' (by decide) (bf' (by decide) (bf' (by decide) (bf' (by decide) (bf' (by decide) (bf' (by decide) (bf' (by decide) (bf' (by decide) (bf' (by decide) (bf' (by decide) (bf' (by decide) (bt' rfl (by rw [cv_1, hV.1 3 (by decide)]; exact q))))))))))))))))))
theorem medianC {g : Hp} {r : Nat → Int32} (hV : RVv (fun o => g (8 + o)) r) (hI : IV r) {w z : Int32} (hw : w = -6 ∨ ∃ n : Nat, n < 7 ∧ w = nI n) (hz : medR r w z) {Q : Int32 → Hp → Prop} (q : Q (if z = 9999 then -5 else z + 5400) g) : F_X7_median w g Q := by
  refine atG (F := fun h Q => F_X7_median w h Q) hV (fun v hV Q q => ?_) q
  have hN := navs_of hV hI
  have hm : ∀ Q : Int32 → Hp → Prop, Q (if z = 9999 then -5 else z + 5400) (cv 8 g v) → F_X1_middleWithout 8 w (cv 8 g v) (fun r_2 h_3 => (r_2 = (9999 : Int32) → Q (-5 : Int32) h_3) ∧ (¬ r_2 = (9999 : Int32) → Q (r_2 + (5400 : Int32)) h_3)) := fun Q q => medC hN hz (bc _ (fun h => by rw [if_pos h] at q; exact q) (fun h => by rw [if_neg h] at q; exact q))
  rcases hw with h6 | ⟨n, hn, rfl⟩
  · exact bt' h6 (hm Q q)
  · refine bf' (fun e => nI_pos (n := n) (by omega) (by rw [e]; decide)) (isNavC_iff.mpr (bf' (fun z => (b01_0 _).mp z (nav_c.mpr ⟨n, hn, rfl⟩)) (hm Q q)))
/-! The best star. -/
def canS (r : Nat → Int32) (s : Nat) : Prop := r (23 + s) = 0 ∧ ¬ hgt r s < r 3
/-- y is the best of the stars lo .. hi - 1 -/
def bestR (r : Nat → Int32) (lo hi : Nat) (y : Int32) : Prop := (y = -6 ∧ ∀ s, lo ≤ s → s < hi → ¬ canS r s) ∨ ∃ s, lo ≤ s ∧ s < hi ∧ y = nI s ∧ canS r s ∧ ∀ t, lo ≤ t → t < hi → canS r t → ¬ hgt r s < hgt r t ∧ (t < s → hgt r t < hgt r s)
theorem bestR_one {r : Nat → Int32} {k : Nat} (hk : k ≤ 8) {a b : Int32} (ha : bestR r 0 k a) (hb : bestR r 0 k b) : a = b := by
  rcases ha with ⟨rfl, a1⟩ | ⟨i, _, i1, rfl, i2, i3⟩
  · rcases hb with ⟨rfl, b1⟩ | ⟨j, _, j1, rfl, j2, j3⟩
    · rfl
    · exact absurd j2 (a1 j (Nat.zero_le j) j1)
  · rcases hb with ⟨rfl, b1⟩ | ⟨j, _, j1, rfl, j2, j3⟩
    · exact absurd i2 (b1 i (Nat.zero_le i) i1)
    · have x1 := i3 j (Nat.zero_le j) j1 j2
      have x2 := j3 i (Nat.zero_le i) i1 i2
      have : i = j := by
        rcases Nat.lt_trichotomy i j with h | h | h
        · exact absurd (x2.2 h) x1.1
        · exact h
        · exact absurd (x1.2 h) x2.1
      rw [this]
theorem lt_irr {x : Int32} : ¬ x < x := by rw [fa_lt]; omega
def bestS (r : Nat → Int32) (lo hi s : Nat) : Prop := ∀ t, lo ≤ t → t < hi → canS r t → ¬ hgt r s < hgt r t ∧ (t < s → hgt r t < hgt r s)
theorem bu_skip {r : Nat → Int32} {i : Nat} {y : Int32} (hy : bestR r 0 i y) (hc : ¬ canS r i) : bestR r 0 (i + 1) y := by
  rcases hy with ⟨e, a⟩ | ⟨s, s0, s1, e, s2, s3⟩
  · refine Or.inl ⟨e, fun t h0 ht => ?_⟩
    by_cases htk : t = i
    · subst htk; exact hc
    · exact a t h0 (by omega)
  · refine Or.inr ⟨s, s0, by omega, e, s2, fun t h0 ht htc => ?_⟩
    by_cases htk : t = i
    · subst htk; exact absurd htc hc
    · exact s3 t h0 (by omega) htc
theorem bu_first {r : Nat → Int32} {i : Nat} (a : ∀ s, 0 ≤ s → s < i → ¬ canS r s) (hc : canS r i) : bestR r 0 (i + 1) (nI i) := by
  refine Or.inr ⟨i, Nat.zero_le i, Nat.lt_succ_self i, rfl, hc, fun t h0 ht htc => ?_⟩
  by_cases htk : t = i
  · subst htk; exact ⟨lt_irr, fun z => absurd z (Nat.lt_irrefl t)⟩
  · exact absurd htc (a t h0 (by omega))
theorem bu_keep {r : Nat → Int32} {i s : Nat} (s1 : s < i) (s2 : canS r s) (s3 : bestS r 0 i s) (hh : ¬ hgt r s < hgt r i) : bestR r 0 (i + 1) (nI s) := by
  refine Or.inr ⟨s, Nat.zero_le s, by omega, rfl, s2, fun t h0 ht htc => ?_⟩
  by_cases htk : t = i
  · subst htk; exact ⟨hh, fun z => absurd z (by omega)⟩
  · exact s3 t h0 (by omega) htc
theorem bu_new {r : Nat → Int32} {i s : Nat} (hc : canS r i) (s3 : bestS r 0 i s) (hh : hgt r s < hgt r i) : bestR r 0 (i + 1) (nI i) := by
  refine Or.inr ⟨i, Nat.zero_le i, Nat.lt_succ_self i, rfl, hc, fun t h0 ht htc => ?_⟩
  by_cases htk : t = i
  · subst htk; exact ⟨lt_irr, fun z => absurd z (Nat.lt_irrefl t)⟩
  · have h1 := (s3 t h0 (by omega) htc).1
    rw [fa_lt] at h1 hh
    rw [fa_lt, fa_lt]
    exact ⟨by omega, fun _ => by omega⟩
theorem bd_skip {r : Nat → Int32} {i k : Nat} {y : Int32} (hy : bestR r (i + 1) k y) (hc : ¬ canS r i) : bestR r i k y := by
  rcases hy with ⟨e, a⟩ | ⟨s, s0, s1, e, s2, s3⟩
  · refine Or.inl ⟨e, fun t h0 ht => ?_⟩
    by_cases htk : t = i
    · subst htk; exact hc
    · exact a t (by omega) ht
  · refine Or.inr ⟨s, by omega, s1, e, s2, fun t h0 ht htc => ?_⟩
    by_cases htk : t = i
    · subst htk; exact absurd htc hc
    · exact s3 t (by omega) ht htc
theorem bd_first {r : Nat → Int32} {i k : Nat} (hik : i < k) (a : ∀ s, i + 1 ≤ s → s < k → ¬ canS r s) (hc : canS r i) : bestR r i k (nI i) := by
  refine Or.inr ⟨i, Nat.le_refl i, hik, rfl, hc, fun t h0 ht htc => ?_⟩
  by_cases htk : t = i
  · subst htk; exact ⟨lt_irr, fun z => absurd z (Nat.lt_irrefl t)⟩
  · exact absurd htc (a t (by omega) ht)
theorem bd_keep {r : Nat → Int32} {i k s : Nat} (s0 : i + 1 ≤ s) (s1 : s < k) (s2 : canS r s) (s3 : bestS r (i + 1) k s) (hh : hgt r i < hgt r s) : bestR r i k (nI s) := by
  refine Or.inr ⟨s, by omega, s1, rfl, s2, fun t h0 ht htc => ?_⟩
  by_cases htk : t = i
  · subst htk
    rw [fa_lt] at hh
    rw [fa_lt, fa_lt]
    exact ⟨by omega, fun _ => by omega⟩
  · exact s3 t (by omega) ht htc
theorem bd_new {r : Nat → Int32} {i k s : Nat} (hik : i < k) (hc : canS r i) (s3 : bestS r (i + 1) k s) (hh : ¬ hgt r i < hgt r s) : bestR r i k (nI i) := by
  refine Or.inr ⟨i, Nat.le_refl i, hik, rfl, hc, fun t h0 ht htc => ?_⟩
  by_cases htk : t = i
  · subst htk; exact ⟨lt_irr, fun z => absurd z (Nat.lt_irrefl t)⟩
  · have h1 := (s3 t (by omega) ht htc).1
    rw [fa_lt] at h1 hh
    rw [fa_lt]
    exact ⟨by omega, fun z => absurd z (by omega)⟩
theorem bestR_ex (r : Nat → Int32) : ∀ k, ∃ y, bestR r 0 k y
  | 0 => ⟨-6, Or.inl ⟨rfl, fun s _ h => absurd h (Nat.not_lt_zero s)⟩⟩
  | k + 1 => by
    obtain ⟨y, hy⟩ := bestR_ex r k
    by_cases hc : canS r k
    · rcases hy with ⟨e, a⟩ | ⟨s, s0, s1, e, s2, s3⟩
      · exact ⟨nI k, bu_first a hc⟩
      · by_cases hh : hgt r s < hgt r k
        · exact ⟨nI k, bu_new hc s3 hh⟩
        · exact ⟨nI s, bu_keep s1 s2 s3 hh⟩
    · exact ⟨y, bu_skip hy hc⟩
theorem bestLoop {g : Hp} {v : Nat → Nat → Int32} {r : Nat → Int32} {z : Int32} {k : Nat} {Q : Int32 → Hp → Prop} (hV : RVv v r) (hk : k ≤ 8) (ek : r 13 = nI k) (hz : bestR r 0 k z) (q : Q z (cv 8 g v)) : ∀ (m i : Nat) (y : Int32), i + m = k → bestR r 0 i y → F_X6_highestStar_L5 8 (m + 1) y (nI i) (cv 8 g v) Q := by
  have e13 : cv 8 g v (8 + 2) 0 = nI k := by rw [cv_2]; exact hV.2.1.1.trans ek
  intro m
  induction m with
  | zero =>
    intro i y e hy
    obtain rfl : i = k := by omega
    refine bt' ?_ ?_
    · rw [e13, nI_leI (by omega) (by omega)]; omega
    · rw [bestR_one hk hy hz]; exact q
  | succ m ih =>
    intro i y e hy
    have hi : i < k := by omega
    have hi8 : i < 8 := by omega
    have hle : ¬ nI k ≤ nI i := nI_ge hi (by omega)
    have s3 : cv 8 g v (8 + 1) 3 = r 3 := by rw [cv_1]; exact hV.1 3 (by decide)
    have hC : ∀ (s : Nat) (hs : s < 8) (Q : Int32 → Hp → Prop), Q (hgt r s) (cv 8 g v) → F_X6_heightOf 8 (nI s) (cv 8 g v) Q := fun s hs Q q => heightC hs hV.2.1.2.2 hV.2.2.2.1.1 q
    refine bf' (by rw [e13]; exact hle) (cloudC hi8 hV.2.1 (bc _ (fun hcl => hC i hi8 _ ?_) (fun hcl => nm' ?_)))
    · rw [s3]
      refine bc _ (fun hh => nm' ?_) (fun hh => ?_)
      · rw [nI_1]
        exact ih (i + 1) y (by omega) (bu_skip hy (fun z => z.2 hh))
      · have hc : canS r i := ⟨hcl, hh⟩
        rcases hy with ⟨e6, a⟩ | ⟨s, s0, s1, e6, s2, s3⟩
        · refine bt' e6 (nm' ?_)
          rw [nI_1]
          exact ih (i + 1) (nI i) (by omega) (bu_first a hc)
        · rw [e6]
          refine bf' (fun e => nI_pos (n := s) (by omega) (by rw [e]; decide)) (hC i hi8 _ (hC s (by omega) _ (bc _ (fun h7 => nm' ?_) (fun h7 => nm' ?_))))
          · rw [nI_1]
            exact ih (i + 1) _ (by omega) (bu_keep s1 s2 s3 (nlt.mpr h7))
          · rw [nI_1]
            exact ih (i + 1) _ (by omega) (bu_new hc s3 (nle.mp h7))
    · rw [nI_1]
      exact ih (i + 1) y (by omega) (bu_skip hy (fun z => hcl z.1))
theorem bestC {g : Hp} {r : Nat → Int32} (hV : RVv (fun o => g (8 + o)) r) {z : Int32} {k : Nat} (hk : k ≤ 8) (ek : r 13 = nI k) (hz : bestR r 0 k z) {Q : Int32 → Hp → Prop} (q : Q z g) : F_X7_bestStar g Q :=
  atG (F := fun h Q => F_X7_bestStar h Q) hV (fun v hV Q q => ⟨k + 1, bestLoop hV hk ek hz q k 0 (-6) (by omega) (Or.inl ⟨rfl, fun s _ h => absurd h (Nat.not_lt_zero s)⟩)⟩) q
/-! Who is nearest. -/
def dst (r : Nat → Int32) (i : Nat) : Int32 := jabs (nv r i 6 - r 4)
def nst (r : Nat → Int32) (i : Nat) (p : Int32 × Int32) : Int32 × Int32 := if nv r i 5 = 1 then (if p.1 = -6 then (nI i, dst r i) else if p.2 ≤ dst r i then p else (nI i, dst r i)) else p
def nit (r : Nat → Int32) : Nat → Nat → Int32 × Int32 → Int32 × Int32
  | 0, _, p => p
  | m + 1, i, p => nit r m (i + 1) (nst r i p)
theorem nearLoop {g : Hp} {v : Nat → Nat → Int32} {r : Nat → Int32} (hV : RVv v r) (hI : IV r) (x : Int32) : ∀ (m i : Nat) (y2 y3 : Int32), i + m = 7 → ∀ Q : Int32 → Hp → Prop, Q (if x = 0 then (nit r m i (y2, y3)).1 else (nit r m i (y2, y3)).2) (cv 8 g v) → F_X6_nearestNavigator_L21 8 (m + 1) x y2 y3 (nI i) (cv 8 g v) Q := by
  have hN := navs_of hV hI
  intro m
  induction m with
  | zero =>
    intro i y2 y3 e Q q
    obtain rfl : i = 7 := by omega
    refine bt' (by decide) (bc _ (fun h0 => ?_) (fun h0 => ?_))
    · rw [if_pos h0] at q; exact q
    · rw [if_neg h0] at q; exact q
  | succ m ih =>
    intro i y2 y3 e Q q
    have hi : i < 7 := by omega
    have hcl : (nI i).toNatClampNeg = i := clN (by omega)
    have hvp : vp_in (nI i) 7 := vpn hi (by decide)
    have e10 : cv 8 g v (8 + 10) i = if nv r i 5 = 1 then nv r i 6 else 9999 := by rw [cv_10]; exact (hN i hi).1.2.2.2.2.2.1
    have e12 : cv 8 g v (8 + 12) 0 = r 4 := by rw [cv_12]; exact hV.2.2.2.1.1
    have q1 : Q (if x = 0 then (nit r m (i + 1) (nst r i (y2, y3))).1 else (nit r m (i + 1) (nst r i (y2, y3))).2) (cv 8 g v) := q
    refine bf' (ge7 hi) ⟨hvp, ?_⟩
    rw [hcl, e10]
    by_cases h5 : nv r i 5 = 1
    · rw [if_pos h5]
      refine bf' (ne_9999 (hN i hi).2.2.2.2.2.1) ⟨hvp, nm' ?_⟩
      rw [e12]
      refine bc _ (fun h6 => nm' ?_) (fun h6 => bc _ (fun h7 => nm' ?_) (fun h7 => nm' ?_))
      · rw [nI_1]
        rw [show nst r i (y2, y3) = (nI i, dst r i) from (if_pos h5).trans (if_pos h6)] at q1
        exact ih (i + 1) _ _ (by omega) Q q1
      · rw [nI_1]
        rw [show nst r i (y2, y3) = (y2, y3) from (if_pos h5).trans ((if_neg h6).trans (if_pos h7))] at q1
        exact ih (i + 1) _ _ (by omega) Q q1
      · rw [nI_1]
        rw [show nst r i (y2, y3) = (nI i, dst r i) from (if_pos h5).trans ((if_neg h6).trans (if_neg h7))] at q1
        exact ih (i + 1) _ _ (by omega) Q q1
    · rw [if_neg h5]
      refine bt' rfl (nm' ?_)
      rw [nI_1]
      rw [show nst r i (y2, y3) = (y2, y3) from if_neg h5] at q1
      exact ih (i + 1) _ _ (by omega) Q q1
theorem near0C {g : Hp} {r : Nat → Int32} (hV : RVv (fun o => g (8 + o)) r) (hI : IV r) {Q : Int32 → Hp → Prop} (q : Q (nit r 7 0 (-6, -6)).1 g) : F_X7_nearest 0 g Q :=
  atG (F := fun h Q => F_X7_nearest 0 h Q) hV (fun v hV Q q => bt' rfl ⟨8, nearLoop hV hI 0 7 0 (-6) (-6) rfl Q q⟩) q
theorem near1C {g : Hp} {r : Nat → Int32} (hV : RVv (fun o => g (8 + o)) r) (hI : IV r) {Q : Int32 → Hp → Prop} (q : Q (nit r 7 0 (-6, -6)).2 g) : F_X7_nearest 1 g Q :=
  atG (F := fun h Q => F_X7_nearest 1 h Q) hV (fun v hV Q q => bf' (by decide) (bt' rfl ⟨8, nearLoop hV hI 1 7 0 (-6) (-6) rfl Q q⟩)) q
/-! What the law reads of the class as one number. -/
theorem told84 (r : Nat → Int32) : ∀ (m i : Nat) (a : Int64), i + m = 32 → ∃ T : Int64, ∀ g : Hp, RVv (fun o => g (8 + o)) r → IV r → ∀ Q : Int64 → Hp → Prop, Q T g → F_L_told_L84 (m + 1) a (nI i) g Q := by
  intro m
  induction m with
  | zero =>
    intro i a e
    obtain rfl : i = 32 := by omega
    exact ⟨a, fun g hV hI Q q => bt' (by decide) q⟩
  | succ m ih =>
    intro i a e
    have hi : i < 32 := by omega
    obtain ⟨T, hT⟩ := ih (i + 1) (31 * a + (logV r (i / 4) (i % 4)).toInt64) (by omega)
    refine ⟨T, fun g hV hI Q q => bf' (nI_ge (a := i) (b := 32) hi (by decide)) ?_⟩
    rw [show (4 : Int32) = nI 4 from rfl, pk_rem (by omega) (by decide) (by decide), pk_div (by omega) (by decide) (by decide)]
    refine logC hV (by omega) (by omega) (nm' (nm' ?_))
    rw [nI_1]
    exact hT g hV hI Q q
theorem told33 (r : Nat → Int32) : ∀ (m i : Nat) (a : Int64), i + m = 56 → ∃ T : Int64, ∀ g : Hp, RVv (fun o => g (8 + o)) r → IV r → ∀ Q : Int64 → Hp → Prop, Q T g → F_L_told_L33 (m + 1) a (nI i) g Q := by
  intro m
  induction m with
  | zero =>
    intro i a e
    obtain rfl : i = 56 := by omega
    obtain ⟨T, hT⟩ := told84 r 32 0 a rfl
    exact ⟨T, fun g hV hI Q q => bt' (by decide) ⟨33, hT g hV hI Q q⟩⟩
  | succ m ih =>
    intro i a e
    have hi : i < 56 := by omega
    obtain ⟨T, hT⟩ := ih (i + 1) (31 * (31 * a + (ofV r (i / 8) (i % 8)).toInt64) + (starV r (i / 8) (i % 4)).toInt64) (by omega)
    refine ⟨T, fun g hV hI Q q => bf' (nI_ge (a := i) (b := 56) hi (by decide)) ?_⟩
    rw [show (8 : Int32) = nI 8 from rfl, show (4 : Int32) = nI 4 from rfl, pk_rem (by omega) (by decide) (by decide), pk_rem (by omega) (by decide) (by decide), pk_div (by omega) (by decide) (by decide)]
    refine ofC hV hI (by omega) (by omega) (starC hV hI (by omega) (by omega) (nm' (nm' ?_)))
    rw [nI_1]
    exact hT g hV hI Q q
theorem told6 (r : Nat → Int32) : ∀ (m i : Nat) (a : Int64), i + m = 15 → ∃ T : Int64, ∀ g : Hp, RVv (fun o => g (8 + o)) r → IV r → ∀ Q : Int64 → Hp → Prop, Q T g → F_L_told_L6 (m + 1) a (nI i) g Q := by
  intro m
  induction m with
  | zero =>
    intro i a e
    obtain rfl : i = 15 := by omega
    obtain ⟨T, hT⟩ := told33 r 56 0 a rfl
    exact ⟨T, fun g hV hI Q q => bt' (by decide) ⟨57, hT g hV hI Q q⟩⟩
  | succ m ih =>
    intro i a e
    have hi : i < 15 := by omega
    obtain ⟨T, hT⟩ := ih (i + 1) (31 * a + (countV r i).toInt64) (by omega)
    refine ⟨T, fun g hV hI Q q => bf' (nI_ge (a := i) (b := 15) hi (by decide)) (countC hV hI hi (nm' (nm' ?_)))⟩
    rw [nI_1]
    exact hT g hV hI Q q
/-- one number for all that the class tells: the row alone decides it -/
theorem toldR (r : Nat → Int32) : ∃ T : Int64, ∀ g : Hp, RVv (fun o => g (8 + o)) r → IV r → ∀ Q : Int64 → Hp → Prop, Q T g → F_L_told g Q := by
  obtain ⟨T, hT⟩ := told6 r 15 0 223 rfl
  exact ⟨T, fun g hV hI Q q => nm' ⟨16, hT g hV hI Q q⟩⟩
