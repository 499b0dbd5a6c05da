theorem star_c {x : Int32} {k : Nat} (hk : k ≤ 8) : (0 ≤ x ∧ x ≤ nI k - 1) ↔ ∃ s : Nat, s < k ∧ x = nI s := by
  have e1 : (nI k - 1).toInt = (k : Int) - 1 := pk_sub_toInt (a := k) (b := 1) (by omega) (by decide)
  have e0 : (0 : Int32).toInt = 0 := by decide
  constructor
  · rintro ⟨h1, h2⟩
    rw [fa_le, e0] at h1
    rw [fa_le, e1] at h2
    obtain ⟨s, hs, rfl⟩ := rngN (x := x) (n := 8) ⟨h1, by omega⟩ (by decide)
    rw [nI_toInt (by omega)] at h2
    exact ⟨s, by omega, rfl⟩
  · rintro ⟨s, hs, rfl⟩
    rw [fa_le, fa_le, e0, e1, nI_toInt (by omega)]
    omega
theorem hasStar_t {b : Nat} {h : Hp} {s k : Nat} (hk : k ≤ 8) (hs : s < k) (e : h (b + 2) 0 = nI k) {Q : Int32 → Hp → Prop} (q : Q 1 h) : F_X5_hasStar b (nI s) h Q := by
  refine bf' (nI_pos (by omega)) (bf' ?_ q)
  rw [e, nI_leI (by omega) (by omega)]; omega
theorem hasStar_f {b : Nat} {h : Hp} {x : Int32} {k : Nat} (hk : k ≤ 8) (hx : ¬ ∃ s : Nat, s < k ∧ x = nI s) (e : h (b + 2) 0 = nI k) {Q : Int32 → Hp → Prop} (q : Q 0 h) : F_X5_hasStar b x h Q := by
  refine bc _ (fun _ => q) (fun h0 => bt' ?_ q)
  obtain ⟨j, hj, rfl⟩ := nI_of h0
  rw [e, nI_leI (by omega) (by omega)]
  rcases Nat.lt_or_ge j k with h1 | h1
  · exact absurd ⟨j, h1, rfl⟩ hx
  · exact h1
theorem isStar_t {h : Hp} {s k : Nat} (hk : k ≤ 8) (hs : s < k) (e : h 1 13 = nI k) {Q : Int32 → Hp → Prop} (q : Q 1 h) : F_X8_isStar (nI s) h Q := by
  unfold F_X8_isStar
  rw [within_iff, e]
  refine ⟨b01_n _, ?_⟩
  rw [(b01_1 _).mpr ((star_c hk).mpr ⟨s, hs, rfl⟩)]
  exact q
theorem isStar_f {h : Hp} {x : Int32} {k : Nat} (hk : k ≤ 8) (hx : ¬ ∃ s : Nat, s < k ∧ x = nI s) (e : h 1 13 = nI k) {Q : Int32 → Hp → Prop} (q : Q 0 h) : F_X8_isStar x h Q := by
  unfold F_X8_isStar
  rw [within_iff, e]
  refine ⟨b01_n _, ?_⟩
  rw [(b01_0 _).mpr (fun z => hx ((star_c hk).mp z))]
  exact q
theorem nav_c {x : Int32} : (0 ≤ x ∧ x ≤ 6) ↔ ∃ n : Nat, n < 7 ∧ x = nI n := by
  constructor
  · intro h
    obtain ⟨j, hj, rfl⟩ := ofN (M := 6) (n := 6) (by decide) h
    exact ⟨j, by omega, rfl⟩
  · rintro ⟨n, hn, rfl⟩
    exact ⟨nI_pos' (by omega), by rw [show (6 : Int32) = nI 6 from rfl, nI_leI (by omega) (by decide)]; omega⟩
theorem bit_rd : ∀ m, m < 256 → ∀ s, s < 8 → (nI m >>> (nI s &&& 31)) &&& (1 : Int32) = if m.testBit s then 1 else 0 := by decide +kernel
theorem bit_on : ∀ s, s < 8 → (1 : Int32) <<< (nI s &&& 31) = nI (2 ^ s) := by decide +kernel
def hgt (r : Nat → Int32) (s : Nat) : Int32 := 5400 - jabs (r (15 + s) - r 4)
theorem heightC {b s : Nat} {hc : Hp} {v : Nat → Nat → Int32} {r : Nat → Int32} (hs : s < 8) (hd : ∀ s, s < 8 → v 3 s = r (15 + s)) (hl : v 12 0 = r 4) {Q : Int32 → Hp → Prop} (q : Q (hgt r s) (cv b hc v)) : F_X6_heightOf b (nI s) (cv b hc v) Q := by
  refine ⟨vpn hs (by decide), fun x e => ?_⟩
  simp only [clN (show s < 2 ^ 31 by omega), cv_3, cv_12, hd s hs, hl] at e
  rw [e]; exact q
theorem heightM {s : Nat} {h : Hp} (hs : s < 8) {Q : Int32 → Hp → Prop} (q : Q (hgt (h 1) s) h) : F_X8_height (nI s) h Q := by
  unfold F_X8_height
  rw [ix15, clN (by omega), sizeOf_iff]
  exact ⟨vpn (by omega) (by decide), q⟩
def rsn (r : Nat → Int32) (n s : Nat) : Int32 := if nv r n 7 = 0 then (if r (23 + s) = 1 then 3 else if r 3 ≤ hgt r s then 0 else 4) else nv r n 7
theorem how3 {r : Nat → Int32} {n : Nat} (h : rng (nv r n 7) 0 2) : nv r n 7 = 0 ∨ nv r n 7 = 1 ∨ nv r n 7 = 2 := by
  obtain ⟨k, hk, e⟩ := rngN (n := 2) h (by decide)
  rw [e]
  rcases (show k = 0 ∨ k = 1 ∨ k = 2 by omega) with rfl | rfl | rfl
  · exact Or.inl rfl
  · exact Or.inr (Or.inl rfl)
  · exact Or.inr (Or.inr rfl)
theorem cloudC {b s : Nat} {hc : Hp} {v : Nat → Nat → Int32} {r : Nat → Int32} (hs : s < 8) (hV : rvSky v r) {Q : Int32 → Hp → Prop} (q : Q (r (23 + s)) (cv b hc v)) : F_X5_cloudBefore b (nI s) (cv b hc v) Q := by
  obtain ⟨-, ⟨m, hm, e, hb⟩, -⟩ := hV
  unfold F_X5_cloudBefore
  rw [cv_2, e, bit_rd m hm s hs, ← hb s hs]
  exact q
theorem cloud01 {v : Nat → Nat → Int32} {r : Nat → Int32} (hV : rvSky v r) {s : Nat} (hs : s < 8) : r (23 + s) = 0 ∨ r (23 + s) = 1 := by
  obtain ⟨-, ⟨m, hm, e, hb⟩, -⟩ := hV
  rw [hb s hs]
  split
  · exact Or.inr rfl
  · exact Or.inl rfl
theorem reasonC {b n s k : Nat} {hc : Hp} {v : Nat → Nat → Int32} {r : Nat → Int32} (hV : RVv v r) (hI : IV r) (hn : n < 7) (hs : s < k) (hk : k ≤ 8) (ek : r 13 = nI k) {Q : Int32 → Hp → Prop} (q : Q (rsn r n s) (cv b hc v)) : F_X6_reasonAgainst b (nI n) (nI s) (cv b hc v) Q := by
  obtain ⟨hset, hsky, hnav, hcrs, hmisc, hlog⟩ := id hV
  have h7 := (hnav n hn).2.2.2.2.2.2
  have hw := how3 (hI.2.2.2.1 n hn).2.2.2.2.2
  simp only [F_X6_reasonAgainst, isNavC_iff, b01_0, clN (show n < 2 ^ 31 by omega), cv_11, h7]
  refine bf' (fun z => z (nav_c.mpr ⟨n, hn, rfl⟩)) (hasStar_t hk hs (by rw [cv_2, hsky.1, ek]) (bf' (by decide) ⟨vpn hn (by decide), ?_⟩))
  simp only [cv_11, h7]
  unfold rsn at q
  rcases hw with e | e | e
  · simp only [e, if_true] at q ⊢
    refine bf' (by decide) ⟨vpn hn (by decide), bf' (by decide) (cloudC (by omega) hsky ?_)⟩
    rcases cloud01 hsky (show s < 8 by omega) with e2 | e2
    · rw [e2] at q ⊢
      refine bf' (by decide) (heightC (by omega) hsky.2.2 hcrs.1 ?_)
      simp only [cv_1, hset 3 (by decide)]
      rw [if_neg (by decide)] at q
      refine bc _ (fun h1 => ?_) (fun h1 => ?_)
      · rw [if_pos h1] at q; exact q
      · rw [if_neg h1] at q; exact q
    · rw [e2] at q ⊢
      exact bt' rfl (by rw [if_pos rfl] at q; exact q)
  · rw [e] at q ⊢
    exact bt' rfl q
  · rw [e] at q ⊢
    exact bf' (by decide) ⟨vpn hn (by decide), bt' rfl q⟩
theorem reasonC_n {b : Nat} {x1 x2 : Int32} {hc : Hp} {v : Nat → Nat → Int32} (hx : ¬ ∃ n : Nat, n < 7 ∧ x1 = nI n) {Q : Int32 → Hp → Prop} (q : Q (-1) (cv b hc v)) : F_X6_reasonAgainst b x1 x2 (cv b hc v) Q := by
  simp only [F_X6_reasonAgainst, isNavC_iff, b01_0]
  exact bt' (fun z => hx (nav_c.mp z)) q
theorem reasonC_s {b k : Nat} {x1 x2 : Int32} {hc : Hp} {v : Nat → Nat → Int32} (hk : k ≤ 8) (ek : v 2 0 = nI k) (hx : ¬ ∃ s : Nat, s < k ∧ x2 = nI s) {Q : Int32 → Hp → Prop} (q : Q (-1) (cv b hc v)) : F_X6_reasonAgainst b x1 x2 (cv b hc v) Q := by
  simp only [F_X6_reasonAgainst, isNavC_iff]
  exact bc _ (fun _ => q) (fun _ => hasStar_f hk hx (by rw [cv_2, ek]) (bt' rfl q))
theorem reasonM {n s : Nat} {h : Hp} (hn : n < 7) (hs : s < 8) {Q : Int32 → Hp → Prop} (q : Q (rsn (h 1) n s) h) : F_X8_reason (nI n) (nI s) h Q := by
  unfold rsn at q
  unfold F_X8_reason
  rw [show (7 : Int32) = nI 7 from rfl, num hn (by decide), num hn (by decide), ix23, clN (by omega)]
  refine bc _ (fun h1 => ⟨vpn (by omega) (by decide), ?_⟩) (fun h1 => by rw [if_neg h1] at q; exact q)
  rw [if_pos h1] at q
  refine bc _ (fun h2 => by rw [if_pos h2] at q; exact q) (fun h2 => heightM hs ?_)
  rw [if_neg h2] at q
  exact bc _ (fun h3 => by rw [if_pos h3] at q; exact q) (fun h3 => by rw [if_neg h3] at q; exact q)
def errv (r : Nat → Int32) (n : Nat) : Int32 := nv r n 1 + (9 - nv r n 0) * ((3 * nI n + 7 * nv r n 4) - (3 * nI n + 7 * nv r n 4) / 11 * 11 - 5)
theorem errorC {b n : Nat} {hc : Hp} {v : Nat → Nat → Int32} {r : Nat → Int32} (hn : n < 7) (hV : rvNav v r n) {Q : Int32 → Hp → Prop} (q : Q (errv r n) (cv b hc v)) : F_X1_errorOfNextSight b (nI n) (cv b hc v) Q := by
  obtain ⟨a5, a6, a7, a8, a9, a10, a11⟩ := hV
  refine ⟨vpn hn (by decide), fun x e => ⟨vpn hn (by decide), vpn hn (by decide), ?_⟩⟩
  simp only [clN (show n < 2 ^ 31 by omega), cv_9, cv_6, cv_5, a9, a6, a5] at e ⊢
  rw [e]; exact q
theorem errorM {n : Nat} {h : Hp} (hn : n < 7) {Q : Int32 → Hp → Prop} (q : Q (errv (h 1) n) h) : F_X8_error (nI n) h Q := by
  unfold F_X8_error
  rw [show F_X8_number (nI n) (4 : Int32) h = F_X8_number (nI n) (nI 4) h from rfl, num hn (by decide)]
  intro x e
  rw [show F_X8_number (nI n) (1 : Int32) h = F_X8_number (nI n) (nI 1) h from rfl, num hn (by decide), show F_X8_number (nI n) (0 : Int32) h = F_X8_number (nI n) (nI 0) h from rfl, num hn (by decide), e]
  exact q
def awy (r : Nat → Int32) (n s : Nat) : Int32 := jabs (5400 - hgt r s - errv r n)
def est (r : Nat → Int32) (n s : Nat) : Int32 := bd (if nv r n 2 = 1 then r (15 + s) + awy r n s else r (15 + s) - awy r n s)
theorem sub_sub' (a b c : Int32) : a - (b + c) = a - b - c := by
  rw [Int32.sub_eq_add_neg, Int32.sub_eq_add_neg, Int32.sub_eq_add_neg, Int32.neg_add, Int32.sub_eq_add_neg, Int32.add_assoc]
theorem reckonC {b n s : Nat} {hc : Hp} {v : Nat → Nat → Int32} {r : Nat → Int32} (hV : RVv v r) (hn : n < 7) (hs : s < 8) {Q : Int32 → Hp → Prop} (q : Q (est r n s) (cv b hc v)) : F_X6_reckon b (nI n) (nI s) (cv b hc v) Q := by
  obtain ⟨hset, hsky, hnav, hcrs, hmisc, hlog⟩ := id hV
  refine heightC hs hsky.2.2 hcrs.1 (errorC hn (hnav n hn) (fun x5 e5 x6 e6 => ⟨vpn hs (by decide), fun x8 e8 => ⟨vpn hn (by decide), ?_⟩⟩))
  simp only [clN (show n < 2 ^ 31 by omega), clN (show s < 2 ^ 31 by omega), cv_3, cv_7, hsky.2.2 s hs, (hnav n hn).2.2.1] at e8 ⊢
  rw [e5, sub_sub'] at e6
  rw [e8, e6]
  unfold est awy at q
  refine bc _ (fun h1 => ?_) (fun h1 => ?_)
  · rw [kept_iff]; rw [if_pos h1] at q; exact q
  · rw [kept_iff]; rw [if_neg h1] at q; exact q
theorem wouldM {n s : Nat} {h : Hp} (hn : n < 7) (hs : s < 8) {Q : Int32 → Hp → Prop} (q : Q (est (h 1) n s) h) : F_X8_wouldBelieve (nI n) (nI s) h Q := by
  refine heightM hs (errorM hn ?_)
  rw [sizeOf_iff, ix15, clN (show 15 + s < 2 ^ 31 by omega)]
  refine ⟨vpn (by omega) (by decide), fun x8 e8 => ?_⟩
  rw [show F_X8_number (nI n) (2 : Int32) h = F_X8_number (nI n) (nI 2) h from rfl, num hn (by decide), bounded_iff, bounded_iff, e8]
  unfold est awy at q
  refine bc _ (fun h1 => ?_) (fun h1 => ?_)
  · rw [if_pos h1] at q; exact q
  · rw [if_neg h1] at q; exact q
