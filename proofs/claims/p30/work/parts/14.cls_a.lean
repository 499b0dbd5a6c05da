theorem cu_0 {b : Nat} {h : Hp} {v : Nat → Nat → Int32} {f : Nat → Int32} : up1 (cv b h v) b f = cv b h (up1 v 0 f) := cv_up0 f
theorem cv_1 {b : Nat} {h : Hp} {v : Nat → Nat → Int32} : cv b h v (b + 1) = v 1 := cv_at (by decide)
theorem cu_1 {b : Nat} {h : Hp} {v : Nat → Nat → Int32} {f : Nat → Int32} : up1 (cv b h v) (b + 1) f = cv b h (up1 v 1 f) := cv_up (by decide) f
theorem cv_2 {b : Nat} {h : Hp} {v : Nat → Nat → Int32} : cv b h v (b + 2) = v 2 := cv_at (by decide)
theorem cu_2 {b : Nat} {h : Hp} {v : Nat → Nat → Int32} {f : Nat → Int32} : up1 (cv b h v) (b + 2) f = cv b h (up1 v 2 f) := cv_up (by decide) f
theorem cv_3 {b : Nat} {h : Hp} {v : Nat → Nat → Int32} : cv b h v (b + 3) = v 3 := cv_at (by decide)
theorem cu_3 {b : Nat} {h : Hp} {v : Nat → Nat → Int32} {f : Nat → Int32} : up1 (cv b h v) (b + 3) f = cv b h (up1 v 3 f) := cv_up (by decide) f
theorem cv_4 {b : Nat} {h : Hp} {v : Nat → Nat → Int32} : cv b h v (b + 4) = v 4 := cv_at (by decide)
theorem cu_4 {b : Nat} {h : Hp} {v : Nat → Nat → Int32} {f : Nat → Int32} : up1 (cv b h v) (b + 4) f = cv b h (up1 v 4 f) := cv_up (by decide) f
theorem cv_5 {b : Nat} {h : Hp} {v : Nat → Nat → Int32} : cv b h v (b + 5) = v 5 := cv_at (by decide)
theorem cu_5 {b : Nat} {h : Hp} {v : Nat → Nat → Int32} {f : Nat → Int32} : up1 (cv b h v) (b + 5) f = cv b h (up1 v 5 f) := cv_up (by decide) f
theorem cv_6 {b : Nat} {h : Hp} {v : Nat → Nat → Int32} : cv b h v (b + 6) = v 6 := cv_at (by decide)
theorem cu_6 {b : Nat} {h : Hp} {v : Nat → Nat → Int32} {f : Nat → Int32} : up1 (cv b h v) (b + 6) f = cv b h (up1 v 6 f) := cv_up (by decide) f
theorem cv_7 {b : Nat} {h : Hp} {v : Nat → Nat → Int32} : cv b h v (b + 7) = v 7 := cv_at (by decide)
theorem cu_7 {b : Nat} {h : Hp} {v : Nat → Nat → Int32} {f : Nat → Int32} : up1 (cv b h v) (b + 7) f = cv b h (up1 v 7 f) := cv_up (by decide) f
theorem cv_8 {b : Nat} {h : Hp} {v : Nat → Nat → Int32} : cv b h v (b + 8) = v 8 := cv_at (by decide)
theorem cu_8 {b : Nat} {h : Hp} {v : Nat → Nat → Int32} {f : Nat → Int32} : up1 (cv b h v) (b + 8) f = cv b h (up1 v 8 f) := cv_up (by decide) f
theorem cv_9 {b : Nat} {h : Hp} {v : Nat → Nat → Int32} : cv b h v (b + 9) = v 9 := cv_at (by decide)
theorem cu_9 {b : Nat} {h : Hp} {v : Nat → Nat → Int32} {f : Nat → Int32} : up1 (cv b h v) (b + 9) f = cv b h (up1 v 9 f) := cv_up (by decide) f
theorem cv_10 {b : Nat} {h : Hp} {v : Nat → Nat → Int32} : cv b h v (b + 10) = v 10 := cv_at (by decide)
theorem cu_10 {b : Nat} {h : Hp} {v : Nat → Nat → Int32} {f : Nat → Int32} : up1 (cv b h v) (b + 10) f = cv b h (up1 v 10 f) := cv_up (by decide) f
theorem cv_11 {b : Nat} {h : Hp} {v : Nat → Nat → Int32} : cv b h v (b + 11) = v 11 := cv_at (by decide)
theorem cu_11 {b : Nat} {h : Hp} {v : Nat → Nat → Int32} {f : Nat → Int32} : up1 (cv b h v) (b + 11) f = cv b h (up1 v 11 f) := cv_up (by decide) f
theorem cv_12 {b : Nat} {h : Hp} {v : Nat → Nat → Int32} : cv b h v (b + 12) = v 12 := cv_at (by decide)
theorem cu_12 {b : Nat} {h : Hp} {v : Nat → Nat → Int32} {f : Nat → Int32} : up1 (cv b h v) (b + 12) f = cv b h (up1 v 12 f) := cv_up (by decide) f
theorem cv_13 {b : Nat} {h : Hp} {v : Nat → Nat → Int32} : cv b h v (b + 13) = v 13 := cv_at (by decide)
theorem cu_13 {b : Nat} {h : Hp} {v : Nat → Nat → Int32} {f : Nat → Int32} : up1 (cv b h v) (b + 13) f = cv b h (up1 v 13 f) := cv_up (by decide) f
theorem cv_14 {b : Nat} {h : Hp} {v : Nat → Nat → Int32} : cv b h v (b + 14) = v 14 := cv_at (by decide)
theorem cu_14 {b : Nat} {h : Hp} {v : Nat → Nat → Int32} {f : Nat → Int32} : up1 (cv b h v) (b + 14) f = cv b h (up1 v 14 f) := cv_up (by decide) f
theorem up1_1 (h : Hp) (r : Nat → Int32) : up1 h 1 r 1 = r := up1_s h 1 r
theorem rngN {x : Int32} {n : Nat} (h : rng x 0 n) (hn : n < 2 ^ 31) : ∃ k : Nat, k ≤ n ∧ x = nI k := by
  refine ⟨x.toInt.toNat, by have := h.2; have := h.1; omega, ?_⟩
  rw [fa_eq, nI_toInt (by have := h.2; have := h.1; omega)]
  have := h.1
  omega
theorem rvSet_c {v v' : Nat → Nat → Int32} {r r' : Nat → Int32} (hv : ∀ j, j < 4 → v' 1 j = v 1 j) (hr : ∀ k, k < 4 → r' k = r k) (h : rvSet v r) : rvSet v' r' := fun j hj => by rw [hv j hj, hr j hj]; exact h j hj
theorem rvSky_c {v v' : Nat → Nat → Int32} {r r' : Nat → Int32} (h2 : ∀ j, j < 2 → v' 2 j = v 2 j) (h3 : ∀ s, s < 8 → v' 3 s = v 3 s) (h13 : r' 13 = r 13) (hr : ∀ k, 15 ≤ k → k < 31 → r' k = r k) (h : rvSky v r) : rvSky v' r' := by
  obtain ⟨a, ⟨m, hm, e, c⟩, d⟩ := h
  exact ⟨by rw [h2 0 (by decide), h13]; exact a, ⟨m, hm, by rw [h2 1 (by decide)]; exact e, fun s hs => by rw [hr _ (by omega) (by omega)]; exact c s hs⟩, fun s hs => by rw [h3 s hs, hr _ (by omega) (by omega)]; exact d s hs⟩
theorem rvNav_c {v v' : Nat → Nat → Int32} {r r' : Nat → Int32} {n : Nat} (hv : ∀ o, 5 ≤ o → o ≤ 11 → v' o n = v o n) (hr : ∀ f, f < 8 → nv r' n f = nv r n f) (h : rvNav v r n) : rvNav v' r' n := by
  obtain ⟨a5, a6, a7, a8, a9, a10, a11⟩ := h
  exact ⟨by rw [hv 5 (by decide) (by decide), hr 0 (by decide)]; exact a5, by rw [hv 6 (by decide) (by decide), hr 1 (by decide)]; exact a6, by rw [hv 7 (by decide) (by decide), hr 2 (by decide)]; exact a7, by rw [hv 8 (by decide) (by decide), hr 3 (by decide)]; exact a8, by rw [hv 9 (by decide) (by decide), hr 4 (by decide)]; exact a9, by rw [hv 10 (by decide) (by decide), hr 5 (by decide), hr 6 (by decide)]; exact a10, by rw [hv 11 (by decide) (by decide), hr 7 (by decide)]; exact a11⟩
theorem rvCrs_c {v v' : Nat → Nat → Int32} {r r' : Nat → Int32} (hv : ∀ j, j < 4 → v' 12 j = v 12 j) (hr : ∀ k, 4 ≤ k → k < 9 → r' k = r k) (h : rvCrs v r) : rvCrs v' r' := by
  obtain ⟨a, b, c, d⟩ := h
  exact ⟨by rw [hv 0 (by decide), hr 4 (by decide) (by decide)]; exact a, by rw [hv 1 (by decide), hr 5 (by decide) (by decide), hr 6 (by decide) (by decide)]; exact b, by rw [hv 2 (by decide), hr 7 (by decide) (by decide)]; exact c, by rw [hv 3 (by decide), hr 8 (by decide) (by decide)]; exact d⟩
theorem rvMisc_c {v v' : Nat → Nat → Int32} {r r' : Nat → Int32} (hv : ∀ j, 5 ≤ j → j < 8 → v' 0 j = v 0 j) (h9 : r' 9 = r 9) (h11 : r' 11 = r 11) (h12 : r' 12 = r 12) (h : rvMisc v r) : rvMisc v' r' := by
  obtain ⟨a, b, c⟩ := h
  exact ⟨by rw [hv 5 (by decide) (by decide), h9]; exact a, by rw [hv 6 (by decide) (by decide), h11]; exact b, by rw [hv 7 (by decide) (by decide), h12]; exact c⟩
theorem rvLog_c {v v' : Nat → Nat → Int32} {r r' : Nat → Int32} (hv : ∀ j, j < 32 → v' 14 j = v 14 j) (h9 : r' 9 = r 9) (h14 : r' 14 = r 14) (hr : ∀ k, 87 ≤ k → k < 119 → r' k = r k) (h : rvLog v r) : rvLog v' r' := by
  obtain ⟨nt, a, b, c, d⟩ := h
  refine ⟨nt, a, by rw [h9]; exact b, by rw [h14]; exact c, fun j k hj hk => ?_⟩
  have : (nt - 1 - j) % 8 < 8 := Nat.mod_lt _ (by decide)
  rw [hv _ (by omega), hr _ (by omega) (by omega)]
  exact d j k hj hk
theorem ivSet_c {r r' : Nat → Int32} (hr : ∀ k, k < 4 → r' k = r k) (h : ivSet r) : ivSet r' := by
  unfold ivSet; rw [hr 0 (by decide), hr 1 (by decide), hr 2 (by decide), hr 3 (by decide)]; exact h
theorem ivCrs_c {r r' : Nat → Int32} (hr : ∀ k, 4 ≤ k → k < 9 → r' k = r k) (h : ivCrs r) : ivCrs r' := by
  unfold ivCrs; rw [hr 4 (by decide) (by decide), hr 5 (by decide) (by decide), hr 6 (by decide) (by decide), hr 7 (by decide) (by decide), hr 8 (by decide) (by decide)]; exact h
theorem ivSky_c {r r' : Nat → Int32} (h13 : r' 13 = r 13) (hr : ∀ k, 15 ≤ k → k < 23 → r' k = r k) (h : ivSky r) : ivSky r' :=
  ⟨by rw [h13]; exact h.1, fun s hs => by rw [hr _ (by omega) (by omega)]; exact h.2 s hs⟩
theorem ivNav_c {r r' : Nat → Int32} {n : Nat} (hr : ∀ f, f < 8 → nv r' n f = nv r n f) (h : ivNav r n) : ivNav r' n := by
  unfold ivNav; rw [hr 0 (by decide), hr 1 (by decide), hr 2 (by decide), hr 5 (by decide), hr 6 (by decide), hr 7 (by decide)]; exact h
theorem sm7_c {r r' : Nat → Int32} (hr : ∀ n, n < 7 → nv r' n 4 = nv r n 4) : sm7 r' = sm7 r := by
  unfold sm7; rw [hr 0 (by decide), hr 1 (by decide), hr 2 (by decide), hr 3 (by decide), hr 4 (by decide), hr 5 (by decide), hr 6 (by decide)]
theorem nv_c {r r' : Nat → Int32} {n : Nat} (hn : n < 7) (hr : ∀ k, 31 ≤ k → k < 87 → r' k = r k) : ∀ f, f < 8 → nv r' n f = nv r n f := fun f hf => hr _ (by omega) (by omega)
theorem ix15 (k : Nat) : (15 : Int32) + nI k = nI (15 + k) := nI_add 15 k
theorem ix23 (k : Nat) : (23 : Int32) + nI k = nI (23 + k) := nI_add 23 k
theorem rng_in {x lo hi : Int32} (h : lo ≤ x ∧ x ≤ hi) {l u : Int} (hl : lo.toInt = l) (hu : hi.toInt = u) : rng x l u := by
  have h1 := (fa_le _ _).mp h.1
  have h2 := (fa_le _ _).mp h.2
  exact ⟨by omega, by omega⟩
theorem star_c {x : Int32} {k : Nat} (hk : k ≤ 8) : (0 ≤ x ∧ x ≤ nI k - 1) ↔ ∃ s : Nat, s < k ∧ x = nI s := by
  have e1 : (nI k - 1).toInt = (k : Int) - 1 := pk_sub_toInt (a := k) (b := 1) (by omega) (by decide)
  have e0 : (0 : Int32).toInt = 0 := by decide
  constructor
  · rintro ⟨h1, h2⟩
    rw [fa_le, e0] at h1
    rw [fa_le, e1] at h2
    obtain ⟨s, hs, rfl⟩ := rngN (x := x) (n := 8) ⟨h1, by omega⟩ (by decide)
    rw [nI_toInt (by omega)] at h2
    exact ⟨s, by omega, rfl⟩
  · rintro ⟨s, hs, rfl⟩
    rw [fa_le, fa_le, e0, e1, nI_toInt (by omega)]
    omega
theorem hasStar_t {b : Nat} {h : Hp} {s k : Nat} (hk : k ≤ 8) (hs : s < k) (e : h (b + 2) 0 = nI k) {Q : Int32 → Hp → Prop} (q : Q 1 h) : F_X5_hasStar b (nI s) h Q := by
  refine bf' (nI_pos (by omega)) (bf' ?_ q)
  rw [e, nI_leI (by omega) (by omega)]; omega
theorem hasStar_f {b : Nat} {h : Hp} {x : Int32} {k : Nat} (hk : k ≤ 8) (hx : ¬ ∃ s : Nat, s < k ∧ x = nI s) (e : h (b + 2) 0 = nI k) {Q : Int32 → Hp → Prop} (q : Q 0 h) : F_X5_hasStar b x h Q := by
  refine bc _ (fun _ => q) (fun h0 => bt' ?_ q)
  obtain ⟨j, hj, rfl⟩ := nI_of h0
  rw [e, nI_leI (by omega) (by omega)]
  rcases Nat.lt_or_ge j k with h1 | h1
  · exact absurd ⟨j, h1, rfl⟩ hx
  · exact h1
theorem nav_c {x : Int32} : (0 ≤ x ∧ x ≤ 6) ↔ ∃ n : Nat, n < 7 ∧ x = nI n := by
  constructor
  · intro h
    obtain ⟨j, hj, rfl⟩ := ofN (M := 6) (n := 6) (by decide) h
    exact ⟨j, by omega, rfl⟩
  · rintro ⟨n, hn, rfl⟩
    exact ⟨nI_pos' (by omega), by rw [show (6 : Int32) = nI 6 from rfl, nI_leI (by omega) (by decide)]; omega⟩
theorem bit_rd : ∀ m, m < 256 → ∀ s, s < 8 → (nI m >>> (nI s &&& 31)) &&& (1 : Int32) = if m.testBit s then 1 else 0 := by decide +kernel
theorem bit_on : ∀ s, s < 8 → (1 : Int32) <<< (nI s &&& 31) = nI (2 ^ s) := by decide +kernel
def hgt (r : Nat → Int32) (s : Nat) : Int32 := 5400 - jabs (r (15 + s) - r 4)
theorem heightC {b s : Nat} {hc : Hp} {v : Nat → Nat → Int32} {r : Nat → Int32} (hs : s < 8) (hd : ∀ s, s < 8 → v 3 s = r (15 + s)) (hl : v 12 0 = r 4) {Q : Int32 → Hp → Prop} (q : Q (hgt r s) (cv b hc v)) : F_X6_heightOf b (nI s) (cv b hc v) Q := by
  refine ⟨vpn hs (by decide), fun x e => ?_⟩
  simp only [clN (show s < 2 ^ 31 by omega), cv_3, cv_12, hd s hs, hl] at e
  rw [e]; exact q
def rsn (r : Nat → Int32) (n s : Nat) : Int32 := if nv r n 7 = 0 then (if r (23 + s) = 1 then 3 else if r 3 ≤ hgt r s then 0 else 4) else nv r n 7
theorem how3 {r : Nat → Int32} {n : Nat} (h : rng (nv r n 7) 0 2) : nv r n 7 = 0 ∨ nv r n 7 = 1 ∨ nv r n 7 = 2 := by
  obtain ⟨k, hk, e⟩ := rngN (n := 2) h (by decide)
  rw [e]
  rcases (show k = 0 ∨ k = 1 ∨ k = 2 by omega) with rfl | rfl | rfl
  · exact Or.inl rfl
  · exact Or.inr (Or.inl rfl)
  · exact Or.inr (Or.inr rfl)
theorem cloudC {b s : Nat} {hc : Hp} {v : Nat → Nat → Int32} {r : Nat → Int32} (hs : s < 8) (hV : rvSky v r) {Q : Int32 → Hp → Prop} (q : Q (r (23 + s)) (cv b hc v)) : F_X5_cloudBefore b (nI s) (cv b hc v) Q := by
  obtain ⟨-, ⟨m, hm, e, hb⟩, -⟩ := hV
  unfold F_X5_cloudBefore
  rw [cv_2, e, bit_rd m hm s hs, ← hb s hs]
  exact q
theorem cloud01 {v : Nat → Nat → Int32} {r : Nat → Int32} (hV : rvSky v r) {s : Nat} (hs : s < 8) : r (23 + s) = 0 ∨ r (23 + s) = 1 := by
  obtain ⟨-, ⟨m, hm, e, hb⟩, -⟩ := hV
  rw [hb s hs]
  split
  · exact Or.inr rfl
  · exact Or.inl rfl
theorem reasonC {b n s k : Nat} {hc : Hp} {v : Nat → Nat → Int32} {r : Nat → Int32} (hV : RVv v r) (hI : IV r) (hn : n < 7) (hs : s < k) (hk : k ≤ 8) (ek : r 13 = nI k) {Q : Int32 → Hp → Prop} (q : Q (rsn r n s) (cv b hc v)) : F_X6_reasonAgainst b (nI n) (nI s) (cv b hc v) Q := by
  obtain ⟨hset, hsky, hnav, hcrs, hmisc, hlog⟩ := id hV
  have h7 := (hnav n hn).2.2.2.2.2.2
  have hw := how3 (hI.2.2.2.1 n hn).2.2.2.2.2
  simp only [F_X6_reasonAgainst, isNavC_iff, b01_0, clN (show n < 2 ^ 31 by omega), cv_11, h7]
  refine bf' (fun z => z (nav_c.mpr ⟨n, hn, rfl⟩)) (hasStar_t hk hs (by rw [cv_2, hsky.1, ek]) (bf' (by decide) ⟨vpn hn (by decide), ?_⟩))
  simp only [cv_11, h7]
  unfold rsn at q
  rcases hw with e | e | e
  · simp only [e, if_true] at q ⊢
    refine bf' (by decide) ⟨vpn hn (by decide), bf' (by decide) (cloudC (by omega) hsky ?_)⟩
    rcases cloud01 hsky (show s < 8 by omega) with e2 | e2
    · rw [e2] at q ⊢
      refine bf' (by decide) (heightC (by omega) hsky.2.2 hcrs.1 ?_)
      simp only [cv_1, hset 3 (by decide)]
      rw [if_neg (by decide)] at q
      refine bc _ (fun h1 => ?_) (fun h1 => ?_)
      · rw [if_pos h1] at q; exact q
      · rw [if_neg h1] at q; exact q
    · rw [e2] at q ⊢
      exact bt' rfl (by rw [if_pos rfl] at q; exact q)
  · rw [e] at q ⊢
    exact bt' rfl q
  · rw [e] at q ⊢
    exact bf' (by decide) ⟨vpn hn (by decide), bt' rfl q⟩
theorem reasonC_n {b : Nat} {x1 x2 : Int32} {hc : Hp} {v : Nat → Nat → Int32} (hx : ¬ ∃ n : Nat, n < 7 ∧ x1 = nI n) {Q : Int32 → Hp → Prop} (q : Q (-1) (cv b hc v)) : F_X6_reasonAgainst b x1 x2 (cv b hc v) Q := by
  simp only [F_X6_reasonAgainst, isNavC_iff, b01_0]
  exact bt' (fun z => hx (nav_c.mp z)) q
theorem reasonC_s {b k : Nat} {x1 x2 : Int32} {hc : Hp} {v : Nat → Nat → Int32} (hk : k ≤ 8) (ek : v 2 0 = nI k) (hx : ¬ ∃ s : Nat, s < k ∧ x2 = nI s) {Q : Int32 → Hp → Prop} (q : Q (-1) (cv b hc v)) : F_X6_reasonAgainst b x1 x2 (cv b hc v) Q := by
  simp only [F_X6_reasonAgainst, isNavC_iff]
  exact bc _ (fun _ => q) (fun _ => hasStar_f hk hx (by rw [cv_2, ek]) (bt' rfl q))
def errv (r : Nat → Int32) (n : Nat) : Int32 := nv r n 1 + (9 - nv r n 0) * ((3 * nI n + 7 * nv r n 4) - (3 * nI n + 7 * nv r n 4) / 11 * 11 - 5)
theorem errorC {b n : Nat} {hc : Hp} {v : Nat → Nat → Int32} {r : Nat → Int32} (hn : n < 7) (hV : rvNav v r n) {Q : Int32 → Hp → Prop} (q : Q (errv r n) (cv b hc v)) : F_X1_errorOfNextSight b (nI n) (cv b hc v) Q := by
  obtain ⟨a5, a6, a7, a8, a9, a10, a11⟩ := hV
  refine ⟨vpn hn (by decide), fun x e => ⟨vpn hn (by decide), vpn hn (by decide), ?_⟩⟩
  simp only [clN (show n < 2 ^ 31 by omega), cv_9, cv_6, cv_5, a9, a6, a5] at e ⊢
  rw [e]; exact q
def awy (r : Nat → Int32) (n s : Nat) : Int32 := jabs (5400 - hgt r s - errv r n)
def est (r : Nat → Int32) (n s : Nat) : Int32 := bd (if nv r n 2 = 1 then r (15 + s) + awy r n s else r (15 + s) - awy r n s)
theorem sub_sub' (a b c : Int32) : a - (b + c) = a - b - c := by
  rw [Int32.sub_eq_add_neg, Int32.sub_eq_add_neg, Int32.sub_eq_add_neg, Int32.neg_add, Int32.sub_eq_add_neg, Int32.add_assoc]
theorem reckonC {b n s : Nat} {hc : Hp} {v : Nat → Nat → Int32} {r : Nat → Int32} (hV : RVv v r) (hn : n < 7) (hs : s < 8) {Q : Int32 → Hp → Prop} (q : Q (est r n s) (cv b hc v)) : F_X6_reckon b (nI n) (nI s) (cv b hc v) Q := by
  obtain ⟨hset, hsky, hnav, hcrs, hmisc, hlog⟩ := id hV
  refine heightC hs hsky.2.2 hcrs.1 (errorC hn (hnav n hn) (fun x5 e5 x6 e6 => ⟨vpn hs (by decide), fun x8 e8 => ⟨vpn hn (by decide), ?_⟩⟩))
  simp only [clN (show n < 2 ^ 31 by omega), clN (show s < 2 ^ 31 by omega), cv_3, cv_7, hsky.2.2 s hs, (hnav n hn).2.2.1] at e8 ⊢
  rw [e5, sub_sub'] at e6
  rw [e8, e6]
  unfold est awy at q
  refine bc _ (fun h1 => ?_) (fun h1 => ?_)
  · rw [kept_iff]; rw [if_pos h1] at q; exact q
  · rw [kept_iff]; rw [if_neg h1] at q; exact q
/-- one navigator's number changes: the row's and the class's -/
theorem RV_nav {v v' : Nat → Nat → Int32} {r r' : Nat → Int32} {n : Nat} (hn : n < 7) (hV : RVv v r) (hv : ∀ o j, (o < 5 ∨ 11 < o) → v' o j = v o j) (hvn : ∀ o j, j ≠ n → v' o j = v o j) (hr : ∀ k, (k < 31 + 8 * n ∨ 39 + 8 * n ≤ k) → k ≠ 10 → r' k = r k) (h1 : rvNav v' r' n) : RVv v' r' := by
  obtain ⟨hset, hsky, hnav, hcrs, hmisc, hlog⟩ := hV
  refine ⟨rvSet_c (fun j hj => hv _ _ (by decide)) (fun j hj => hr _ (by omega) (by omega)) hset, rvSky_c (fun j hj => hv _ _ (by decide)) (fun j hj => hv _ _ (by decide)) (hr _ (by omega) (by omega)) (fun k h1 h2 => hr _ (by omega) (by omega)) hsky, fun i hi => ?_, rvCrs_c (fun j hj => hv _ _ (by decide)) (fun k h1 h2 => hr _ (by omega) (by omega)) hcrs, rvMisc_c (fun j h1 h2 => hv _ _ (by decide)) (hr _ (by omega) (by omega)) (hr _ (by omega) (by omega)) (hr _ (by omega) (by omega)) hmisc, rvLog_c (fun j hj => hv _ _ (by decide)) (hr _ (by omega) (by omega)) (hr _ (by omega) (by omega)) (fun k h1 h2 => hr _ (by omega) (by omega)) hlog⟩
  by_cases hin : i = n
  · subst hin; exact h1
  · exact rvNav_c (fun o _ _ => hvn o i hin) (fun f hf => hr _ (by omega) (by omega)) (hnav i hi)
theorem IV_nav {r r' : Nat → Int32} {n : Nat} (hn : n < 7) (hI : IV r) (hr : ∀ k, (k < 31 + 8 * n ∨ 39 + 8 * n ≤ k) → k ≠ 10 → r' k = r k) (h1 : ivNav r' n) (hs : r' 10 = sm7 r') : IV r' := by
  obtain ⟨iset, icrs, isky, inav, isum⟩ := hI
  refine ⟨ivSet_c (fun j hj => hr _ (by omega) (by omega)) iset, ivCrs_c (fun k h1 h2 => hr _ (by omega) (by omega)) icrs, ivSky_c (hr _ (by omega) (by omega)) (fun k h1 h2 => hr _ (by omega) (by omega)) isky, fun i hi => ?_, hs⟩
  by_cases hin : i = n
  · subst hin; exact h1
  · exact ivNav_c (fun f hf => hr _ (by omega) (by omega)) (inav i hi)
theorem sm7_same {r r' : Nat → Int32} {n : Nat} (hn : n < 7) (hr : ∀ k, (k < 31 + 8 * n ∨ 39 + 8 * n ≤ k) → k ≠ 10 → r' k = r k) (h4 : nv r' n 4 = nv r n 4) : sm7 r' = sm7 r := by
  refine sm7_c (fun i hi => ?_)
  by_cases hin : i = n
  · subst hin; exact h4
  · exact hr _ (by omega) (by omega)
theorem est_rng (r : Nat → Int32) (n s : Nat) : rng (est r n s) (-5400) 5400 := bd_rng _
theorem told_nn {x : Int32} (h : rng x (-5400) 5400) : ¬ x + 5400 < 0 := by
  rw [fa_lt, fb_addI (by have := h.1; have := h.2; rw [show (5400 : Int32).toInt = 5400 by decide]; omega) (by have := h.1; have := h.2; rw [show (5400 : Int32).toInt = 5400 by decide]; omega), show (5400 : Int32).toInt = 5400 by decide, show (0 : Int32).toInt = 0 by decide]
  have := h.1
  omega
theorem ne_9999 {x : Int32} (h : rng x (-5400) 5400) : ¬ x = 9999 := by
  intro e
  have := h.2
  rw [e, show (9999 : Int32).toInt = 9999 by decide] at this
  omega
theorem rsn_nn {r : Nat → Int32} {n s : Nat} (h : rng (nv r n 7) 0 2) : 0 ≤ rsn r n s := by
  unfold rsn
  rcases how3 h with e | e | e
  · rw [if_pos e]
    split
    · decide
    · split <;> decide
  · rw [if_neg (by rw [e]; decide), e]; decide
  · rw [if_neg (by rw [e]; decide), e]; decide
theorem tellC {b n s k : Nat} {hc : Hp} {v : Nat → Nat → Int32} {r : Nat → Int32} (hV : RVv v r) (hI : IV r) (hn : n < 7) (hs : s < k) (hk : k ≤ 8) (ek : r 13 = nI k) {Q : Int32 → Hp → Prop} (q : Q (if rsn r n s = 0 then est r n s + 5400 else -5) (cv b hc v)) : F_X6_tellSight b (nI n) (nI s) (cv b hc v) Q := by
  have h0 := rsn_nn (s := s) (hI.2.2.2.1 n hn).2.2.2.2.2
  refine reasonC hV hI hn hs hk ek (bt' h0 (bc _ (fun h1 => ?_) (fun h1 => ?_)))
  · have e0 : rsn r n s = 0 := by
      rw [fa_eq]; rw [fa_le] at h0 h1; omega
    rw [if_pos e0] at q
    exact reckonC hV hn (by omega) q
  · have e0 : ¬ rsn r n s = 0 := fun e => h1 (by rw [e]; decide)
    rw [if_neg e0] at q
    exact q
theorem sm7_inc {r r' : Nat → Int32} {n : Nat} (hn : n < 7) (ho : ∀ m, m < 7 → m ≠ n → nv r' m 4 = nv r m 4) (h1 : nv r' n 4 = nv r n 4 + 1) : sm7 r' = sm7 r + 1 := by
  unfold sm7
  rcases (show n = 0 ∨ n = 1 ∨ n = 2 ∨ n = 3 ∨ n = 4 ∨ n = 5 ∨ n = 6 by omega) with rfl | rfl | rfl | rfl | rfl | rfl | rfl
  · rw [h1, ho 1 (by decide) (by decide), ho 2 (by decide) (by decide), ho 3 (by decide) (by decide), ho 4 (by decide) (by decide), ho 5 (by decide) (by decide), ho 6 (by decide) (by decide)]; ac_rfl
  · rw [h1, ho 0 (by decide) (by decide), ho 2 (by decide) (by decide), ho 3 (by decide) (by decide), ho 4 (by decide) (by decide), ho 5 (by decide) (by decide), ho 6 (by decide) (by decide)]; ac_rfl
  · rw [h1, ho 0 (by decide) (by decide), ho 1 (by decide) (by decide), ho 3 (by decide) (by decide), ho 4 (by decide) (by decide), ho 5 (by decide) (by decide), ho 6 (by decide) (by decide)]; ac_rfl
  · rw [h1, ho 0 (by decide) (by decide), ho 1 (by decide) (by decide), ho 2 (by decide) (by decide), ho 4 (by decide) (by decide), ho 5 (by decide) (by decide), ho 6 (by decide) (by decide)]; ac_rfl
  · rw [h1, ho 0 (by decide) (by decide), ho 1 (by decide) (by decide), ho 2 (by decide) (by decide), ho 3 (by decide) (by decide), ho 5 (by decide) (by decide), ho 6 (by decide) (by decide)]; ac_rfl
  · rw [h1, ho 0 (by decide) (by decide), ho 1 (by decide) (by decide), ho 2 (by decide) (by decide), ho 3 (by decide) (by decide), ho 4 (by decide) (by decide), ho 6 (by decide) (by decide)]; ac_rfl
  · rw [h1, ho 0 (by decide) (by decide), ho 1 (by decide) (by decide), ho 2 (by decide) (by decide), ho 3 (by decide) (by decide), ho 4 (by decide) (by decide), ho 5 (by decide) (by decide)]; ac_rfl
