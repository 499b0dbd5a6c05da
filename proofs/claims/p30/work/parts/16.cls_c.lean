/-! The end of a night, both sides. -/
theorem writeC {b nt : Nat} {hc : Hp} {v : Nat → Nat → Int32} {x2 x3 x4 : Int32} (hnt : nt < 999) {Q : Hp → Prop} (q : Q (cv b hc (up1 v 14 (upd (upd (upd (upd (v 14) (nt % 8 * 4) (nI nt)) (nt % 8 * 4 + 1) x2) (nt % 8 * 4 + 2) x3) (nt % 8 * 4 + 3) x4)))) : F_X3_write b (nI nt) x2 x3 x4 (cv b hc v) Q := by
  intro x e
  have ex : x = nI (nt % 8 * 4) := by
    rw [e, show (8 : Int32) = nI 8 from rfl, pk_rem (by omega) (by decide) (by decide), show (4 : Int32) = nI 4 from rfl, pk_mul]
  have e1 : nI (nt % 8 * 4) + 1 = nI (nt % 8 * 4 + 1) := nI_add _ 1
  have e2 : nI (nt % 8 * 4) + 2 = nI (nt % 8 * 4 + 2) := nI_add _ 2
  have e3 : nI (nt % 8 * 4) + 3 = nI (nt % 8 * 4 + 3) := nI_add _ 3
  simp only [ex, e1, e2, e3, cv_14, cu_14, forall_eq, up1_s, up1_up1, clN (show nt % 8 * 4 < 2 ^ 31 by omega), clN (show nt % 8 * 4 + 1 < 2 ^ 31 by omega), clN (show nt % 8 * 4 + 2 < 2 ^ 31 by omega), clN (show nt % 8 * 4 + 3 < 2 ^ 31 by omega)]
  exact ⟨vpn (by omega) (by decide), vpn (by omega) (by decide), vpn (by omega) (by decide), vpn (by omega) (by decide), q⟩
def bel (r : Nat → Int32) : Int32 := if r 5 = 1 then r 6 + 5400 else -6
theorem belC {v : Nat → Nat → Int32} {r : Nat → Int32} (h : v 12 1 = (if r 5 = 1 then r 6 else 9999)) (h6 : rng (r 6) (-5400) 5400) : (if v 12 1 = 9999 then (-6 : Int32) else v 12 1 + 5400) = bel r := by
  unfold bel
  rw [h]
  by_cases h5 : r 5 = 1
  · rw [if_pos h5, if_pos h5, if_neg (ne_9999 h6)]
  · rw [if_neg h5, if_neg h5, if_pos rfl]
theorem eV_o {i o : Nat} {v : Nat → Nat → Int32} (h : o ≠ 8 ∧ o ≠ 10 ∧ o ≠ 11) : eV i v o = v o := by
  funext j
  unfold eV
  rw [if_neg h.2.1, if_neg h.2.2, if_neg h.1]
theorem shl_lo {r : Nat → Int32} {k : Nat} (h : k ≤ 90) : shl 3 r k = r k := by
  unfold shl
  rw [if_neg (by omega)]
theorem shl_hi {r : Nat → Int32} {k : Nat} (h : 90 < k) (h2 : k < 119) : shl 3 r k = r (k - 4) := by
  unfold shl
  rw [if_pos (by omega)]
theorem rng0 {lo hi : Int} (h : lo ≤ 0) (h2 : 0 ≤ hi) : rng 0 lo hi := by
  unfold rng
  rw [show (0 : Int32).toInt = 0 by decide]
  exact ⟨h, h2⟩
/-- the reference's row before the navigators' loop -/
def eR (nt : Nat) (r : Nat → Int32) : Nat → Int32 := upd (upd (upd (upd (upd (shl 3 r) 87 (nI nt)) 88 (r 4 + 5400)) 89 (bel r)) 90 (r 12)) 14 (nI (min (nt + 1) 8))
theorem eR_lo {nt k : Nat} {r : Nat → Int32} (h : k < 87) (h2 : k ≠ 14) : eR nt r k = r k := by
  unfold eR
  rw [upd_n' h2, upd_n' (by omega), upd_n' (by omega), upd_n' (by omega), upd_n' (by omega), shl_lo (by omega)]
def eW (nt : Nat) (v : Nat → Nat → Int32) (r : Nat → Int32) : Nat → Nat → Int32 := up1 v 14 (upd (upd (upd (upd (v 14) (nt % 8 * 4) (nI nt)) (nt % 8 * 4 + 1) (r 4 + 5400)) (nt % 8 * 4 + 2) (bel r)) (nt % 8 * 4 + 3) (r 12))
theorem min_nI {nt : Nat} (h : nt ≤ 999) : (8 ≤ nt → nI (min nt 8) + 0 = nI (min (nt + 1) 8)) ∧ (¬ 8 ≤ nt → nI (min nt 8) + 1 = nI (min (nt + 1) 8)) := by
  refine ⟨fun q => ?_, fun q => ?_⟩
  · rw [Int32.add_zero, show min nt 8 = min (nt + 1) 8 by omega]
  · rw [nI_1, show min nt 8 + 1 = min (nt + 1) 8 by omega]
theorem le8_nI {nt : Nat} : (8 : Int32) ≤ nI (min nt 8) ↔ 8 ≤ nt := by
  rw [show (8 : Int32) = nI 8 from rfl, nI_leI (by decide) (by omega)]
  omega
theorem endsC_run {b nt : Nat} {hc : Hp} {v : Nat → Nat → Int32} {r : Nat → Int32} (hV : RVv v r) (hI : IV r) (hnt : nt < 999) (e9 : r 9 = nI nt) {Q : Int32 → Hp → Prop} (q : Q (nI (nt + 1)) (cv b hc (up1 (eV 7 (eW nt v r)) 0 (upd (upd (v 0) 7 0) 5 (nI (nt + 1)))))) : F_X6_endNight b (cv b hc v) Q := by
  obtain ⟨m5, m6, m7⟩ := hV.2.2.2.2.1
  obtain ⟨c0, c1, c2, c3⟩ := hV.2.2.2.1
  have hb := belC c1 hI.2.1.2.2.1
  unfold F_X6_endNight
  simp only [told_iff, cv_12, cv_0, m5, m7, e9, c0, hb]
  refine bt' ?_ (writeC hnt ?_)
  · rw [show (999 : Int32) = nI 999 from rfl, nI_ltI (by omega) (by decide)]; exact hnt
  · have hz := endsC (b := b) (hc := hc) (v := eW nt v r) (Q := fun h_7 : Hp => ∀ h_8 : Hp, h_8 = up1 h_7 b (upd (h_7 b) 7 0) → ∀ h_9 : Hp, h_9 = up1 h_8 b (upd (h_8 b) 5 ((h_8 b 5) + 1)) → Q (h_9 b 5) h_9) (by
      have e0 : eV 7 (eW nt v r) 0 = v 0 := (eV_o (by decide)).trans (up1_n _ _ (by decide))
      simp only [forall_eq, cv_0, cu_0, up1_s, up1_up1, e0, upd_s', upd_n' (show (5 : Nat) ≠ 7 by decide), m5, e9, nI_1]
      exact q) 7 0 rfl
    rw [eV_0] at hz
    exact ⟨8, hz⟩
/-! The median: ranks. -/
theorem ct_lt {p q : Nat → Bool} {n i : Nat} (hi : i < n) (hp : p i = false) (hq : q i = true) (hs : ∀ k, k < n → p k = true → q k = true) : fb_ct p n < fb_ct q n := by
  have h1 : fb_ct (fun k => p k || decide (k = i)) n = fb_ct p n + fb_ct (fun k => decide (k = i)) n := fb_ct_or (fun k hk z => by
    have hki : k = i := of_decide_eq_true z.2
    rw [hki, hp] at z
    exact Bool.noConfusion z.1)
  have h2 : 0 < fb_ct (fun k => decide (k = i)) n := fb_ct_pos.mpr ⟨i, hi, by simp⟩
  have h3 : fb_ct (fun k => p k || decide (k = i)) n ≤ fb_ct q n := fb_ct_sub (fun k hk z => by
    rcases (Bool.or_eq_true _ _).mp z with z1 | z1
    · exact hs k hk z1
    · rw [of_decide_eq_true z1]; exact hq)
  omega
def tpr (r : Nat → Int32) (n : Nat) : Bool := decide (nv r n 7 = 0 ∧ nv r n 5 = 1)
theorem tpr_i {r : Nat → Int32} {n : Nat} : tpr r n = true ↔ (nv r n 7 = 0 ∧ nv r n 5 = 1) := by unfold tpr; rw [decide_eq_true_eq]
def PB (r : Nat → Int32) (w : Int32) : Nat → Bool := fun i => decide (¬ nI i = w ∧ nv r i 7 = 0 ∧ nv r i 5 = 1)
def LB (r : Nat → Int32) (i j : Nat) : Bool := decide (nv r i 6 < nv r j 6 ∨ (nv r i 6 = nv r j 6 ∧ i < j))
theorem PB_i {r : Nat → Int32} {w : Int32} {n : Nat} : PB r w n = true ↔ (¬ nI n = w ∧ nv r n 7 = 0 ∧ nv r n 5 = 1) := by unfold PB; rw [decide_eq_true_eq]
theorem LB_i {r : Nat → Int32} {i j : Nat} : LB r i j = true ↔ (nv r i 6 < nv r j 6 ∨ (nv r i 6 = nv r j 6 ∧ i < j)) := by unfold LB; rw [decide_eq_true_eq]
def rkp (r : Nat → Int32) (w : Int32) (j : Nat) : Nat → Bool := fun i => PB r w i && LB r i j
def rk (r : Nat → Int32) (w : Int32) (j : Nat) : Nat := fb_ct (rkp r w j) 7
def cp (r : Nat → Int32) (w : Int32) : Nat := fb_ct (PB r w) 7
theorem LB_irr (r : Nat → Int32) (i : Nat) : LB r i i = false := by
  unfold LB
  rw [decide_eq_false_iff_not, fa_lt]
  omega
theorem LB_trans {r : Nat → Int32} {i j k : Nat} (h1 : LB r i j = true) (h2 : LB r j k = true) : LB r i k = true := by
  unfold LB at *
  rw [decide_eq_true_eq, fa_lt, fa_eq] at *
  omega
theorem LB_tot {r : Nat → Int32} {i j : Nat} (h : i ≠ j) : LB r i j = true ∨ LB r j i = true := by
  unfold LB
  rw [decide_eq_true_eq, decide_eq_true_eq, fa_lt, fa_eq, fa_lt, fa_eq]
  omega
theorem rk_lt {r : Nat → Int32} {w : Int32} {i j : Nat} (hi : i < 7) (hP : PB r w i = true) (h : LB r i j = true) : rk r w i < rk r w j := by
  refine ct_lt hi ?_ ?_ (fun k hk z => ?_)
  · unfold rkp; rw [LB_irr, Bool.and_false]
  · unfold rkp; rw [hP, h]; rfl
  · unfold rkp at *
    rw [Bool.and_eq_true] at *
    exact ⟨z.1, LB_trans z.2 h⟩
theorem rk_cp {r : Nat → Int32} {w : Int32} {i : Nat} (hi : i < 7) (hP : PB r w i = true) : rk r w i < cp r w := by
  refine ct_lt hi ?_ hP (fun k hk z => ?_)
  · unfold rkp; rw [LB_irr, Bool.and_false]
  · unfold rkp at z
    rw [Bool.and_eq_true] at z
    exact z.1
theorem rk_inj {r : Nat → Int32} {w : Int32} {i j : Nat} (hi : i < 7) (hj : j < 7) (hPi : PB r w i = true) (hPj : PB r w j = true) (e : rk r w i = rk r w j) : i = j := by
  by_cases h : i = j
  · exact h
  · rcases LB_tot (r := r) h with q | q
    · have := rk_lt hi hPi q; omega
    · have := rk_lt hj hPj q; omega
theorem rk_onto {r : Nat → Int32} {w : Int32} {y : Nat} (hy : y < cp r w) : ∃ j, j < 7 ∧ PB r w j = true ∧ rk r w j = y := by
  have hc : cp r w ≤ 7 := fb_ct_le _ _
  have hnot := fb_ct_not (PB r w) 7
  have hb : ∀ i, i < 7 → PB r w i = false → fb_ct (fun k => !PB r w k) i < fb_ct (fun k => !PB r w k) 7 := fun i hi h => by
    have h1 := fb_ct_mono (fun k => !PB r w k) (show i + 1 ≤ 7 by omega)
    rw [fb_ct_succ, if_pos (by simp [h])] at h1
    omega
  have hcd : cp r w = fb_ct (PB r w) 7 := rfl
  obtain ⟨j, hj, e⟩ := fb_onto (n := 7) (f := fun i => if PB r w i = true then rk r w i else cp r w + fb_ct (fun k => !PB r w k) i) (fun i hi => by
    by_cases h : PB r w i = true
    · simp only [if_pos h]; have := rk_cp hi h; omega
    · simp only [if_neg h]; have := hb i hi (by simpa using h); omega) (fun i j hij hj2 => by
    have hi : i < 7 := by omega
    by_cases h : PB r w i = true
    · by_cases h2 : PB r w j = true
      · simp only [if_pos h, if_pos h2]; intro z; have := rk_inj hi hj2 h h2 z; omega
      · simp only [if_pos h, if_neg h2]; have := rk_cp hi h; omega
    · by_cases h2 : PB r w j = true
      · simp only [if_neg h, if_pos h2]; have := rk_cp hj2 h2; omega
      · simp only [if_neg h, if_neg h2]
        intro z
        have := fb_ct_kth_one (p := fun k => !PB r w k) (i := i) (j := j) (by simpa using h) (by simpa using h2) (by omega)
        omega) (show y < 7 by omega)
  by_cases h : PB r w j = true
  · simp only [if_pos h] at e
    exact ⟨j, hj, h, e⟩
  · simp only [if_neg h] at e
    omega
theorem ct_y {p : Nat → Bool} {i : Nat} (h : p i = true) : nI (fb_ct p i) + 1 = nI (fb_ct p (i + 1)) := by
  rw [nI_1, fb_ct_succ, if_pos h]
theorem ct_n {p : Nat → Bool} {i : Nat} (h : p i = false) : fb_ct p (i + 1) = fb_ct p i := by
  rw [fb_ct_succ, if_neg (by rw [h]; decide)]; rfl
theorem takesC {b n : Nat} {hc : Hp} {v : Nat → Nat → Int32} {r : Nat → Int32} (hn : n < 7) (hV : rvNav v r n) (hI : ivNav r n) {Q : Int32 → Hp → Prop} (q : Q (b01 (tpr r n = true)) (cv b hc v)) : F_X1_takesPart b (nI n) (cv b hc v) Q := by
  obtain ⟨a5, a6, a7, a8, a9, a10, a11⟩ := hV
  obtain ⟨j0, j1, j2, j5, j6, j7⟩ := hI
  refine ⟨vpn hn (by decide), ?_⟩
  simp only [clN (show n < 2 ^ 31 by omega), cv_11, cv_10, a11, a10]
  refine bc _ (fun h7 => ⟨vpn hn (by decide), bc _ (fun h5 => ?_) (fun h5 => ?_)⟩) (fun h7 => ?_)
  · rw [(b01_0 _).mpr (fun z => by rw [if_pos (tpr_i.mp z).2] at h5; exact ne_9999 j6 h5)] at q; exact q
  · rw [(b01_1 _).mpr (tpr_i.mpr ⟨h7, by
      rcases r01 j5 with e | e
      · rw [e] at h5; exact absurd (if_neg (by decide)) h5
      · exact e⟩)] at q; exact q
  · rw [(b01_0 _).mpr (fun z => h7 (tpr_i.mp z).1)] at q; exact q
theorem standsC {b i j : Nat} {hc : Hp} {v : Nat → Nat → Int32} {r : Nat → Int32} (hi : i < 7) (hj : j < 7) (ei : v 10 i = nv r i 6) (ej : v 10 j = nv r j 6) {Q : Int32 → Hp → Prop} (q : Q (b01 (LB r i j = true)) (cv b hc v)) : F_X1_standsBefore b (nI i) (nI j) (cv b hc v) Q := by
  refine ⟨vpn hi (by decide), vpn hj (by decide), ?_⟩
  simp only [clN (show i < 2 ^ 31 by omega), clN (show j < 2 ^ 31 by omega), cv_10, ei, ej]
  refine bc _ (fun h1 => ?_) (fun h1 => ⟨vpn hi (by decide), vpn hj (by decide), bc _ (fun h2 => bc _ (fun h3 => ?_) (fun h3 => ?_)) (fun h2 => ?_)⟩)
  · rw [(b01_1 _).mpr (LB_i.mpr (Or.inl h1))] at q; exact q
  · rw [nI_leI (by omega) (by omega)] at h3
    rw [(b01_0 _).mpr (fun z => by rcases LB_i.mp z with z1 | z1; exact h1 z1; omega)] at q; exact q
  · rw [nI_leI (by omega) (by omega)] at h3
    rw [(b01_1 _).mpr (LB_i.mpr (Or.inr ⟨h2, by omega⟩))] at q; exact q
  · rw [(b01_0 _).mpr (fun z => by rcases LB_i.mp z with z1 | z1; exact h1 z1; exact h2 z1.1)] at q; exact q
/-- the navigators of a voyage, both sides -/
def navs (v : Nat → Nat → Int32) (r : Nat → Int32) : Prop := ∀ n, n < 7 → rvNav v r n ∧ ivNav r n
theorem tp_est {v : Nat → Nat → Int32} {r : Nat → Int32} {n : Nat} (h : rvNav v r n) (ht : nv r n 5 = 1) : v 10 n = nv r n 6 := by
  rw [h.2.2.2.2.2.1, if_pos ht]
theorem PB_eq {r : Nat → Int32} {w : Int32} {n : Nat} : PB r w n = true ↔ ¬ nI n = w ∧ tpr r n = true := by
  rw [PB_i, tpr_i]
theorem ge7 {i : Nat} (hi : i < 7) : ¬ (7 : Int32) ≤ nI i := nI_ge (a := i) (b := 7) hi (by decide)
theorem bfalse {b : Bool} (h : ¬ b = true) : b = false := by cases b <;> simp_all
theorem rankC {b j : Nat} {w : Int32} {hc : Hp} {v : Nat → Nat → Int32} {r : Nat → Int32} (hN : navs v r) (hj : j < 7) (ej : v 10 j = nv r j 6) {Q : Int32 → Hp → Prop} (q : Q (nI (rk r w j)) (cv b hc v)) : ∀ (m i : Nat), i + m = 7 → F_X1_rankWithout_L5 b (m + 1) (nI j) w (nI (fb_ct (rkp r w j) i)) (nI i) (cv b hc v) Q := by
  intro m
  induction m with
  | zero =>
    intro i e
    obtain rfl : i = 7 := by omega
    exact bt' (by decide) q
  | succ m ih =>
    intro i e
    have hi : i < 7 := by omega
    have ihn : rkp r w j i = false → F_X1_rankWithout_L5 b (m + 1) (nI j) w (nI (fb_ct (rkp r w j) i)) (nI (i + 1)) (cv b hc v) Q := fun h => by
      have := ih (i + 1) (by omega)
      rw [ct_n h] at this
      exact this
    refine bf' (ge7 hi) (bc _ (fun h1 => ?_) (fun h1 => takesC hi (hN i hi).1 (hN i hi).2 (bc _ (fun h2 => ?_) (fun h2 => ?_))))
    · refine nm' ?_
      rw [nI_1]
      refine ihn ?_
      unfold rkp
      rw [show PB r w i = false from bfalse (fun z => (PB_eq.mp z).1 h1)]; rfl
    · refine nm' ?_
      rw [nI_1]
      refine ihn ?_
      unfold rkp
      rw [show PB r w i = false from bfalse (fun z => (b01_0 _).mp h2 (PB_eq.mp z).2)]; rfl
    · have ht : tpr r i = true := by
        by_cases z : tpr r i = true
        · exact z
        · exact absurd ((b01_0 _).mpr z) h2
      have hPi : PB r w i = true := PB_eq.mpr ⟨h1, ht⟩
      refine standsC hi hj (tp_est (hN i hi).1 (tpr_i.mp ht).2) ej (bc _ (fun h3 => ?_) (fun h3 => ?_))
      · refine nm' ?_
        rw [nI_1]
        refine ihn ?_
        unfold rkp
        rw [bfalse ((b01_0 _).mp h3), Bool.and_false]
      · have hL : LB r i j = true := by
          by_cases z : LB r i j = true
          · exact z
          · exact absurd ((b01_0 _).mpr z) h3
        refine nm' (nm' ?_)
        rw [ct_y (p := rkp r w j) (i := i) (by unfold rkp; rw [hPi, hL]; rfl), nI_1]
        exact ih (i + 1) (by omega)
/-! The median on both sides. -/
theorem b01_t {c : Prop} [Decidable c] (h : ¬ b01 c = 0) : c := by
  by_cases z : c
  · exact z
  · exact absurd ((b01_0 _).mpr z) h
theorem halfN {c : Nat} (h : 1 ≤ c) (h2 : c < 2 ^ 31) : (nI c - 1) / (2 : Int32) = nI ((c - 1) / 2) := by
  rw [show (1 : Int32) = nI 1 from rfl, pk_sub h, show (2 : Int32) = nI 2 from rfl, pk_div (by omega) (by decide) (by decide)]
theorem cp_le (r : Nat → Int32) (w : Int32) : cp r w ≤ 7 := fb_ct_le _ _
theorem rkC {b j : Nat} {w : Int32} {hc : Hp} {v : Nat → Nat → Int32} {r : Nat → Int32} (hN : navs v r) (hj : j < 7) (ej : v 10 j = nv r j 6) {Q : Int32 → Hp → Prop} (q : Q (nI (rk r w j)) (cv b hc v)) : F_X1_rankWithout b (nI j) w (cv b hc v) Q := ⟨8, rankC hN hj ej q 7 0 rfl⟩
theorem midC43 {b j : Nat} {w : Int32} {hc : Hp} {v : Nat → Nat → Int32} {r : Nat → Int32} (hN : navs v r) (hj : j < 7) (hP : PB r w j = true) (h3 : 3 ≤ cp r w) (hk : rk r w j = (cp r w - 1) / 2) {Q : Int32 → Hp → Prop} (q : Q (nv r j 6) (cv b hc v)) : ∀ (m i : Nat), i + m = 7 → i ≤ j → F_X1_middleWithout_L43 b (m + 1) w (nI (cp r w)) (nI i) (cv b hc v) Q := by
  intro m
  have hcp := cp_le r w
  induction m with
  | zero => intro i e h; omega
  | succ m ih =>
    intro i e h
    have hi : i < 7 := by omega
    have ihn : i ≠ j → F_X1_middleWithout_L43 b (m + 1) w (nI (cp r w)) (nI (i + 1)) (cv b hc v) Q := fun z => ih (i + 1) (by omega) (by omega)
    refine bf' (ge7 hi) (bc _ (fun h1 => ?_) (fun h1 => takesC hi (hN i hi).1 (hN i hi).2 (bc _ (fun h2 => ?_) (fun h2 => ?_))))
    · refine nm' ?_
      rw [nI_1]
      refine ihn (fun z => ?_)
      rw [z] at h1
      exact (PB_i.mp hP).1 h1
    · refine nm' ?_
      rw [nI_1]
      refine ihn (fun z => ?_)
      rw [z] at h2
      exact (b01_0 _).mp h2 (PB_eq.mp hP).2
    · have ht := b01_t h2
      have hPi : PB r w i = true := PB_eq.mpr ⟨h1, ht⟩
      have ei := tp_est (hN i hi).1 (tpr_i.mp ht).2
      refine rkC hN hi ei ?_
      have hr : rk r w i < 7 := by have := rk_cp hi hPi; omega
      simp only [halfN (show 1 ≤ cp r w by omega) (show cp r w < 2 ^ 31 by omega), nI_eq (show rk r w i < 2 ^ 31 by omega) (show (cp r w - 1) / 2 < 2 ^ 31 by omega)]
      refine bc _ (fun h4 => ⟨vpn hi (by decide), ?_⟩) (fun h4 => ?_)
      · have hij : i = j := rk_inj hi hj hPi hP (by omega)
        subst hij
        rw [clN (by omega), cv_10, ei]
        exact q
      · refine nm' ?_
        rw [nI_1]
        refine ihn (fun z => ?_)
        rw [z] at h4
        exact h4 hk
theorem midC4 {b : Nat} {w : Int32} {hc : Hp} {v : Nat → Nat → Int32} {r : Nat → Int32} (hN : navs v r) {Q : Int32 → Hp → Prop} (q : ((3 : Int32) ≤ nI (cp r w) → ∃ n, F_X1_middleWithout_L43 b n w (nI (cp r w)) 0 (cv b hc v) Q) ∧ (¬ (3 : Int32) ≤ nI (cp r w) → Q 9999 (cv b hc v))) : ∀ (m i : Nat), i + m = 7 → F_X1_middleWithout_L4 b (m + 1) w (nI (fb_ct (PB r w) i)) (nI i) (cv b hc v) Q := by
  intro m
  induction m with
  | zero =>
    intro i e
    obtain rfl : i = 7 := by omega
    exact bt' (by decide) q
  | succ m ih =>
    intro i e
    have hi : i < 7 := by omega
    have ihn : PB r w i = false → F_X1_middleWithout_L4 b (m + 1) w (nI (fb_ct (PB r w) i)) (nI (i + 1)) (cv b hc v) Q := fun h => by
      have := ih (i + 1) (by omega)
      rw [ct_n h] at this
      exact this
    refine bf' (ge7 hi) (bc _ (fun h1 => ?_) (fun h1 => takesC hi (hN i hi).1 (hN i hi).2 (bc _ (fun h2 => ?_) (fun h2 => ?_))))
    · refine nm' ?_
      rw [nI_1]
      exact ihn (bfalse (fun z => (PB_eq.mp z).1 h1))
    · refine nm' ?_
      rw [nI_1]
      exact ihn (bfalse (fun z => (b01_0 _).mp h2 (PB_eq.mp z).2))
    · have hPi : PB r w i = true := PB_eq.mpr ⟨h1, b01_t h2⟩
      refine nm' (nm' ?_)
      rw [ct_y (p := PB r w) (i := i) hPi, nI_1]
      exact ih (i + 1) (by omega)
theorem le3 {c : Nat} (h : c ≤ 7) : (3 : Int32) ≤ nI c ↔ 3 ≤ c := by rw [show (3 : Int32) = nI 3 from rfl, nI_leI (by decide) (by omega)]
theorem midC {b j : Nat} {w : Int32} {hc : Hp} {v : Nat → Nat → Int32} {r : Nat → Int32} (hN : navs v r) (hj : j < 7) (hP : PB r w j = true) (h3 : 3 ≤ cp r w) (hk : rk r w j = (cp r w - 1) / 2) {Q : Int32 → Hp → Prop} (q : Q (nv r j 6) (cv b hc v)) : F_X1_middleWithout b w (cv b hc v) Q :=
  ⟨8, midC4 hN (bt' ((le3 (cp_le _ _)).mpr h3) ⟨8, midC43 hN hj hP h3 hk q 7 0 rfl (by omega)⟩) 7 0 rfl⟩
theorem midC_0 {b : Nat} {w : Int32} {hc : Hp} {v : Nat → Nat → Int32} {r : Nat → Int32} (hN : navs v r) (h3 : ¬ 3 ≤ cp r w) {Q : Int32 → Hp → Prop} (q : Q 9999 (cv b hc v)) : F_X1_middleWithout b w (cv b hc v) Q :=
  ⟨8, midC4 hN (bf' (fun z => h3 ((le3 (cp_le _ _)).mp z)) q) 7 0 rfl⟩
