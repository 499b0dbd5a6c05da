/-! Level 2: the predicates of the leaves, solved. -/
theorem bc (c : Prop) {A B : Prop} (ht : c → A) (hf : ¬ c → B) : (c → A) ∧ (¬ c → B) := ⟨ht, hf⟩
theorem bt' {c A B : Prop} (h : c) (a : A) : (c → A) ∧ (¬ c → B) := ⟨fun _ => a, fun n => absurd h n⟩
theorem bf' {c A B : Prop} (h : ¬ c) (b : B) : (c → A) ∧ (¬ c → B) := ⟨fun n => absurd n h, fun _ => b⟩
theorem nm' {α : Sort _} {e : α} {P : α → Prop} (h : P e) : ∀ x, x = e → P x := fun x hx => by rw [hx]; exact h
def b01 (c : Prop) [Decidable c] : Int32 := if c then 1 else 0
theorem b01_0 (c : Prop) [Decidable c] : b01 c = 0 ↔ ¬ c := by unfold b01; split <;> simp [*]
theorem b01_1 (c : Prop) [Decidable c] : b01 c = 1 ↔ c := by unfold b01; split <;> simp [*]
theorem b01_n (c : Prop) [Decidable c] : narrow .boolean (.int (b01 c)) = .int (b01 c) := by unfold b01; split <;> rfl
theorem nlt {a b : Int32} : ¬ a < b ↔ b ≤ a := by rw [fa_lt, fa_le]; omega
theorem nle {a b : Int32} : ¬ a ≤ b ↔ b < a := by rw [fa_lt, fa_le]; omega
theorem within_iff {v a b : Int32} {h : Hp} {Q : Int32 → Hp → Prop} : F_X8_within v a b h Q ↔ Q (b01 (a ≤ v ∧ v ≤ b)) h := by
  unfold F_X8_within b01
  by_cases h1 : v < a
  · have h2 : ¬ (a ≤ v ∧ v ≤ b) := fun q => nle.mpr h1 q.1
    simp only [h1, h2, not_true, true_imp_iff, false_imp_iff, and_true, if_false]
  · by_cases h3 : b < v
    · have h2 : ¬ (a ≤ v ∧ v ≤ b) := fun q => nle.mpr h3 q.2
      simp only [h1, h2, h3, not_true, not_false_iff, true_imp_iff, false_imp_iff, and_true, true_and, if_false]
    · have h2 : a ≤ v ∧ v ≤ b := ⟨nlt.mp h1, nlt.mp h3⟩
      simp only [h1, h2, h3, not_true, not_false_iff, true_imp_iff, false_imp_iff, and_true, true_and, if_true]
theorem isOnEarth_iff {x : Int32} {h : Hp} {Q : Int32 → Hp → Prop} : F_X7_isOnEarth x h Q ↔ Q (b01 (-5400 ≤ x ∧ x ≤ 5400)) h := by
  show F_X8_within x (-5400) 5400 h Q ↔ _
  exact within_iff
theorem isNavC_iff {x : Int32} {h : Hp} {Q : Int32 → Hp → Prop} : F_X7_isNavigator x h Q ↔ Q (b01 (0 ≤ x ∧ x ≤ 6)) h := by
  unfold F_X7_isNavigator b01
  have e6 : (6 : Int32).toInt = 6 := by decide
  have e7 : (7 : Int32).toInt = 7 := by decide
  have e0 : (0 : Int32).toInt = 0 := by decide
  by_cases h1 : x < 0
  · have h2 : ¬ (0 ≤ x ∧ x ≤ 6) := fun q => nle.mpr h1 q.1
    simp only [h1, h2, not_true, true_imp_iff, false_imp_iff, and_true, if_false]
  · by_cases h3 : 7 ≤ x
    · have h2 : ¬ (0 ≤ x ∧ x ≤ 6) := fun q => by rw [fa_le] at h3; have := (fa_le _ _).mp q.2; omega
      simp only [h1, h2, h3, not_true, not_false_iff, true_imp_iff, false_imp_iff, and_true, true_and, if_false]
    · have h2 : 0 ≤ x ∧ x ≤ 6 := ⟨nlt.mp h1, by rw [fa_le] at h3 ⊢; omega⟩
      simp only [h1, h2, h3, not_true, not_false_iff, true_imp_iff, false_imp_iff, and_true, true_and, if_true]
/-- not beyond the poles -/
def bd (x : Int32) : Int32 := if x < -5400 then -5400 else if 5400 < x then 5400 else x
theorem bd_k (x : Int32) : jmax (-5400) (jmin 5400 x) = bd x := by
  have e1 : (5400 : Int32).toInt = 5400 := by decide
  have e2 : (-5400 : Int32).toInt = -5400 := by decide
  unfold jmax jmin bd
  by_cases h1 : x < 5400
  · rw [if_pos h1]
    by_cases h2 : -5400 < x
    · rw [if_pos h2, if_neg (nlt.mpr (by rw [fa_le]; rw [fa_lt] at h2; omega)), if_neg (by rw [fa_lt] at h1 ⊢; omega)]
    · rw [if_neg h2]
      by_cases h3 : x < -5400
      · rw [if_pos h3]
      · rw [if_neg h3, if_neg (by rw [fa_lt] at h1 ⊢; omega)]
        rw [fa_eq]
        rw [fa_lt] at h2 h3
        omega
  · rw [if_neg h1, if_pos (by decide), if_neg (by rw [fa_lt] at h1 ⊢; omega)]
    by_cases h3 : 5400 < x
    · rw [if_pos h3]
    · rw [if_neg h3, fa_eq]
      rw [fa_lt] at h1 h3
      omega
theorem kept_iff {x : Int32} {h : Hp} {Q : Int32 → Hp → Prop} : F_X7_keptOnEarth x h Q ↔ Q (bd x) h := by
  unfold F_X7_keptOnEarth
  rw [← bd_k]
  exact ⟨fun q => q _ rfl _ rfl, fun q x1 e1 x2 e2 => by rw [e2, e1]; exact q⟩
theorem bd_rng (x : Int32) : rng (bd x) (-5400) 5400 := by
  have e1 : (5400 : Int32).toInt = 5400 := by decide
  have e2 : (-5400 : Int32).toInt = -5400 := by decide
  unfold bd rng
  split
  · rw [e2]; omega
  · split
    · rw [e1]; omega
    · rename_i h1 h2
      rw [fa_lt] at h1 h2
      omega
theorem jabs_neg (x : Int32) : (if 0 ≤ x then x else -x) = jabs x := by
  unfold jabs
  split
  · rfl
  · rw [Int32.zero_sub]
theorem told_iff {x : Int32} {h : Hp} {Q : Int32 → Hp → Prop} : F_X7_toldLatitude x h Q ↔ Q (if x = 9999 then -6 else x + 5400) h := by
  unfold F_X7_toldLatitude
  by_cases h1 : x = 9999
  · simp only [h1, not_true, true_imp_iff, false_imp_iff, and_true, if_true]
  · simp only [h1, not_false_iff, true_imp_iff, false_imp_iff, true_and, if_false]
theorem vpn {n N : Nat} (h : n < N) (hN : N < 2 ^ 31) : vp_in (nI n) N := vp_in_nI h hN
theorem clN {n : Nat} (h : n < 2 ^ 31) : (nI n).toNatClampNeg = n := nI_clamp h
theorem ixn (n f : Nat) : ((31 : Int32) + (8 : Int32) * nI n + nI f) = nI (31 + 8 * n + f) := by
  rw [show (31 : Int32) = nI 31 from rfl, show (8 : Int32) = nI 8 from rfl, pk_mul, nI_add, nI_add]
/-- an index that holds is a small number -/
theorem ofN {x : Int32} {M : Int32} {n : Nat} (hM : M.toInt = n) (h : 0 ≤ x ∧ x ≤ M) : ∃ j : Nat, j ≤ n ∧ x = nI j := nI_of2 hM (by rw [nlt]; exact h.1) h.2
theorem up1_self (h : Hp) (k : Nat) : up1 h k (h k) = h := by
  funext a
  unfold up1
  split
  · rename_i e; rw [e]
  · rfl
theorem up1_up1 (h : Hp) (k : Nat) (f g : Nat → Int32) : up1 (up1 h k f) k g = up1 h k g := by
  funext a
  unfold up1
  split <;> rfl
/-- the voyage at b replaced -/
def cv (b : Nat) (h : Hp) (v : Nat → Nat → Int32) : Hp := fun c => if b ≤ c ∧ c < b + 15 then v (c - b) else h c
theorem cv_at {b o : Nat} {h : Hp} {v : Nat → Nat → Int32} (ho : o < 15) : cv b h v (b + o) = v o := by
  unfold cv
  rw [if_pos ⟨by omega, by omega⟩, Nat.add_sub_cancel_left]
theorem cv_0 {b : Nat} {h : Hp} {v : Nat → Nat → Int32} : cv b h v b = v 0 := cv_at (o := 0) (by decide)
theorem cv_out {b c : Nat} {h : Hp} {v : Nat → Nat → Int32} (hc : c < b ∨ b + 15 ≤ c) : cv b h v c = h c := by
  unfold cv
  rw [if_neg (by omega)]
theorem cv_up {b o : Nat} {h : Hp} {v : Nat → Nat → Int32} (ho : o < 15) (f : Nat → Int32) : up1 (cv b h v) (b + o) f = cv b h (up1 v o f) := by
  funext c
  show (if c = b + o then f else (if b ≤ c ∧ c < b + 15 then v (c - b) else h c)) = (if b ≤ c ∧ c < b + 15 then (if c - b = o then f else v (c - b)) else h c)
  by_cases h1 : c = b + o
  · subst h1
    rw [if_pos rfl, if_pos ⟨by omega, by omega⟩, if_pos (by omega)]
  · rw [if_neg h1]
    by_cases h2 : b ≤ c ∧ c < b + 15
    · rw [if_pos h2, if_pos h2, if_neg (by omega)]
    · rw [if_neg h2, if_neg h2]
theorem cv_up0 {b : Nat} {h : Hp} {v : Nat → Nat → Int32} (f : Nat → Int32) : up1 (cv b h v) b f = cv b h (up1 v 0 f) := cv_up (o := 0) (by decide) f
theorem cv_self (b : Nat) (h : Hp) : cv b h (fun o => h (b + o)) = h := by
  funext c
  show (if b ≤ c ∧ c < b + 15 then h (b + (c - b)) else h c) = h c
  split
  · rename_i hc
    rw [show b + (c - b) = c by omega]
  · rfl
theorem nv_upd {r : Nat → Int32} {n f m g : Nat} {x : Int32} (hf : f < 8) (hg : g < 8) : nv (upd r (31 + 8 * n + f) x) m g = if m = n ∧ g = f then x else nv r m g := by
  unfold nv upd
  by_cases h1 : m = n ∧ g = f
  · obtain ⟨rfl, rfl⟩ := h1
    simp
  · rw [if_neg h1, if_neg (by omega)]
theorem upd_nv {r : Nat → Int32} {k m g : Nat} {x : Int32} (hk : k < 31 ∨ 87 ≤ k) (hg : g < 8) (hm : m < 7) : nv (upd r k x) m g = nv r m g := by
  unfold nv upd
  rw [if_neg (by omega)]
theorem upd_s' {f : Nat → Int32} {k : Nat} {x : Int32} : upd f k x k = x := by simp [upd]
theorem upd_n' {f : Nat → Int32} {k j : Nat} {x : Int32} (h : j ≠ k) : upd f k x j = f j := by simp [upd, h]
