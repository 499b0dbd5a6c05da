/-! From the cells as they were made to the layout. -/
def pi (k : Nat) : Nat := if k = 0 then 0 else if k = 1 then 16 else if k = 2 then 17 else if k < 8 then k + 120 else if k < 23 then k - 7 else if k < 128 then k - 5 else k
theorem pi_lt {k : Nat} (h : k < 158) : pi k < 158 := by unfold pi; split <;> (try omega); split <;> (try omega); split <;> (try omega); split <;> (try omega); split <;> (try omega); split <;> omega
theorem pi_inj {i j : Nat} (hi : i < 158) (hj : j < 158) (h : pi i = pi j) : i = j := by
  unfold pi at h
  split at h <;> split at h <;> first | omega | skip
  all_goals (repeat' split at h)
  all_goals omega
def cInit : Hp := fun k => if k < 7 then fun _ => 0 else if k < 8 then rV 12 else rV ((k - 8) % 15)
theorem gL_cat0 {M : Nat} {a b : Nat → Nat} {F G : Nat → va_E} : gL (0 + M) (gcat 0 a b) (gcat 0 F G) = gL M b G := by
  rw [Nat.zero_add]
  exact gL_ext gL_len (fun k hk => by rw [gL_get hk]; simp [gcat])
theorem arrV_cong (cI : ClassId) {N : Nat} {f g : Nat → Value} (h : ∀ j, j < N → f j = g j) : arrV cI N f = arrV cI N g := by
  have e : (Array.ofFn (n := N) fun j => f j.val) = Array.ofFn (n := N) fun j => g j.val := by
    congr 1
    funext j
    exact h j.val j.isLt
  unfold arrV
  rw [e]
theorem va_at_q {D : va_G} {cl : List vw_C} {a : Nat} {cA : ClassId} {N : Nat} {f g : Nat → Option Nat} {H : Heap} (h : ∀ j, j < N → f j = g j) (hf : va_at D cl (a, .inl (cA, N, .inr (.inr (.inr (.inr f))))) H) : va_at D cl (a, .inl (cA, N, .inr (.inr (.inr (.inr g))))) H := by
  have h1 : H[a]? = some (vp_cell cA (N, .inr (.inr (.inr (.inr f))))) := hf
  show H[a]? = some (vp_cell cA (N, .inr (.inr (.inr (.inr g)))))
  rw [h1, vp_cell_q, vp_cell_q, arrV_cong cA (fun j hj => by rw [h j hj])]
set_option maxHeartbeats 8000000 in
set_option maxRecDepth 200000 in
theorem conv_at (D : va_G) (cl : List vw_C) (P : gP) (b : Nat → Nat) : ∀ k, k < 158 → ∀ H : Heap, va_at D cl (b (pi k), dX P b (pi k)) H → va_at D cl (b (pi k), cE P (fun k => b (pi k)) k (cInit k)) H := (lt_s (lt_s (lt_s (lt_s (lt_s (lt_s (lt_s (lt_s (lt_s (lt_s (lt_s (lt_s (lt_s (lt_s (lt_s (lt_s (lt_s (lt_s (lt_s (lt_s (lt_s (lt_s (lt_s (lt_s (lt_s (lt_s (lt_s (lt_s (lt_s (lt_s (lt_s (lt_s (lt_s (lt_s (lt_s (lt_s (lt_s (lt_s (lt_s (lt_s (lt_s (lt_s (lt_s (lt_s (lt_s (lt_s (lt_s (lt_s (lt_s (lt_s (lt_s (lt_s (lt_s (lt_s (lt_s (lt_s (lt_s (lt_s (lt_s (lt_s (lt_s (lt_s (lt_s (lt_s (lt_s (lt_s (lt_s (lt_s (lt_s (lt_s (lt_s (lt_s (lt_s (lt_s (lt_s (lt_s (lt_s (lt_s (lt_s (lt_s (lt_s (lt_s (lt_s (lt_s (lt_s (lt_s (lt_s (lt_s (lt_s (lt_s (lt_s (lt_s (lt_s (lt_s (lt_s (lt_s (lt_s (lt_s (lt_s (lt_s (lt_s (lt_s (lt_s (lt_s (lt_s (lt_s (lt_s (lt_s (lt_s (lt_s (lt_s (lt_s (lt_s (lt_s (lt_s (lt_s (lt_s (lt_s (lt_s (lt_s (lt_s (lt_s (lt_s (lt_s (lt_s (lt_s (lt_s (lt_s (lt_s (lt_s (lt_s (lt_s (lt_s (lt_s (lt_s (lt_s (lt_s (lt_s (lt_s (lt_s (lt_s (lt_s (lt_s (lt_s (lt_s (lt_s (lt_s (lt_s (lt_s (lt_s (lt_s (lt_s (lt_s (lt_s (lt_s (lt_s (lt_s (lt_s lt_0 (fun H z => z)) (fun H z => z)) (fun H z => va_at_q (f := hpl (fun i => b (16 + i))) (lt_s (lt_s (lt_s (lt_s (lt_s (lt_s (lt_s lt_0 rfl) rfl) rfl) rfl) rfl) rfl) rfl) z)) (fun H z => z)) (fun H z => z)) (fun H z => va_at_q (f := spl b) (lt_s (lt_s lt_0 rfl) rfl) z)) (fun H z => z)) (fun H z => z)) (fun H z => z)) (fun H z => z)) (fun H z => z)) (fun H z => z)) (fun H z => z)) (fun H z => z)) (fun H z => z)) (fun H z => z)) (fun H z => z)) (fun H z => z)) (fun H z => z)) (fun H z => z)) (fun H z => z)) (fun H z => z)) (fun H z => z)) (fun H z => z)) (fun H z => z)) (fun H z => z)) (fun H z => z)) (fun H z => z)) (fun H z => z)) (fun H z => z)) (fun H z => z)) (fun H z => z)) (fun H z => z)) (fun H z => z)) (fun H z => z)) (fun H z => z)) (fun H z => z)) (fun H z => z)) (fun H z => z)) (fun H z => z)) (fun H z => z)) (fun H z => z)) (fun H z => z)) (fun H z => z)) (fun H z => z)) (fun H z => z)) (fun H z => z)) (fun H z => z)) (fun H z => z)) (fun H z => z)) (fun H z => z)) (fun H z => z)) (fun H z => z)) (fun H z => z)) (fun H z => z)) (fun H z => z)) (fun H z => z)) (fun H z => z)) (fun H z => z)) (fun H z => z)) (fun H z => z)) (fun H z => z)) (fun H z => z)) (fun H z => z)) (fun H z => z)) (fun H z => z)) (fun H z => z)) (fun H z => z)) (fun H z => z)) (fun H z => z)) (fun H z => z)) (fun H z => z)) (fun H z => z)) (fun H z => z)) (fun H z => z)) (fun H z => z)) (fun H z => z)) (fun H z => z)) (fun H z => z)) (fun H z => z)) (fun H z => z)) (fun H z => z)) (fun H z => z)) (fun H z => z)) (fun H z => z)) (fun H z => z)) (fun H z => z)) (fun H z => z)) (fun H z => z)) (fun H z => z)) (fun H z => z)) (fun H z => z)) (fun H z => z)) (fun H z => z)) (fun H z => z)) (fun H z => z)) (fun H z => z)) (fun H z => z)) (fun H z => z)) (fun H z => z)) (fun H z => z)) (fun H z => z)) (fun H z => z)) (fun H z => z)) (fun H z => z)) (fun H z => z)) (fun H z => z)) (fun H z => z)) (fun H z => z)) (fun H z => z)) (fun H z => z)) (fun H z => z)) (fun H z => z)) (fun H z => z)) (fun H z => z)) (fun H z => z)) (fun H z => z)) (fun H z => z)) (fun H z => z)) (fun H z => z)) (fun H z => z)) (fun H z => z)) (fun H z => z)) (fun H z => z)) (fun H z => z)) (fun H z => z)) (fun H z => z)) (fun H z => z)) (fun H z => z)) (fun H z => z)) (fun H z => z)) (fun H z => z)) (fun H z => z)) (fun H z => z)) (fun H z => z)) (fun H z => z)) (fun H z => z)) (fun H z => z)) (fun H z => z)) (fun H z => z)) (fun H z => z)) (fun H z => z)) (fun H z => z)) (fun H z => z)) (fun H z => z)) (fun H z => z)) (fun H z => z)) (fun H z => z)) (fun H z => z)) (fun H z => z)) (fun H z => z)) (fun H z => z)) (fun H z => z)) (fun H z => z)) (fun H z => z)) (fun H z => z)) (fun H z => z)) (fun H z => z))
theorem conv_P {D : va_G} {cl : List vw_C} {P : gP} {b : Nat → Nat} {H : Heap} (hP : va_P D cl ([] ++ gL 158 b (dX P b)) H) : va_P D cl (gW 158 (cE P (fun k => b (pi k))) (fun k => b (pi k)) cInit) H := by
  intro k q hk
  obtain ⟨h1, rfl⟩ := gW_get hk
  exact conv_at D cl P b k h1 H (hP (pi k) _ (gL_get (pi_lt h1)))
theorem conv_D {A : Nat → Prop} {P : gP} {b : Nat → Nat} (hD : va_D A ([] ++ gL 158 b (dX P b))) : va_D A (gW 158 (cE P (fun k => b (pi k))) (fun k => b (pi k)) cInit) := by
  refine ⟨fun i j p q hi hj hpq => ?_, fun k q hk => ?_⟩
  · obtain ⟨i1, rfl⟩ := gW_get hi
    obtain ⟨j1, rfl⟩ := gW_get hj
    exact pi_inj i1 j1 (hD.1 (pi i) (pi j) _ _ (gL_get (pi_lt i1)) (gL_get (pi_lt j1)) hpq)
  · obtain ⟨k1, rfl⟩ := gW_get hk
    exact hD.2 (pi k) (b (pi k), dX P b (pi k)) (gL_get (pi_lt k1))
