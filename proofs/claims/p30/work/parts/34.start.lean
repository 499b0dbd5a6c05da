/-! The law's first state, and the law as a whole. -/
theorem rel_init0 : RVv (fun o => g0 7 lInit (8 + o)) (lrow (g0 7 lInit)) := by
  refine ⟨?_, ?_, ?_, ?_, ?_, ?_⟩
  · unfold rvSet; decide +kernel
  · refine ⟨by decide +kernel, ⟨0, by decide, by decide +kernel, by decide +kernel⟩, by decide +kernel⟩
  · unfold rvNav nv; decide +kernel
  · unfold rvCrs; decide +kernel
  · unfold rvMisc; decide +kernel
  · exact ⟨0, by decide, by decide +kernel, by decide +kernel, fun j k hj => absurd hj (by simp)⟩
theorem iv_init0 : IV (lrow (g0 7 lInit)) := by
  refine ⟨?_, ?_, ?_, ?_, ?_⟩
  · unfold ivSet rng; decide +kernel
  · unfold ivCrs rng; decide +kernel
  · unfold ivSky rng; decide +kernel
  · unfold ivNav rng nv; decide +kernel
  · unfold sm7 nv; decide +kernel
theorem inv_init0 : INV 0 (g0 7 lInit) := by
  refine ⟨⟨⟨rel_init0, 0, 0, by decide, by decide, by decide +kernel, by decide +kernel⟩, iv_init0, fun s h1 h2 => ?_⟩, by decide +kernel, by decide +kernel⟩
  show lInit 159 s = 0
  rfl
theorem v0_0 : v0 0 = fun _ => 0 := by
  funext k
  unfold v0
  rw [if_neg (Nat.not_lt_zero _)]
theorem g0_0 : g0 0 lInit = up1 lInit 158 q0 := by
  unfold g0
  rw [v0_0]
  have := up1_self (up1 lInit 158 q0) 160
  rw [up1_n _ _ (show (160 : Nat) ≠ 158 by decide)] at this
  exact this
theorem law_holds (sc : Int32 → Int32) : F_L_law sc lInit := by
  refine nm' (nm' (nm' (nm' (nm' ⟨8, ?_⟩))))
  have h := law59 sc lInit ⟨51, law108 sc 50 0 (g0 7 lInit) rfl inv_init0⟩ 7 0 rfl
  rw [g0_0] at h
  simp only [up1_s, up1_up1]
  exact h
