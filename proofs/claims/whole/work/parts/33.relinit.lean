/-! The two sides as they begin. -/
theorem rel_init : Rel cInit mInit := by
  refine Rel_i.mpr ⟨⟨?_, ?_, ?_, ?_, ?_, ?_⟩, ⟨?_, ?_, ?_, ?_, ?_⟩, ⟨0, 0, by decide, by decide, ?_, ?_, ?_, fun i hi => absurd hi (Nat.not_lt_zero i)⟩, fun j hj => Or.inl ⟨?_, ?_⟩, ⟨0, by decide, ?_, ?_, fun i hi => absurd hi (Nat.not_lt_zero i)⟩⟩
  · unfold rvSet; decide +kernel
  · refine ⟨by decide +kernel, ⟨0, by decide, by decide +kernel, by decide +kernel⟩, by decide +kernel⟩
  · unfold rvNav nv; decide +kernel
  · unfold rvCrs; decide +kernel
  · unfold rvMisc; decide +kernel
  · exact ⟨0, by decide, by decide +kernel, by decide +kernel, fun j k hj => absurd hj (by simp)⟩
  · unfold ivSet rng; decide +kernel
  · unfold ivCrs rng; decide +kernel
  · unfold ivSky rng; decide +kernel
  · unfold ivNav rng nv; decide +kernel
  · unfold sm7 nv; decide +kernel
  · decide +kernel
  · decide +kernel
  · decide +kernel
  · rcases (show j = 0 ∨ j = 1 by omega) with rfl | rfl <;> decide +kernel
  · rcases (show j = 0 ∨ j = 1 by omega) with rfl | rfl <;> decide +kernel
  · decide +kernel
  · decide +kernel
