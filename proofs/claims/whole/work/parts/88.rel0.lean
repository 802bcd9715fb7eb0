/-! the two new objects -/
theorem none0 {p : Nat → Prop} : ∀ i, i < 0 → p i := fun i h => absurd h (Nat.not_lt_zero i)
theorem rel0 : Rel sc0 ar0 lg0 := by
  refine ⟨by unfold Rmost; decide +kernel, rfl, ⟨0, by decide, by decide +kernel, by decide +kernel, none0⟩, 0, 0, 0, 0, by decide, by decide +kernel,
    ⟨by decide, by decide +kernel, by decide +kernel, none0⟩, ⟨by decide, by decide +kernel, by decide +kernel, none0⟩, ⟨by decide, by decide +kernel, by decide +kernel, none0⟩,
    ⟨⟨by decide +kernel, none0⟩, 0, 0, 0, ⟨by decide +kernel, by decide, rfl, none0⟩, ⟨by decide +kernel, by decide, rfl, none0⟩, ⟨by decide +kernel, by decide, rfl, by decide, none0⟩⟩,
    ⟨Or.inl ⟨rfl, rfl, by decide +kernel⟩, fun h => ?_, fun h => ?_⟩⟩
  · exact absurd (show (0 : Int32) = 1 from h) (by decide)
  · exact absurd (show (0 : Int32) = 1 from h) (by decide)
