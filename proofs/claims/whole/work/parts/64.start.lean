/-! class and reference agree as they are made -/
def tm0 : Tm := (fun _ => 0, fun _ => 0, fun _ => 0, 0, 0)
theorem rel0 : Rel xv0 mv0 := by
  refine ⟨⟨⟨tm0, ⟨⟨by decide, by decide, fun j hj => absurd hj (Nat.not_lt_zero _)⟩, ⟨by decide, by decide, fun j hj => absurd hj (Nat.not_lt_zero _)⟩, ⟨by decide, by decide, fun j hj => absurd hj (Nat.not_lt_zero _)⟩, by decide⟩, by decide, by decide, ⟨1, by decide, by decide⟩, fun j hj => absurd hj (Nat.not_lt_zero _)⟩, ⟨fun _ => 0, 0, by decide, by decide, by decide, fun j hj => absurd hj (Nat.not_lt_zero _)⟩, by decide, ⟨80, by decide, by decide, by decide⟩, 0, 0, by decide, by decide, by decide, by decide, by decide, fun i hi => absurd hi (Nat.not_lt_zero _)⟩, by decide, fun h => absurd (by decide) h, ⟨0, fun _ => 0, ⟨by decide, fun j hj => absurd hj (Nat.not_lt_zero _)⟩, by decide, by decide, fun j hj => absurd hj (Nat.not_lt_zero _), by decide, by decide⟩, fun k hk => ?_⟩
  refine ⟨0, by decide, rfl, rfl, fun i hi => rfl, Or.inl ⟨rfl, ?_⟩⟩
  rcases (show k = 0 ∨ k = 1 ∨ k = 2 ∨ k = 3 by omega) with rfl | rfl | rfl | rfl <;> decide
