/-! The model: load -/
theorem Pup.rf (M : Bk) : Pup M (M 0) (M 5 3) M := ⟨rfl, fun _ _ _ => rfl, rfl, rfl, rfl⟩
