/-! The model: sets, circuits, coils -/
/-- row 0 is s, the number of changes any, the rest as it was -/
def Mup (M : Bk) (s : Nat → Nat) (M' : Bk) : Prop := M' 0 = s ∧ (∀ a, 1 ≤ a → a ≤ 4 → M' a = M a) ∧ M' 5 0 = M 5 0 ∧ M' 5 1 = M 5 1 ∧ M' 5 3 = M 5 3
theorem Mup.rf (M : Bk) : Mup M (M 0) M := ⟨rfl, fun _ _ _ => rfl, rfl, rfl, rfl⟩
theorem Mup.tr {M M1 M2 : Bk} {s t : Nat → Nat} (h : Mup M s M1) (g : Mup M1 t M2) : Mup M t M2 := ⟨g.1, fun a h1 h2 => (g.2.1 a h1 h2).trans (h.2.1 a h1 h2), g.2.2.1.trans h.2.2.1, g.2.2.2.1.trans h.2.2.2.1, g.2.2.2.2.trans h.2.2.2.2⟩
theorem Mup.chg {M M1 : Bk} {s : Nat → Nat} (h : Mup M s M1) (y : Nat) : Mup M s (bset M1 5 2 y) := by
  refine ⟨by rw [bset_ne _ _ _ (by decide)]; exact h.1, fun a h1 h2 => by rw [bset_ne _ _ _ (by omega)]; exact h.2.1 a h1 h2, ?_, ?_, ?_⟩
  · rw [bset_eq, upN_ne _ _ _ (by decide)]; exact h.2.2.1
  · rw [bset_eq, upN_ne _ _ _ (by decide)]; exact h.2.2.2.1
  · rw [bset_eq, upN_ne _ _ _ (by decide)]; exact h.2.2.2.2
