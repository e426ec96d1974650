/-! The model: rows exchanged, states kept for undo -/
def pst (M : Bk) (i : Nat) : Nat → Nat := fun j => if j < 203 then M 1 (203 * i + j) else 0
def p5 (M : Bk) : Nat := if M 5 0 = 6 then 5 else M 5 0
/-- a state is kept -/
def Ntd (M M' : Bk) : Prop := (∀ a, a ≠ 1 → a ≠ 5 → M' a = M a) ∧ (∀ j, j ≠ 0 → M' 5 j = M 5 j) ∧ M' 5 0 = p5 M + 1 ∧ (∀ i, i < p5 M → pst M' i = pst M (if M 5 0 = 6 then i + 1 else i)) ∧ pst M' (p5 M) = M 0
