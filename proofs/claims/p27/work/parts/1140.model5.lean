/-! The model: races, exchanges, the states kept for undo -/
theorem ndE_le {s : Nat → Nat} {B : Nat} (h : Wt s B) (rev : Bool) (m : Nat) : ndE s rev m ≤ 511 := by
  unfold ndE
  have h1 := mk_256 (stB (stl s rev m).2 3) (h.stl (rev := rev) (m := m)).2.1
  split <;> omega
