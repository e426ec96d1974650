/-! The model: settling, its ends, races, the states kept for undo -/
theorem stl_none {s : Nat → Nat} {rev : Bool} (m : Nat) (h : nx s rev = none) : stl s rev m = (0, s) := by
  cases m with
  | zero => rfl
  | succ m => unfold stl; rw [h]
theorem stl_some {s : Nat → Nat} {rev : Bool} {e : Nat} (m : Nat) (h : nx s rev = some e) : stl s rev (m + 1) = ((stl (hap s e) rev m).1 + 1, (stl (hap s e) rev m).2) := by
  rw [stl, h]
theorem nx_kind {s : Nat → Nat} {rev : Bool} {e : Nat} (h : nx s rev = some e) : e % 4 < 3 := by
  have h1 := nxt_wt h
  unfold wtB at h1
  split at h1
  · omega
  · simp at h1
    omega
