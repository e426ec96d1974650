/-! The model: questions -/
def cn2 (s : Nat → Nat) : Nat → Nat
  | 0 => 0
  | r + 1 => cn2 s r + ((if 0 < vv s r 8 then 1 else 0) + vv s r 10)
def cnV (M : Bk) (k : Nat) : Nat := if k = 0 then M 0 1 else if k = 1 then M 0 2 else if k = 2 then cn2 (M 0) (M 0 1) else if k = 3 then M 0 0 else if k = 4 then mk (stB (M 0) 4) (M 0 1) else if k = 5 then mk (stB (M 0) 3) (M 0 1) else if k = 6 then mk (clB (M 0)) (M 0 1) else if k = 7 then mk (stB (M 0) 5) (M 0 1) else if k = 8 then M 5 1 else M 5 0
def spCount (M : Bk) (wh : Int32) (r : Int32) (M' : Bk) : Prop := (if nI 0 ≤ wh ∧ wh ≤ nI 9 then r = nI (cnV M (tn wh)) else r = -1) ∧ Sm M M'
def itB (s : Nat → Nat) (rl : Nat) : Nat → Nat
  | 0 => 0
  | b + 1 => if 0 < how3 s rl b (8 + rl) then 1 else itB s rl b
def reV (s : Nat → Nat) (rl k : Nat) : Nat := if k = 3 then vv s rl 12 else if k = 4 then vv s rl 6 else if k = 5 then vv s rl 7 else if k = 6 then itB s rl (vv s rl 12) else if k = 7 then (cnd s rl (onS s)).toNat else vv s rl k
def spRelay (M : Bk) (rl wh : Int32) (r : Int32) (M' : Bk) : Prop := (if isR (M 0 1) rl ∧ (nI 0 ≤ wh ∧ wh ≤ nI 7) then r = nI (reV (M 0) (tn rl) (tn wh)) else r = -1) ∧ Sm M M'
def spCond (M : Bk) (rl br su : Int32) (r : Int32) (M' : Bk) : Prop := (if isR (M 0 1) rl ∧ (nI 0 ≤ br ∧ br ≤ nI (vv (M 0) (tn rl) 12) - nI 1) ∧ (nI 0 ≤ su ∧ su ≤ nI 15) then r = nI (how3 (M 0) (tn rl) (tn br) (tn su)) else r = -1) ∧ Sm M M'
theorem toInt_out {lo hi : Nat} {x : Int32} (h : ¬ (nI lo ≤ x ∧ x ≤ nI hi)) (hl : lo < 2147483648) (hh : hi < 2147483648) : x.toInt < (lo : Int) ∨ (hi : Int) < x.toInt := by
  rw [Int32.le_iff_toInt_le, Int32.le_iff_toInt_le, nI_toInt hl, nI_toInt hh] at h
  omega
theorem how3_le (s : Nat → Nat) (r b x : Nat) : how3 s r b x ≤ 2 := by
  unfold how3
  split
  · omega
  · split <;> omega
