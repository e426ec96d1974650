/-! The model: stable states, explanations, time that passes -/
def stI (s : Nat → Nat) (set : Nat) : Nat → Bool
  | 0 => true
  | r + 1 => stI s set r && (decide (vv s r 7 = 0) || decide (vv s r 3 = (set.testBit r).toNat))
def stO (s : Nat → Nat) (set : Nat) (r : Nat) : Bool := decide (vv s r 6 = 2) || (decide (vv s r 6 = 0) && set.testBit r)
def stC (s : Nat → Nat) (set on : Nat) : Nat → Bool
  | 0 => true
  | r + 1 => stC s set on r && (decide (vv s r 7 = 1) || (cnd s r (s 0 ||| on <<< 8) == set.testBit r))
