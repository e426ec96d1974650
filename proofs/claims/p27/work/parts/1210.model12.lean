/-! The model: questions that are tried out -/
def spOut (M : Bk) (rv ev : Int32) (r : Int32) (M' : Bk) : Prop := (if (nI 0 ≤ rv ∧ rv ≤ nI 1) ∧ (nI 1 ≤ ev ∧ ev ≤ nI 200) then r = nI (ndE (M 0) (decide (tn rv = 1)) (tn ev)) else r = -1) ∧ Sm M M'
def rcV (s : Nat → Nat) : Nat := if ndE s false 200 = ndE s true 200 then 0 else 1
def spRace (M : Bk) (r : Int32) (M' : Bk) : Prop := r = nI (rcV (M 0)) ∧ Sm M M'
