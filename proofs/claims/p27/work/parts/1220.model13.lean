/-! The model: events told, hazards, stable states, explanations, time that passes -/
def ahc (s : Nat → Nat) (e : Nat) : Nat → Nat
  | 0 => 0
  | m + 1 => ahc s e m + (if wtB s m && ahB s m e false then 1 else 0)
def evS (s : Nat → Nat) (i : Nat) : Nat → Option Nat
  | 0 => none
  | m + 1 => match evS s i m with
    | some e => some e
    | none => if wtB s m && decide (ahc s m (4 * s 1) = i) then some m else none
def evP (s : Nat → Nat) (e p : Nat) : Nat := if p = 0 then tmO s e else if p = 1 then e / 4 else e % 4
def evR (s : Nat → Nat) (i p : Nat) : Int32 := match evS s i (4 * s 1) with
  | none => -9
  | some e => nI (evP s e p)
def spEvent (M : Bk) (ix pt : Int32) (r : Int32) (M' : Bk) : Prop := (if 0 ≤ ix ∧ (nI 0 ≤ pt ∧ pt ≤ nI 2) then r = evR (M 0) (tn ix) (tn pt) else r = -1) ∧ Sm M M'
