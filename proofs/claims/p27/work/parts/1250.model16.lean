/-! The model: explanations, time that passes -/
def psL (then_ : Nat) (s : Nat → Nat) : Nat → Nat × (Nat → Nat)
  | 0 => (0, s)
  | m + 1 => match nx s false with
    | none => (0, s)
    | some e => if tmO s e ≤ then_ then ((psL then_ (hap s e) m).1 + 1, (psL then_ (hap s e) m).2) else (0, s)
def spPass (M : Bk) (tk : Int32) (r : Int32) (M' : Bk) : Prop := if nI 1 ≤ tk ∧ tk ≤ nI 1000 then (if 100000 < M 0 2 + tn tk then r = -3 ∧ Sm M M' else if 200 < (psL (M 0 2 + tn tk) (M 0) 201).1 then r = -3 ∧ Sm M M' else r = nI (psL (M 0 2 + tn tk) (M 0) 201).1 ∧ Op M (upN (psL (M 0 2 + tn tk) (M 0) 201).2 2 (M 0 2 + tn tk)) M') else r = -1 ∧ Sm M M'
theorem psL_le (then_ : Nat) : ∀ (m : Nat) (s : Nat → Nat), (psL then_ s m).1 ≤ m
  | 0, s => Nat.le_refl _
  | m + 1, s => by
    unfold psL
    split
    · exact Nat.zero_le _
    · rename_i e _
      split
      · have := psL_le then_ m (hap s e)
        show _ + 1 ≤ _
        omega
      · exact Nat.zero_le _
theorem Wt.psL {then_ : Nat} : ∀ {m : Nat} {s : Nat → Nat} {B : Nat}, Wt s B → Wt (psL then_ s m).2 (B + 20 * m)
  | 0, s, B, h => h
  | m + 1, s, B, h => by
    unfold Jvm.Pilot.@@N@@.psL
    split
    · exact h.mono (by omega)
    · rename_i e he
      split
      · have h1 := Wt.psL (then_ := then_) (m := m) (Wt.hap h (nx_lt he))
        rw [show B + 20 + 20 * m = B + 20 * (m + 1) by omega] at h1
        exact h1
      · exact h.mono (by omega)
