/-! The model: calls that change relays and circuits -/
def clr (a x : Nat) : Nat := a &&& (65535 ^^^ (1 <<< x))
theorem clr_bit {a x i : Nat} (ha : a < 65536) : (clr a x).testBit i = (a.testBit i && decide (i ≠ x)) := by
  unfold clr
  rw [Nat.testBit_and, Nat.testBit_xor, show 65535 = 2 ^ 16 - 1 from rfl, Nat.testBit_two_pow_sub_one, Nat.one_shiftLeft, Nat.testBit_two_pow]
  by_cases h : i < 16
  · by_cases e : x = i
    · subst e; simp [h]
    · have e' : ¬ i = x := fun q => e q.symm
      simp [h, e, e']
  · have h2 : a.testBit i = false := testBit_lt (m := 16) ha (by omega)
    simp [h2]
theorem clr_lt {a x : Nat} (ha : a < 65536) : clr a x < 65536 := Nat.lt_of_le_of_lt Nat.and_le_left ha
theorem or_lt16 {a x : Nat} (ha : a < 65536) (hx : x < 16) : a ||| 1 <<< x < 65536 := by
  apply Nat.or_lt_two_pow (n := 16) ha
  rw [Nat.one_shiftLeft]
  exact Nat.pow_lt_pow_right (by decide) hx
def cnS (s : Nat → Nat) (r b x how : Nat) : Nat → Nat := upN (upN s (ix r (13 + 2 * b)) (if how = 1 then clr (vv s r (13 + 2 * b)) x ||| 1 <<< x else clr (vv s r (13 + 2 * b)) x)) (ix r (13 + 2 * b + 1)) (if how = 2 then clr (vv s r (13 + 2 * b + 1)) x ||| 1 <<< x else clr (vv s r (13 + 2 * b + 1)) x)
def opS (s : Nat → Nat) (r : Nat) : Nat → Nat := upN (upN (upN s (ix r (13 + 2 * vv s r 12)) 0) (ix r (13 + 2 * vv s r 12 + 1)) 0) (ix r 12) (vv s r 12 + 1)
theorem Wt.m16 {s : Nat → Nat} {B r x : Nat} (h : Wt s B) (hr : r < s 1) (h1 : 13 ≤ x) (hx : x < 25) : vv s r x < 65536 := by
  have h2 := h.2.2.2 r hr x hx
  unfold bdF at h2
  repeat' split at h2
  all_goals omega
theorem Wt.cnS {s : Nat → Nat} {B r b x how : Nat} (h : Wt s B) (hr : r < s 1) (hb : b < 6) (hx : x < 16) : Wt (cnS s r b x how) B := by
  have h1 := h.m16 hr (x := 13 + 2 * b) (by omega) (by omega)
  have h2 := h.m16 hr (x := 13 + 2 * b + 1) (by omega) (by omega)
  have hbd : ∀ y, 13 ≤ y → bdF B y = 65535 := fun y hy => by
    unfold bdF
    repeat' split
    all_goals omega
  unfold Jvm.Pilot.@@N@@.cnS
  refine Wt.up (Wt.up h (by omega) ?_) (by omega) ?_
  · rw [hbd _ (by omega)]
    split
    · have := or_lt16 (clr_lt (x := x) h1) hx; omega
    · have := clr_lt (x := x) h1; omega
  · rw [hbd _ (by omega)]
    split
    · have := or_lt16 (clr_lt (x := x) h2) hx; omega
    · have := clr_lt (x := x) h2; omega
theorem Wt.opS {s : Nat → Nat} {B r : Nat} (h : Wt s B) (hb : vv s r 12 < 6) : Wt (opS s r) B := by
  unfold Jvm.Pilot.@@N@@.opS
  refine Wt.up (Wt.up (Wt.up h (by omega) (Nat.zero_le _)) (by omega) (Nat.zero_le _)) (by decide) ?_
  simp [bdF]
  omega
