/-! The model: hazards, stable states, explanations, time that passes -/
def fdS (s : Nat → Nat) : Nat := mk (stB s 4) (s 1)
def andn (a b : Nat) : Nat := a &&& (65535 ^^^ b)
theorem andn_int {a b : Nat} (ha : a < 65536) : nI a &&& (nI b ^^^ (-1)) = nI (andn a b) := by
  unfold andn
  apply Int32.toBitVec_inj.mp
  rw [Int32.toBitVec_and, Int32.toBitVec_xor, show (-1 : Int32).toBitVec = BitVec.allOnes 32 from rfl, BitVec.xor_allOnes]
  apply BitVec.eq_of_getLsbD_eq
  intro i hi
  show (BitVec.ofNat 32 a &&& ~~~ (BitVec.ofNat 32 b)).getLsbD i = (BitVec.ofNat 32 (a &&& (65535 ^^^ b))).getLsbD i
  simp only [BitVec.getLsbD_and, BitVec.getLsbD_not, BitVec.getLsbD_ofNat, hi, decide_true, Bool.true_and, Nat.testBit_and, Nat.testBit_xor]
  rw [show 65535 = 2 ^ 16 - 1 from rfl, Nat.testBit_two_pow_sub_one]
  by_cases h : i < 16
  · simp [h]
  · have h2 : a.testBit i = false := testBit_lt (m := 16) ha (by omega)
    simp [h2]
