/-! Numbers as naturals: aZ a is the int nI a -/
abbrev aZ (a : Nat) : AV := aI (nI a)
abbrev zA (N : Nat) (f : Nat → Nat) : AC := cArr 0 N (fun j => nI (f j))
def upN (f : Nat → Nat) (k x : Nat) : Nat → Nat := fun j => if j = k then x else f j
theorem upN_self (f : Nat → Nat) (k x : Nat) : upN f k x k = x := by simp [upN]
theorem upN_ne (f : Nat → Nat) (k x : Nat) {j : Nat} (h : j ≠ k) : upN f k x j = f j := by simp [upN, h]
theorem upd_nI (f : Nat → Nat) (k x : Nat) : upd (fun j => nI (f j)) k (nI x) = fun j => nI (upN f k x j) := by
  funext j
  unfold upd upN
  split <;> rfl
theorem nI_tn (a : Nat) : (nI a).toBitVec.toNat = a % 4294967296 := by
  show (BitVec.ofNat 32 a).toNat = _
  rw [BitVec.toNat_ofNat]
theorem nI_ext {x y : Int32} (h : x.toBitVec.toNat = y.toBitVec.toNat) : x = y := Int32.toBitVec_inj.mp (BitVec.eq_of_toNat_eq h)
theorem nI_inj {a b : Nat} (ha : a < 4294967296) (hb : b < 4294967296) : nI a = nI b ↔ a = b := by
  constructor
  · intro h
    have h1 : (nI a).toBitVec.toNat = (nI b).toBitVec.toNat := by rw [h]
    rw [nI_tn, nI_tn, Nat.mod_eq_of_lt ha, Nat.mod_eq_of_lt hb] at h1
    exact h1
  · rintro rfl
    rfl
theorem nI_z {a : Nat} (ha : a < 4294967296) : nI a = 0 ↔ a = 0 := by
  rw [← nI_0]
  exact nI_inj ha (by decide)
theorem nI_mul (a b : Nat) : nI a * nI b = nI (a * b) := (Int32.ofNat_mul a b).symm
theorem nI_sub {a b : Nat} (h : b ≤ a) : nI a - nI b = nI (a - b) := by
  have e : nI a = nI (a - b) + nI b := by rw [nI_add, Nat.sub_add_cancel h]
  rw [e, Int32.add_sub_cancel]
theorem nI_and (a b : Nat) : nI a &&& nI b = nI (a &&& b) := by
  apply nI_ext
  rw [Int32.toBitVec_and, BitVec.toNat_and, nI_tn, nI_tn, nI_tn]
  apply Nat.eq_of_testBit_eq
  intro i
  rw [show 4294967296 = 2 ^ 32 from rfl, Nat.testBit_and, Nat.testBit_mod_two_pow, Nat.testBit_mod_two_pow, Nat.testBit_mod_two_pow, Nat.testBit_and]
  cases decide (i < 32) <;> simp
theorem nI_or (a b : Nat) : nI a ||| nI b = nI (a ||| b) := by
  apply nI_ext
  rw [Int32.toBitVec_or, BitVec.toNat_or, nI_tn, nI_tn, nI_tn]
  apply Nat.eq_of_testBit_eq
  intro i
  rw [show 4294967296 = 2 ^ 32 from rfl, Nat.testBit_or, Nat.testBit_mod_two_pow, Nat.testBit_mod_two_pow, Nat.testBit_mod_two_pow, Nat.testBit_or]
  cases decide (i < 32) <;> simp
theorem nI_xor (a b : Nat) : nI a ^^^ nI b = nI (a ^^^ b) := by
  apply nI_ext
  rw [Int32.toBitVec_xor, BitVec.toNat_xor, nI_tn, nI_tn, nI_tn]
  apply Nat.eq_of_testBit_eq
  intro i
  rw [show 4294967296 = 2 ^ 32 from rfl, Nat.testBit_xor, Nat.testBit_mod_two_pow, Nat.testBit_mod_two_pow, Nat.testBit_mod_two_pow, Nat.testBit_xor]
  cases decide (i < 32) <;> simp
theorem sh_l : ∀ k, k < 32 → ((nI k &&& 31).toBitVec.smod 32).toNat = k := by decide +kernel
theorem sh_u : ∀ k, k < 32 → ((nI k).toUInt32 &&& Int32.toUInt32 31).toNat % 32 = k := by decide +kernel
theorem nI_shl (a : Nat) {k : Nat} (hk : k < 32) : nI a <<< (nI k &&& 31) = nI (a <<< k) := by
  apply nI_ext
  rw [Int32.toBitVec_shiftLeft, BitVec.shiftLeft_eq', BitVec.toNat_shiftLeft, sh_l k hk, nI_tn, nI_tn]
  show _ % 2 ^ 32 = _ % 2 ^ 32
  rw [Nat.shiftLeft_eq, Nat.shiftLeft_eq, show 4294967296 = 2 ^ 32 from rfl, Nat.mod_mul_mod]
theorem nI_ushr {a k : Nat} (ha : a < 4294967296) (hk : k < 32) : ((nI a).toUInt32 >>> ((nI k).toUInt32 &&& Int32.toUInt32 31)).toInt32 = nI (a >>> k) := by
  apply nI_ext
  have h1 : ((nI a).toUInt32 >>> ((nI k).toUInt32 &&& Int32.toUInt32 31)).toNat = a >>> k := by
    rw [UInt32.toNat_shiftRight, sh_u k hk]
    show (nI a).toBitVec.toNat >>> k = _
    rw [nI_tn, Nat.mod_eq_of_lt ha]
  show ((nI a).toUInt32 >>> ((nI k).toUInt32 &&& Int32.toUInt32 31)).toNat = _
  rw [h1, nI_tn, Nat.mod_eq_of_lt]
  exact Nat.lt_of_le_of_lt (Nat.shiftRight_le a k) ha
theorem nI_sshr {a k : Nat} (ha : a < 2147483648) (hk : k < 32) : nI a >>> (nI k &&& 31) = nI (a >>> k) := by
  apply nI_ext
  rw [Int32.toBitVec_shiftRight, BitVec.sshiftRight_eq', BitVec.toNat_sshiftRight_of_msb_false, sh_l k hk, nI_tn, nI_tn, Nat.mod_eq_of_lt (by omega), Nat.mod_eq_of_lt]
  · exact Nat.lt_of_le_of_lt (Nat.shiftRight_le a k) (by omega)
  · rw [BitVec.msb_eq_false_iff_two_mul_lt, nI_tn, Nat.mod_eq_of_lt (by omega)]
    omega
theorem nI_div {a b : Nat} (ha : a < 2147483648) (hb : b < 2147483648) : nI a / nI b = nI (a / b) := by
  apply Int32.toInt_inj.mp
  have hq : a / b ≤ a := Nat.div_le_self a b
  rw [Int32.toInt_div_of_ne_left, nI_toInt ha, nI_toInt hb, nI_toInt (by omega)]
  · rw [Int.tdiv_eq_ediv_of_nonneg (by omega)]
    rfl
  · intro h
    have h2 : (nI a).toInt = Int32.minValue.toInt := by rw [h]
    rw [nI_toInt ha] at h2
    have h3 : Int32.minValue.toInt = -2147483648 := by decide
    omega
theorem nI_rem {a b : Nat} (ha : a < 2147483648) (hb : b < 2147483648) : nI a - nI a / nI b * nI b = nI (a % b) := by
  rw [nI_div ha hb, nI_mul, nI_sub (Nat.div_mul_le_self a b)]
  congr 1
  have := Nat.div_add_mod a b
  rw [Nat.mul_comm] at this
  omega
theorem nI_i2c {a : Nat} (h : a < 65536) : ((nI a).toUInt32 % 65536).toInt32 = nI a := by
  apply nI_ext
  show ((nI a).toUInt32 % 65536).toNat = _
  rw [UInt32.toNat_mod, show (65536 : UInt32).toNat = 65536 from rfl]
  show (nI a).toBitVec.toNat % 65536 = _
  rw [nI_tn, Nat.mod_eq_of_lt (a := a) (by omega), Nat.mod_eq_of_lt h]
theorem nar_b (p : Bool) : narrow .boolean (.int (nI p.toNat)) = .int (nI p.toNat) := by cases p <;> rfl
/-- what a method that makes nothing leaves -/
def Nz (n : Nat) (Q : Option AV → (Nat → AC) → Prop) : Option AV → Nat → (Nat → AC) → Prop := fun r n' w' => n' = n ∧ Q r w'
def Rs (r : Option AV) (w : Nat → AC) : Option AV → (Nat → AC) → Prop := fun r' w' => r' = r ∧ w' = w
abbrev Sq (l : Launch) (z : MethodName) (cz : ByteArray) (mz : Nat) (rz : Option FieldType) (d : Nat) (as : List AV) (n : Nat) (w : Nat → AC) (Q : Option AV → (Nat → AC) → Prop) : Prop := Sp l z cz mz rz d 0 0 as n w (Nz n Q)
/-- all cells outside k .. k + m stay -/
def Fr (k m : Nat) (w w' : Nat → AC) : Prop := ∀ j, (j < k ∨ k + m ≤ j) → w' j = w j
theorem Fr.rf {k m : Nat} {w : Nat → AC} : Fr k m w w := fun _ _ => rfl
theorem Fr.tr {k m : Nat} {w w1 w2 : Nat → AC} (h : Fr k m w w1) (g : Fr k m w1 w2) : Fr k m w w2 := fun j hj => (g j hj).trans (h j hj)
theorem Fr.up {k m i : Nat} {w : Nat → AC} {c : AC} (h : k ≤ i) (h2 : i < k + m) : Fr k m w (upw w i c) := fun j hj => upw_ne _ _ _ (by omega)
theorem Fr.wide {k m k' m' : Nat} {w w' : Nat → AC} (h : Fr k m w w') (h1 : k' ≤ k) (h2 : k + m ≤ k' + m') : Fr k' m' w w' := fun j hj => h j (by omega)
section
variable {Γ : Gm} {l : Launch} {y : MethodName} {cc : ByteArray} {mL d mc ms : Nat} {pc n : Nat} {L st : List AV} {cs : Nat × Nat} {w : Nat → AC}
theorem qz_iadd (hΓ : Ok Γ l y cc mL d mc ms) {a b : Nat} (hd : decode cc pc = .ok (.iadd, 1)) (k : Γ (pc + 1) L (aZ (a + b) :: st) cs n w) : Γ pc L (aZ b :: aZ a :: st) cs n w := qa_iadd hΓ hd (by rw [nI_add]; exact k)
theorem qz_imul (hΓ : Ok Γ l y cc mL d mc ms) {a b : Nat} (hd : decode cc pc = .ok (.imul, 1)) (k : Γ (pc + 1) L (aZ (a * b) :: st) cs n w) : Γ pc L (aZ b :: aZ a :: st) cs n w := qa_imul hΓ hd (by rw [nI_mul]; exact k)
theorem qz_isub (hΓ : Ok Γ l y cc mL d mc ms) {a b : Nat} (hd : decode cc pc = .ok (.isub, 1)) (h : b ≤ a) (k : Γ (pc + 1) L (aZ (a - b) :: st) cs n w) : Γ pc L (aZ b :: aZ a :: st) cs n w := qa_isub hΓ hd (by rw [nI_sub h]; exact k)
theorem qz_iand (hΓ : Ok Γ l y cc mL d mc ms) {a b : Nat} (hd : decode cc pc = .ok (.iand, 1)) (k : Γ (pc + 1) L (aZ (a &&& b) :: st) cs n w) : Γ pc L (aZ b :: aZ a :: st) cs n w := qa_iand hΓ hd (by rw [nI_and]; exact k)
theorem qz_ior (hΓ : Ok Γ l y cc mL d mc ms) {a b : Nat} (hd : decode cc pc = .ok (.ior, 1)) (k : Γ (pc + 1) L (aZ (a ||| b) :: st) cs n w) : Γ pc L (aZ b :: aZ a :: st) cs n w := qa_ior hΓ hd (by rw [nI_or]; exact k)
theorem qz_ixor (hΓ : Ok Γ l y cc mL d mc ms) {a b : Nat} (hd : decode cc pc = .ok (.ixor, 1)) (k : Γ (pc + 1) L (aZ (a ^^^ b) :: st) cs n w) : Γ pc L (aZ b :: aZ a :: st) cs n w := qa_ixor hΓ hd (by rw [nI_xor]; exact k)
theorem qz_ishl (hΓ : Ok Γ l y cc mL d mc ms) {a b : Nat} (hd : decode cc pc = .ok (.ishl, 1)) (h : b < 32) (k : Γ (pc + 1) L (aZ (a <<< b) :: st) cs n w) : Γ pc L (aZ b :: aZ a :: st) cs n w := qa_ishl hΓ hd (by rw [nI_shl a h]; exact k)
theorem qz_ishr (hΓ : Ok Γ l y cc mL d mc ms) {a b : Nat} (hd : decode cc pc = .ok (.ishr, 1)) (ha : a < 2147483648) (h : b < 32) (k : Γ (pc + 1) L (aZ (a >>> b) :: st) cs n w) : Γ pc L (aZ b :: aZ a :: st) cs n w := qa_ishr hΓ hd (by rw [nI_sshr ha h]; exact k)
theorem qz_iushr (hΓ : Ok Γ l y cc mL d mc ms) {a b : Nat} (hd : decode cc pc = .ok (.iushr, 1)) (ha : a < 4294967296) (h : b < 32) (k : Γ (pc + 1) L (aZ (a >>> b) :: st) cs n w) : Γ pc L (aZ b :: aZ a :: st) cs n w := qa_iushr hΓ hd (nI_ushr ha h) k
theorem qz_idiv (hΓ : Ok Γ l y cc mL d mc ms) {a b : Nat} (hd : decode cc pc = .ok (.idiv, 1)) (ha : a < 2147483648) (hb : b < 2147483648) (h0 : 0 < b) (k : Γ (pc + 1) L (aZ (a / b) :: st) cs n w) : Γ pc L (aZ b :: aZ a :: st) cs n w := qa_idiv hΓ hd (nI_ne0 h0 hb) (by rw [nI_div ha hb]; exact k)
theorem qz_irem (hΓ : Ok Γ l y cc mL d mc ms) {a b : Nat} (hd : decode cc pc = .ok (.irem, 1)) (ha : a < 2147483648) (hb : b < 2147483648) (h0 : 0 < b) (k : Γ (pc + 1) L (aZ (a % b) :: st) cs n w) : Γ pc L (aZ b :: aZ a :: st) cs n w := qa_irem hΓ hd (nI_ne0 h0 hb) (by rw [nI_rem ha hb]; exact k)
theorem qz_i2c (hΓ : Ok Γ l y cc mL d mc ms) {a : Nat} (hd : decode cc pc = .ok (.i2c, 1)) (ha : a < 65536) (k : Γ (pc + 1) L (aZ a :: st) cs n w) : Γ pc L (aZ a :: st) cs n w := qa_i2c hΓ hd (nI_i2c ha) k
theorem qz_iinc (hΓ : Ok Γ l y cc mL d mc ms) {j a k0 : Nat} {b : Int} (hd : decode cc pc = .ok (.iinc j b, 3)) (hb : Int32.ofInt b = nI k0) (hl : lg L j = aZ a) (hn : j < mL) (k : Γ (pc + 3) (L.set j (aZ (a + k0))) st cs n w) (hs : lsf L j = true := by rfl) : Γ pc L st cs n w := qa_iinc hΓ hd hl (by rw [hb, nI_add]) hn k hs
theorem qz_icmp_lt (hΓ : Ok Γ l y cc mL d mc ms) {a b : Nat} {off : Int} {tgt : Nat} (hd : decode cc pc = .ok (.if_icmp .lt off, 3)) (ht : (pc : Int) + off = (tgt : Int)) (ha : a < 2147483648) (hb : b < 2147483648) (kt : a < b → Γ tgt L st cs n w) (kf : b ≤ a → Γ (pc + 3) L st cs n w) : Γ pc L (aZ b :: aZ a :: st) cs n w := qa_icmp_lt hΓ hd ht (fun h => kt ((nI_ltI ha hb).mp h)) (fun h => kf (by have h2 := mt (nI_ltI ha hb).mpr h; omega))
theorem qz_icmp_ge (hΓ : Ok Γ l y cc mL d mc ms) {a b : Nat} {off : Int} {tgt : Nat} (hd : decode cc pc = .ok (.if_icmp .ge off, 3)) (ht : (pc : Int) + off = (tgt : Int)) (ha : a < 2147483648) (hb : b < 2147483648) (kt : b ≤ a → Γ tgt L st cs n w) (kf : a < b → Γ (pc + 3) L st cs n w) : Γ pc L (aZ b :: aZ a :: st) cs n w := qa_icmp_ge hΓ hd ht (fun h => kt ((nI_leI hb ha).mp h)) (fun h => kf (by have h2 := mt (nI_leI hb ha).mpr h; omega))
theorem qz_icmp_gt (hΓ : Ok Γ l y cc mL d mc ms) {a b : Nat} {off : Int} {tgt : Nat} (hd : decode cc pc = .ok (.if_icmp .gt off, 3)) (ht : (pc : Int) + off = (tgt : Int)) (ha : a < 2147483648) (hb : b < 2147483648) (kt : b < a → Γ tgt L st cs n w) (kf : a ≤ b → Γ (pc + 3) L st cs n w) : Γ pc L (aZ b :: aZ a :: st) cs n w := qa_icmp_gt hΓ hd ht (fun h => kt ((nI_ltI hb ha).mp h)) (fun h => kf (by have h2 := mt (nI_ltI hb ha).mpr h; omega))
theorem qz_icmp_le (hΓ : Ok Γ l y cc mL d mc ms) {a b : Nat} {off : Int} {tgt : Nat} (hd : decode cc pc = .ok (.if_icmp .le off, 3)) (ht : (pc : Int) + off = (tgt : Int)) (ha : a < 2147483648) (hb : b < 2147483648) (kt : a ≤ b → Γ tgt L st cs n w) (kf : b < a → Γ (pc + 3) L st cs n w) : Γ pc L (aZ b :: aZ a :: st) cs n w := qa_icmp_le hΓ hd ht (fun h => kt ((nI_leI ha hb).mp h)) (fun h => kf (by have h2 := mt (nI_leI ha hb).mpr h; omega))
theorem qz_icmp_eq (hΓ : Ok Γ l y cc mL d mc ms) {a b : Nat} {off : Int} {tgt : Nat} (hd : decode cc pc = .ok (.if_icmp .eq off, 3)) (ht : (pc : Int) + off = (tgt : Int)) (ha : a < 4294967296) (hb : b < 4294967296) (kt : a = b → Γ tgt L st cs n w) (kf : ¬ a = b → Γ (pc + 3) L st cs n w) : Γ pc L (aZ b :: aZ a :: st) cs n w := qa_icmp_eq hΓ hd ht (fun h => kt ((nI_inj ha hb).mp h)) (fun h => kf (fun e => h (by rw [e])))
theorem qz_if_eq (hΓ : Ok Γ l y cc mL d mc ms) {a : Nat} {off : Int} {tgt : Nat} (hd : decode cc pc = .ok (.ifCond .eq off, 3)) (ht : (pc : Int) + off = (tgt : Int)) (ha : a < 4294967296) (kt : a = 0 → Γ tgt L st cs n w) (kf : ¬ a = 0 → Γ (pc + 3) L st cs n w) : Γ pc L (aZ a :: st) cs n w := qa_if_eq hΓ hd ht (fun h => kt ((nI_z ha).mp h)) (fun h => kf (fun e => h (by rw [e]; rfl)))
theorem qz_icmp_ne (hΓ : Ok Γ l y cc mL d mc ms) {a b : Nat} {off : Int} {tgt : Nat} (hd : decode cc pc = .ok (.if_icmp .ne off, 3)) (ht : (pc : Int) + off = (tgt : Int)) (ha : a < 4294967296) (hb : b < 4294967296) (kt : ¬ a = b → Γ tgt L st cs n w) (kf : a = b → Γ (pc + 3) L st cs n w) : Γ pc L (aZ b :: aZ a :: st) cs n w := qa_icmp_ne hΓ hd ht (fun h => kt (fun e => h (by rw [e]))) (fun h => kf ((nI_inj ha hb).mp h))
theorem qz_if_ne (hΓ : Ok Γ l y cc mL d mc ms) {a : Nat} {off : Int} {tgt : Nat} (hd : decode cc pc = .ok (.ifCond .ne off, 3)) (ht : (pc : Int) + off = (tgt : Int)) (ha : a < 4294967296) (kt : ¬ a = 0 → Γ tgt L st cs n w) (kf : a = 0 → Γ (pc + 3) L st cs n w) : Γ pc L (aZ a :: st) cs n w := qa_if_ne hΓ hd ht (fun h => kt (fun e => h (by rw [e]; rfl))) (fun h => kf ((nI_z ha).mp h))
theorem qb_if_eq (hΓ : Ok Γ l y cc mL d mc ms) {p : Bool} {off : Int} {tgt : Nat} (hd : decode cc pc = .ok (.ifCond .eq off, 3)) (ht : (pc : Int) + off = (tgt : Int)) (kt : p = false → Γ tgt L st cs n w) (kf : p = true → Γ (pc + 3) L st cs n w) : Γ pc L (aZ p.toNat :: st) cs n w := qz_if_eq hΓ hd ht (by cases p <;> decide) (fun h => kt (by cases p <;> first | rfl | exact absurd rfl h | cases h)) (fun h => kf (by cases p <;> first | rfl | exact absurd rfl h | cases h))
theorem qb_if_ne (hΓ : Ok Γ l y cc mL d mc ms) {p : Bool} {off : Int} {tgt : Nat} (hd : decode cc pc = .ok (.ifCond .ne off, 3)) (ht : (pc : Int) + off = (tgt : Int)) (kt : p = true → Γ tgt L st cs n w) (kf : p = false → Γ (pc + 3) L st cs n w) : Γ pc L (aZ p.toNat :: st) cs n w := qz_if_ne hΓ hd ht (by cases p <;> decide) (fun h => kt (by cases p <;> first | rfl | exact absurd rfl h | cases h)) (fun h => kf (by cases p <;> first | rfl | exact absurd rfl h | cases h))
theorem qz_if_lt (hΓ : Ok Γ l y cc mL d mc ms) {a : Nat} {off : Int} {tgt : Nat} (hd : decode cc pc = .ok (.ifCond .lt off, 3)) (ht : (pc : Int) + off = (tgt : Int)) (ha : a < 2147483648) (kf : Γ (pc + 3) L st cs n w) : Γ pc L (aZ a :: st) cs n w := qa_if_lt hΓ hd ht (fun h => absurd h (nI_pos ha)) (fun _ => kf)
theorem qz_if_ge (hΓ : Ok Γ l y cc mL d mc ms) {a : Nat} {off : Int} {tgt : Nat} (hd : decode cc pc = .ok (.ifCond .ge off, 3)) (ht : (pc : Int) + off = (tgt : Int)) (ha : a < 2147483648) (kt : Γ tgt L st cs n w) : Γ pc L (aZ a :: st) cs n w := qa_if_ge hΓ hd ht (fun _ => kt) (fun h => absurd (nI_pos' ha) h)
theorem qz_if_le (hΓ : Ok Γ l y cc mL d mc ms) {a : Nat} {off : Int} {tgt : Nat} (hd : decode cc pc = .ok (.ifCond .le off, 3)) (ht : (pc : Int) + off = (tgt : Int)) (ha : a < 2147483648) (kt : a = 0 → Γ tgt L st cs n w) (kf : 0 < a → Γ (pc + 3) L st cs n w) : Γ pc L (aZ a :: st) cs n w := qa_if_le hΓ hd ht (fun h => kt (by rcases Nat.eq_zero_or_pos a with q | q; exact q; exact absurd h (nI_nle q ha))) (fun h => kf (by rcases Nat.eq_zero_or_pos a with q | q; subst q; exact absurd (Int32.le_refl _) h; exact q))
theorem qz_iald (hΓ : Ok Γ l y cc mL d mc ms) {k0 N j : Nat} {f : Nat → Nat} (hd : decode cc pc = .ok (.iaload, 1)) (hk : k0 < n) (hw : w k0 = zA N f) (hj : j < N) (hN : N < 2147483648) (kk : Γ (pc + 1) L (aZ (f j) :: st) cs n w) : Γ pc L (aZ j :: aR k0 :: st) cs n w := qa_iald hΓ hd hk hw (vp_in_nI hj hN) (by rw [nI_clamp (by omega)]; exact kk)
theorem qz_iast (hΓ : Ok Γ l y cc mL d mc ms) {k0 N j x : Nat} {f : Nat → Nat} (hd : decode cc pc = .ok (.iastore, 1)) (hk : k0 < n) (hw : w k0 = zA N f) (hj : j < N) (hN : N < 2147483648) (kk : Γ (pc + 1) L st cs n (upw w k0 (zA N (upN f j x)))) : Γ pc L (aZ x :: aZ j :: aR k0 :: st) cs n w := qa_iast hΓ hd hk hw (vp_in_nI hj hN) (by rw [nI_clamp (by omega), upd_nI]; exact kk)
theorem qr_i {Q : Option AV → (Nat → AC) → Prop} (hR : Rt Γ cc (some .int) 0 0 (Nz n Q)) (hd : decode cc pc = .ok (.ireturn, 1)) {x : Int32} (hq : Q (some (aI x)) w) : Γ pc L [aI x] (0, 0) n w := hR.1 pc L x (0, 0) n w hd ⟨.int, rfl, rfl⟩ (Nat.le_refl _) (Nat.le_refl _) ⟨rfl, hq⟩
theorem qr_b {Q : Option AV → (Nat → AC) → Prop} (hR : Rt Γ cc (some .boolean) 0 0 (Nz n Q)) (hd : decode cc pc = .ok (.ireturn, 1)) {p : Bool} (hq : Q (some (aZ p.toNat)) w) : Γ pc L [aZ p.toNat] (0, 0) n w := hR.1 pc L _ (0, 0) n w hd ⟨.boolean, rfl, nar_b p⟩ (Nat.le_refl _) (Nat.le_refl _) ⟨rfl, hq⟩
theorem qr_v {Q : Option AV → (Nat → AC) → Prop} (hR : Rt Γ cc none 0 0 (Nz n Q)) (hd : decode cc pc = .ok (.return_, 1)) (hq : Q none w) : Γ pc L [] (0, 0) n w := hR.2.1 pc L (0, 0) n w hd rfl (Nat.le_refl _) (Nat.le_refl _) ⟨rfl, hq⟩
theorem qr_a {C : String} {Q : Option AV → (Nat → AC) → Prop} (hR : Rt Γ cc (some (.object C)) 0 0 (Nz n Q)) (hd : decode cc pc = .ok (.areturn, 1)) {v : Option Nat} (hq : Q (some (some (.inr v))) w) : Γ pc L [some (.inr v)] (0, 0) n w := hR.2.2.1 pc L v (0, 0) n w hd ⟨C, rfl⟩ (Nat.le_refl _) (Nat.le_refl _) ⟨rfl, hq⟩
variable {idx mz np d' k0 : Nat} {z : MethodName} {cz : ByteArray} {rz : Option FieldType} {as st0 : List AV} {Q : Option AV → (Nat → AC) → Prop} {r : Option AV} {v : AV} {w' : Nat → AC}
theorem qc_V (hΓ : Ok Γ l y cc mL d 0 0) (hd : decode cc pc = .ok (.invokevirtual idx, 3)) (hlk : Cond.methodLink y.cls idx z ∈ wsL_law) (hz : VW z cz mz rz np) (hdd : d' + 1 ≤ d) (hS : Sq l z cz mz rz d' (aR k0 :: as) n w Q) (hnp : as.length = np) {ci : Nat} {fs : List AV} {T : u_T} {N : Nat} (hk : k0 < n) (hw : w k0 = cObj ci fs) (hc : vwCl[ci]? = some (z.cls, T, N)) (hst : st0 = as.reverse ++ aR k0 :: st) (hl8 : st.length ≤ 4) (kk : ∀ r w', Q r w' → Γ (pc + 3) L (r.toList ++ st) (0, 0) n w') : Γ pc L st0 (0, 0) n w := qa_callV hΓ hd hlk hz hS hdd hnp hk hw hc hst hl8 ⟨Nat.le_refl _, Nat.le_refl _⟩ (fun _ _ _ h => h.1) (fun r w' h => kk r w' h.2)
theorem qc_V1 (hΓ : Ok Γ l y cc mL d 0 0) (hd : decode cc pc = .ok (.invokevirtual idx, 3)) (hlk : Cond.methodLink y.cls idx z ∈ wsL_law) (hz : VW z cz mz rz np) (hdd : d' + 1 ≤ d) (hS : Sq l z cz mz rz d' (aR k0 :: as) n w (Rs (some v) w')) (hnp : as.length = np) {ci : Nat} {fs : List AV} {T : u_T} {N : Nat} (hk : k0 < n) (hw : w k0 = cObj ci fs) (hc : vwCl[ci]? = some (z.cls, T, N)) (hst : st0 = as.reverse ++ aR k0 :: st) (hl8 : st.length ≤ 4) (kk : Γ (pc + 3) L (v :: st) (0, 0) n w') : Γ pc L st0 (0, 0) n w := qc_V hΓ hd hlk hz hdd hS hnp hk hw hc hst hl8 (fun r u h => by obtain ⟨rfl, rfl⟩ := h; exact kk)
theorem qc_V0 (hΓ : Ok Γ l y cc mL d 0 0) (hd : decode cc pc = .ok (.invokevirtual idx, 3)) (hlk : Cond.methodLink y.cls idx z ∈ wsL_law) (hz : VW z cz mz rz np) (hdd : d' + 1 ≤ d) (hS : Sq l z cz mz rz d' (aR k0 :: as) n w (Rs none w')) (hnp : as.length = np) {ci : Nat} {fs : List AV} {T : u_T} {N : Nat} (hk : k0 < n) (hw : w k0 = cObj ci fs) (hc : vwCl[ci]? = some (z.cls, T, N)) (hst : st0 = as.reverse ++ aR k0 :: st) (hl8 : st.length ≤ 4) (kk : Γ (pc + 3) L st (0, 0) n w') : Γ pc L st0 (0, 0) n w := qc_V hΓ hd hlk hz hdd hS hnp hk hw hc hst hl8 (fun r u h => by obtain ⟨rfl, rfl⟩ := h; exact kk)
theorem qc_S (hΓ : Ok Γ l y cc mL d 0 0) (hd : decode cc pc = .ok (.invokestatic idx, 3)) (hlk : Cond.methodLink y.cls idx z ∈ wsL_law) (hz : SW z cz mz rz np) (hdd : d' + 1 ≤ d) (hS : Sq l z cz mz rz d' as n w Q) (hnp : as.length = np) (hst : st0 = as.reverse ++ st) (hl8 : st.length ≤ 4) (kk : ∀ r w', Q r w' → Γ (pc + 3) L (r.toList ++ st) (0, 0) n w') : Γ pc L st0 (0, 0) n w := qa_callS hΓ hd hlk hz hS hdd hnp hst hl8 ⟨Nat.le_refl _, Nat.le_refl _⟩ (fun _ _ _ h => h.1) (fun r w' h => kk r w' h.2)
theorem qc_S1 (hΓ : Ok Γ l y cc mL d 0 0) (hd : decode cc pc = .ok (.invokestatic idx, 3)) (hlk : Cond.methodLink y.cls idx z ∈ wsL_law) (hz : SW z cz mz rz np) (hdd : d' + 1 ≤ d) (hS : Sq l z cz mz rz d' as n w (Rs (some v) w')) (hnp : as.length = np) (hst : st0 = as.reverse ++ st) (hl8 : st.length ≤ 4) (kk : Γ (pc + 3) L (v :: st) (0, 0) n w') : Γ pc L st0 (0, 0) n w := qc_S hΓ hd hlk hz hdd hS hnp hst hl8 (fun r u h => by obtain ⟨rfl, rfl⟩ := h; exact kk)
theorem qc_S0 (hΓ : Ok Γ l y cc mL d 0 0) (hd : decode cc pc = .ok (.invokestatic idx, 3)) (hlk : Cond.methodLink y.cls idx z ∈ wsL_law) (hz : SW z cz mz rz np) (hdd : d' + 1 ≤ d) (hS : Sq l z cz mz rz d' as n w (Rs none w')) (hnp : as.length = np) (hst : st0 = as.reverse ++ st) (hl8 : st.length ≤ 4) (kk : Γ (pc + 3) L st (0, 0) n w') : Γ pc L st0 (0, 0) n w := qc_S hΓ hd hlk hz hdd hS hnp hst hl8 (fun r u h => by obtain ⟨rfl, rfl⟩ := h; exact kk)
theorem qc_N (hΓ : Ok Γ l y cc mL d 0 0) (hd : decode cc pc = .ok (.invokestatic idx, 3)) (hlk : (y.cls, idx, z) ∈ nestG) (hz : SW z cz mz rz np) (hdd : d' + 1 ≤ d) (hS : Sq l z cz mz rz d' as n w Q) (hnp : as.length = np) (hst : st0 = as.reverse ++ st) (hl8 : st.length ≤ 4) (kk : ∀ r w', Q r w' → Γ (pc + 3) L (r.toList ++ st) (0, 0) n w') : Γ pc L st0 (0, 0) n w := qa_callN hΓ hd hlk hz hS hdd hnp hst hl8 ⟨Nat.le_refl _, Nat.le_refl _⟩ (fun _ _ _ h => h.1) (fun r w' h => kk r w' h.2)
theorem qc_N1 (hΓ : Ok Γ l y cc mL d 0 0) (hd : decode cc pc = .ok (.invokestatic idx, 3)) (hlk : (y.cls, idx, z) ∈ nestG) (hz : SW z cz mz rz np) (hdd : d' + 1 ≤ d) (hS : Sq l z cz mz rz d' as n w (Rs (some v) w')) (hnp : as.length = np) (hst : st0 = as.reverse ++ st) (hl8 : st.length ≤ 4) (kk : Γ (pc + 3) L (v :: st) (0, 0) n w') : Γ pc L st0 (0, 0) n w := qc_N hΓ hd hlk hz hdd hS hnp hst hl8 (fun r u h => by obtain ⟨rfl, rfl⟩ := h; exact kk)
theorem qc_N0 (hΓ : Ok Γ l y cc mL d 0 0) (hd : decode cc pc = .ok (.invokestatic idx, 3)) (hlk : (y.cls, idx, z) ∈ nestG) (hz : SW z cz mz rz np) (hdd : d' + 1 ≤ d) (hS : Sq l z cz mz rz d' as n w (Rs none w')) (hnp : as.length = np) (hst : st0 = as.reverse ++ st) (hl8 : st.length ≤ 4) (kk : Γ (pc + 3) L st (0, 0) n w') : Γ pc L st0 (0, 0) n w := qc_N hΓ hd hlk hz hdd hS hnp hst hl8 (fun r u h => by obtain ⟨rfl, rfl⟩ := h; exact kk)
end
