/-! The model: the calls on relays and circuits -/
/-- nothing that counts has changed -/
def Sm (M M' : Bk) : Prop := M' 0 = M 0 ∧ M' 1 = M 1 ∧ M' 5 0 = M 5 0 ∧ M' 4 = M 4 ∧ M' 5 1 = M 5 1
/-- the state is kept, and s is the new one -/
def Nt (M M' : Bk) : Prop := M' 5 0 = p5 M + 1 ∧ (∀ i, i < p5 M → pst M' i = pst M (if M 5 0 = 6 then i + 1 else i)) ∧ pst M' (p5 M) = M 0
def Op (M : Bk) (s : Nat → Nat) (M' : Bk) : Prop := Nt M M' ∧ M' 0 = s ∧ M' 4 = M 4 ∧ M' 5 1 = M 5 1
theorem Sm.rf (M : Bk) : Sm M M := ⟨rfl, rfl, rfl, rfl, rfl⟩
theorem Op.of {M M1 M' : Bk} {s : Nat → Nat} (hN : Ntd M M1) (hU : Mup M1 s M') : Op M s M' := by
  obtain ⟨n1, n2, n3, n4, n5⟩ := hN
  have e : ∀ i, pst M' i = pst M1 i := fun i => by unfold pst; rw [hU.2.1 1 (by decide) (by decide)]
  exact ⟨⟨hU.2.2.1.trans n3, fun i hi => (e i).trans (n4 i hi), (e _).trans n5⟩, hU.1, (hU.2.1 4 (by decide) (by decide)).trans (n1 4 (by decide) (by decide)), hU.2.2.2.1.trans (n2 1 (by decide))⟩
theorem Mup.sm {M M' : Bk} (h : Mup M (M 0) M') : Sm M M' := ⟨h.1, h.2.1 1 (by decide) (by decide), h.2.2.1, h.2.1 4 (by decide) (by decide), h.2.2.2.1⟩
def tn (x : Int32) : Nat := x.toNatClampNeg
theorem tn_nI {a : Nat} (h : a < 2147483648) : tn (nI a) = a := nI_clamp h
theorem rng {lo hi : Nat} {x : Int32} (hh : hi < 2147483648) (h : nI lo ≤ x ∧ x ≤ nI hi) (hlo : lo < 2147483648) : ∃ a, lo ≤ a ∧ a ≤ hi ∧ x = nI a := by
  obtain ⟨h1, h2⟩ := h
  have h0 : ¬ x < 0 := by
    rw [Int32.not_lt]
    exact Int32.le_trans (nI_pos' hlo) h1
  obtain ⟨j, hj, rfl⟩ := nI_of h0
  exact ⟨j, (nI_leI hlo hj).mp h1, (nI_leI hj hh).mp h2, rfl⟩
abbrev isR (n : Nat) (v : Int32) : Prop := nI 0 ≤ v ∧ v ≤ nI n - nI 1
theorem isR_of {n : Nat} {v : Int32} (hn : n < 2147483648) (h : isR n v) : ∃ r, r < n ∧ v = nI r := by
  rcases Nat.eq_zero_or_pos n with rfl | hp
  · exfalso
    have h1 := Int32.le_trans h.1 h.2
    exact absurd h1 (by decide)
  · have h2 := h.2
    rw [nI_sub hp] at h2
    obtain ⟨a, h3, h4, h5⟩ := rng (lo := 0) (hi := n - 1) (by omega) ⟨h.1, h2⟩ (by decide)
    exact ⟨a, by omega, h5⟩
abbrev okD (u v x : Int32) : Prop := (nI 1 ≤ u ∧ u ≤ nI 20) ∧ (nI 1 ≤ v ∧ v ≤ nI 20) ∧ (nI 0 ≤ x ∧ x ≤ nI 5)

theorem testBit_lt {a i m : Nat} (h : a < 2 ^ m) (hi : m ≤ i) : a.testBit i = false := Nat.testBit_lt_two_pow (Nat.lt_of_lt_of_le h (Nat.pow_le_pow_right (by decide) hi))
def how3 (s : Nat → Nat) (r b x : Nat) : Nat := if (vv s r (13 + 2 * b)).testBit x then 1 else if (vv s r (13 + 2 * b + 1)).testBit x then 2 else 0
abbrev isS (n : Nat) (v : Int32) : Prop := nI 0 ≤ v ∧ v ≤ nI (7 + n)
