/-! The worlds' parts: a bank at k (its object and six rows), the model, and the rest -/
abbrev Bk : Type := Nat → Nat → Nat
def bset (b : Bk) (i j x : Nat) : Bk := fun i' => if i' = i then upN (b i) j x else b i'
theorem bset_ne (b : Bk) {i i' : Nat} (j x : Nat) (h : i' ≠ i) : bset b i j x i' = b i' := by simp [bset, h]
theorem bset_eq (b : Bk) (i j x : Nat) : bset b i j x i = upN (b i) j x := by simp [bset]
abbrev bkObj (k : Nat) (b : Bk) : AC := cObj 0 [aR (k + 1), aR (k + 2), aR (k + 3), aR (k + 4), aR (k + 5), aR (k + 6), aZ (b 6 0), aZ (b 6 1), aZ (b 6 2), aZ (b 6 3), aZ (b 6 4), aZ (b 6 5), aZ (b 6 6), aZ (b 6 7), aZ (b 6 8)]
def bkL (i : Nat) : Nat := if i < 4 then 8 else if i = 4 then 48 else 16
def BkAt (n : Nat) (w : Nat → AC) (k : Nat) (b : Bk) : Prop := k + 7 ≤ n ∧ w k = bkObj k b ∧ ∀ i, i < 6 → w (k + 1 + i) = zA (bkL i) (b i)
section
variable {n k : Nat} {w w' : Nat → AC} {b : Bk}
theorem BkAt.lt (h : BkAt n w k b) : k < n := by have := h.1; omega
theorem BkAt.o (h : BkAt n w k b) : w k = bkObj k b := h.2.1
theorem BkAt.lti (h : BkAt n w k b) {i : Nat} (hi : i < 7) : k + i < n := by have := h.1; omega
theorem BkAt.a0 (h : BkAt n w k b) : w (k + 1) = zA 8 (b 0) := h.2.2 0 (by decide)
theorem BkAt.a1 (h : BkAt n w k b) : w (k + 2) = zA 8 (b 1) := h.2.2 1 (by decide)
theorem BkAt.a2 (h : BkAt n w k b) : w (k + 3) = zA 8 (b 2) := h.2.2 2 (by decide)
theorem BkAt.a3 (h : BkAt n w k b) : w (k + 4) = zA 8 (b 3) := h.2.2 3 (by decide)
theorem BkAt.a4 (h : BkAt n w k b) : w (k + 5) = zA 48 (b 4) := h.2.2 4 (by decide)
theorem BkAt.a5 (h : BkAt n w k b) : w (k + 6) = zA 16 (b 5) := h.2.2 5 (by decide)
theorem BkAt.ofFr (h : BkAt n w k b) {j m : Nat} (hF : Fr j m w w') (hd : k + 7 ≤ j ∨ j + m ≤ k) : BkAt n w' k b := by
  refine ⟨h.1, (hF k (by omega)).trans h.2.1, fun i hi => (hF (k + 1 + i) (by omega)).trans (h.2.2 i hi)⟩
theorem BkAt.setA (h : BkAt n w k b) (i j x : Nat) (hi : i < 6) : BkAt n (upw w (k + 1 + i) (zA (bkL i) (upN (b i) j x))) k (bset b i j x) ∧ Fr k 7 w (upw w (k + 1 + i) (zA (bkL i) (upN (b i) j x))) := by
  refine ⟨⟨h.1, ?_, fun i' hi' => ?_⟩, Fr.up (by omega) (by omega)⟩
  · rw [upw_ne _ _ _ (by omega), h.2.1]
    have e : bset b i j x 6 = b 6 := bset_ne _ _ _ (by omega)
    unfold bkObj
    rw [e]
  · by_cases e : i' = i
    · subst e
      rw [upw_self, bset_eq]
    · rw [upw_ne _ _ _ (by omega), h.2.2 i' hi', bset_ne _ _ _ e]
theorem BkAt.setO (h : BkAt n w k b) (b' : Bk) (hb : ∀ i, i < 6 → b' i = b i) : BkAt n (upw w k (bkObj k b')) k b' ∧ Fr k 7 w (upw w k (bkObj k b')) := by
  refine ⟨⟨h.1, upw_self _ _ _, fun i hi => ?_⟩, Fr.up (by omega) (by omega)⟩
  rw [upw_ne _ _ _ (by omega), h.2.2 i hi, hb i hi]
theorem bset6 (b : Bk) (j x : Nat) : ∀ i, i < 6 → bset b 6 j x i = b i := fun i hi => bset_ne _ _ _ (by omega)
end
/-- writing a number of a bank -/
theorem bk_set (k : Nat) (b : Bk) (i x : Nat) (hi : i < 9) : cObj 0 (([aR (k + 1), aR (k + 2), aR (k + 3), aR (k + 4), aR (k + 5), aR (k + 6), aZ (b 6 0), aZ (b 6 1), aZ (b 6 2), aZ (b 6 3), aZ (b 6 4), aZ (b 6 5), aZ (b 6 6), aZ (b 6 7), aZ (b 6 8)] : List AV).set (i + 6) (aZ x)) = bkObj k (bset b 6 i x) := by
  unfold bkObj
  rw [bset_eq]
  rcases (show i = 0 ∨ i = 1 ∨ i = 2 ∨ i = 3 ∨ i = 4 ∨ i = 5 ∨ i = 6 ∨ i = 7 ∨ i = 8 by omega) with rfl | rfl | rfl | rfl | rfl | rfl | rfl | rfl | rfl <;> rfl
theorem qB_put {Γ : Gm} {l : Launch} {y : MethodName} {cc : ByteArray} {mL d mc ms pc n k idx x : Nat} {L st : List AV} {cs : Nat × Nat} {w : Nat → AC} {b : Bk} (hΓ : Ok Γ l y cc mL d mc ms) (i : Nat) (hd : decode cc pc = .ok (.putfield idx, 3)) (hf : FLK y.cls idx 0 (i + 6) false .int) (hi : i < 9) (hB : BkAt n w k b) (kk : ∀ w', BkAt n w' k (bset b 6 i x) → Fr k 7 w w' → Γ (pc + 3) L st cs n w') : Γ pc L (aZ x :: aR k :: st) cs n w := by
  refine qa_puti hΓ hd hf hB.lt hB.o (by simp; omega) ?_
  rw [bk_set k b i x hi]
  obtain ⟨h1, h2⟩ := hB.setO (bset b 6 i x) (bset6 b i x)
  exact kk _ h1 h2
section
variable {n k : Nat} {w w' : Nat → AC} {M : Bk}
theorem bset5 (b : Bk) (j x : Nat) : ∀ i, i < 5 → bset b 5 j x i = b i := fun i hi => bset_ne _ _ _ (by omega)
end
def rset (M : Bk) (a : Nat) (f : Nat → Nat) : Bk := fun a' => if a' = a then f else M a'
theorem rset_eq (M : Bk) (a : Nat) (f : Nat → Nat) : rset M a f a = f := by simp [rset]
theorem rset_ne (M : Bk) {a a' : Nat} (f : Nat → Nat) (h : a' ≠ a) : rset M a f a' = M a' := by simp [rset, h]
