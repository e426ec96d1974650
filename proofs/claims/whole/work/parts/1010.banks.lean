/-! The worlds' parts: a bank at k (its object and six rows), the model, and the rest -/
abbrev Bk : Type := Nat → Nat → Nat
def bset (b : Bk) (i j x : Nat) : Bk := fun i' => if i' = i then upN (b i) j x else b i'
theorem bset_ne (b : Bk) {i i' : Nat} (j x : Nat) (h : i' ≠ i) : bset b i j x i' = b i' := by simp [bset, h]
theorem bset_eq (b : Bk) (i j x : Nat) : bset b i j x i = upN (b i) j x := by simp [bset]
abbrev bkObj (k : Nat) (b : Bk) : AC := cObj 0 [aR (k + 1), aR (k + 2), aR (k + 3), aR (k + 4), aR (k + 5), aR (k + 6), aZ (b 6 0), aZ (b 6 1), aZ (b 6 2), aZ (b 6 3), aZ (b 6 4), aZ (b 6 5), aZ (b 6 6), aZ (b 6 7), aZ (b 6 8)]
def bkL (i : Nat) : Nat := if i < 4 then 8 else if i = 4 then 48 else 16
def BkAt (n : Nat) (w : Nat → AC) (k : Nat) (b : Bk) : Prop := k + 7 ≤ n ∧ w k = bkObj k b ∧ ∀ i, i < 6 → w (k + 1 + i) = zA (bkL i) (b i)
section
variable {n k : Nat} {w w' : Nat → AC} {b : Bk}
theorem BkAt.lt (h : BkAt n w k b) : k < n := by have := h.1; omega
theorem BkAt.o (h : BkAt n w k b) : w k = bkObj k b := h.2.1
theorem BkAt.lti (h : BkAt n w k b) {i : Nat} (hi : i < 7) : k + i < n := by have := h.1; omega
theorem BkAt.a0 (h : BkAt n w k b) : w (k + 1) = zA 8 (b 0) := h.2.2 0 (by decide)
theorem BkAt.a1 (h : BkAt n w k b) : w (k + 2) = zA 8 (b 1) := h.2.2 1 (by decide)
theorem BkAt.a2 (h : BkAt n w k b) : w (k + 3) = zA 8 (b 2) := h.2.2 2 (by decide)
theorem BkAt.a3 (h : BkAt n w k b) : w (k + 4) = zA 8 (b 3) := h.2.2 3 (by decide)
theorem BkAt.a4 (h : BkAt n w k b) : w (k + 5) = zA 48 (b 4) := h.2.2 4 (by decide)
theorem BkAt.a5 (h : BkAt n w k b) : w (k + 6) = zA 16 (b 5) := h.2.2 5 (by decide)
theorem BkAt.ofFr (h : BkAt n w k b) {j m : Nat} (hF : Fr j m w w') (hd : k + 7 ≤ j ∨ j + m ≤ k) : BkAt n w' k b := by
  refine ⟨h.1, (hF k (by omega)).trans h.2.1, fun i hi => (hF (k + 1 + i) (by omega)).trans (h.2.2 i hi)⟩
theorem BkAt.setA (h : BkAt n w k b) (i j x : Nat) (hi : i < 6) : BkAt n (upw w (k + 1 + i) (zA (bkL i) (upN (b i) j x))) k (bset b i j x) ∧ Fr k 7 w (upw w (k + 1 + i) (zA (bkL i) (upN (b i) j x))) := by
  refine ⟨⟨h.1, ?_, fun i' hi' => ?_⟩, Fr.up (by omega) (by omega)⟩
  · rw [upw_ne _ _ _ (by omega), h.2.1]
    have e : bset b i j x 6 = b 6 := bset_ne _ _ _ (by omega)
    unfold bkObj
    rw [e]
  · by_cases e : i' = i
    · subst e
      rw [upw_self, bset_eq]
    · rw [upw_ne _ _ _ (by omega), h.2.2 i' hi', bset_ne _ _ _ e]
theorem BkAt.setO (h : BkAt n w k b) (b' : Bk) (hb : ∀ i, i < 6 → b' i = b i) : BkAt n (upw w k (bkObj k b')) k b' ∧ Fr k 7 w (upw w k (bkObj k b')) := by
  refine ⟨⟨h.1, upw_self _ _ _, fun i hi => ?_⟩, Fr.up (by omega) (by omega)⟩
  rw [upw_ne _ _ _ (by omega), h.2.2 i hi, hb i hi]
theorem bset6 (b : Bk) (j x : Nat) : ∀ i, i < 6 → bset b 6 j x i = b i := fun i hi => bset_ne _ _ _ (by omega)
end
/-- writing a number of a bank -/
theorem bk_set (k : Nat) (b : Bk) (i x : Nat) (hi : i < 9) : cObj 0 (([aR (k + 1), aR (k + 2), aR (k + 3), aR (k + 4), aR (k + 5), aR (k + 6), aZ (b 6 0), aZ (b 6 1), aZ (b 6 2), aZ (b 6 3), aZ (b 6 4), aZ (b 6 5), aZ (b 6 6), aZ (b 6 7), aZ (b 6 8)] : List AV).set (i + 6) (aZ x)) = bkObj k (bset b 6 i x) := by
  unfold bkObj
  rw [bset_eq]
  rcases (show i = 0 ∨ i = 1 ∨ i = 2 ∨ i = 3 ∨ i = 4 ∨ i = 5 ∨ i = 6 ∨ i = 7 ∨ i = 8 by omega) with rfl | rfl | rfl | rfl | rfl | rfl | rfl | rfl | rfl <;> rfl
theorem qB_put {Γ : Gm} {l : Launch} {y : MethodName} {cc : ByteArray} {mL d mc ms pc n k idx x : Nat} {L st : List AV} {cs : Nat × Nat} {w : Nat → AC} {b : Bk} (hΓ : Ok Γ l y cc mL d mc ms) (i : Nat) (hd : decode cc pc = .ok (.putfield idx, 3)) (hf : FLK y.cls idx 0 (i + 6) false .int) (hi : i < 9) (hB : BkAt n w k b) (kk : ∀ w', BkAt n w' k (bset b 6 i x) → Fr k 7 w w' → Γ (pc + 3) L st cs n w') : Γ pc L (aZ x :: aR k :: st) cs n w := by
  refine qa_puti hΓ hd hf hB.lt hB.o (by simp; omega) ?_
  rw [bk_set k b i x hi]
  obtain ⟨h1, h2⟩ := hB.setO (bset b 6 i x) (bset6 b i x)
  exact kk _ h1 h2
/-- the model at k: s, past, kept, held, text; pasts, typed, changes, at -/
def byI (c : Nat) : Int32 := (nI c).toInt8.toInt32
abbrev mdObj (k : Nat) (M : Bk) : AC := cObj 5 [aR (k + 1), aR (k + 2), aZ (M 5 0), aR (k + 3), aR (k + 4), aR (k + 5), aZ (M 5 1), aZ (M 5 2), aZ (M 5 3)]
def mdL (i : Nat) : Nat := if i = 1 then 1218 else 203
def MdAt (n : Nat) (w : Nat → AC) (k : Nat) (M : Bk) : Prop := k + 6 ≤ n ∧ w k = mdObj k M ∧ w (k + 1) = zA 203 (M 0) ∧ w (k + 2) = zA 1218 (M 1) ∧ w (k + 3) = zA 203 (M 2) ∧ w (k + 4) = zA 203 (M 3) ∧ w (k + 5) = cArr 1 60 (fun j => byI (M 4 j)) ∧ ∀ i, i < 4 → ∀ j, mdL i ≤ j → M i j = 0
section
variable {n k : Nat} {w w' : Nat → AC} {M : Bk}
theorem MdAt.lt (h : MdAt n w k M) : k < n := by have := h.1; omega
theorem MdAt.o (h : MdAt n w k M) : w k = mdObj k M := h.2.1
theorem MdAt.lti (h : MdAt n w k M) {i : Nat} (hi : i < 6) : k + i < n := by have := h.1; omega
theorem MdAt.a0 (h : MdAt n w k M) : w (k + 1) = zA 203 (M 0) := h.2.2.1
theorem MdAt.a1 (h : MdAt n w k M) : w (k + 2) = zA 1218 (M 1) := h.2.2.2.1
theorem MdAt.a2 (h : MdAt n w k M) : w (k + 3) = zA 203 (M 2) := h.2.2.2.2.1
theorem MdAt.a3 (h : MdAt n w k M) : w (k + 4) = zA 203 (M 3) := h.2.2.2.2.2.1
theorem MdAt.a4 (h : MdAt n w k M) : w (k + 5) = cArr 1 60 (fun j => byI (M 4 j)) := h.2.2.2.2.2.2.1
theorem MdAt.nf (h : MdAt n w k M) {i : Nat} (hi : i < 4) {j : Nat} (hj : mdL i ≤ j) : M i j = 0 := h.2.2.2.2.2.2.2 i hi j hj
theorem MdAt.ofFr (h : MdAt n w k M) {j m : Nat} (hF : Fr j m w w') (hd : k + 6 ≤ j ∨ j + m ≤ k) : MdAt n w' k M :=
  ⟨h.1, (hF k (by omega)).trans h.o, (hF _ (by omega)).trans h.a0, (hF _ (by omega)).trans h.a1, (hF _ (by omega)).trans h.a2, (hF _ (by omega)).trans h.a3, (hF _ (by omega)).trans h.a4, fun i hi j hj => h.nf hi hj⟩
/-- one row of the model is written -/
theorem MdAt.setA (h : MdAt n w k M) (i j x : Nat) (hi : i < 4) {N : Nat} (hN : N = mdL i) (hj : j < N) : MdAt n (upw w (k + 1 + i) (zA N (upN (M i) j x))) k (bset M i j x) ∧ Fr k 6 w (upw w (k + 1 + i) (zA N (upN (M i) j x))) := by
  subst hN
  refine ⟨⟨h.1, ?_, ?_, ?_, ?_, ?_, ?_, fun i' hi' j' hj' => ?_⟩, Fr.up (by omega) (by omega)⟩
  · rw [upw_ne _ _ _ (by omega), h.o]
    unfold mdObj
    rw [bset_ne _ _ _ (show (5 : Nat) ≠ i by omega)]
  · rcases (show i = 0 ∨ i ≠ 0 by omega) with rfl | e
    · rw [upw_self, bset_eq]; rfl
    · rw [upw_ne _ _ _ (by omega), h.a0, bset_ne _ _ _ (by omega)]
  · rcases (show i = 1 ∨ i ≠ 1 by omega) with rfl | e
    · rw [upw_self, bset_eq]; rfl
    · rw [upw_ne _ _ _ (by omega), h.a1, bset_ne _ _ _ (by omega)]
  · rcases (show i = 2 ∨ i ≠ 2 by omega) with rfl | e
    · rw [upw_self, bset_eq]; rfl
    · rw [upw_ne _ _ _ (by omega), h.a2, bset_ne _ _ _ (by omega)]
  · rcases (show i = 3 ∨ i ≠ 3 by omega) with rfl | e
    · rw [upw_self, bset_eq]; rfl
    · rw [upw_ne _ _ _ (by omega), h.a3, bset_ne _ _ _ (by omega)]
  · rw [upw_ne _ _ _ (by omega), h.a4, bset_ne _ _ _ (by omega)]
  · by_cases e : i' = i
    · subst e
      rw [bset_eq, upN_ne _ _ _ (by omega)]
      exact h.nf hi' hj'
    · rw [bset_ne _ _ _ e]
      exact h.nf hi' hj'
theorem MdAt.setO (h : MdAt n w k M) (M' : Bk) (hb : ∀ i, i < 5 → M' i = M i) : MdAt n (upw w k (mdObj k M')) k M' ∧ Fr k 6 w (upw w k (mdObj k M')) := by
  refine ⟨⟨h.1, upw_self _ _ _, ?_, ?_, ?_, ?_, ?_, fun i hi j hj => by rw [hb i (by omega)]; exact h.nf hi hj⟩, Fr.up (by omega) (by omega)⟩
  · rw [upw_ne _ _ _ (by omega), h.a0, hb 0 (by decide)]
  · rw [upw_ne _ _ _ (by omega), h.a1, hb 1 (by decide)]
  · rw [upw_ne _ _ _ (by omega), h.a2, hb 2 (by decide)]
  · rw [upw_ne _ _ _ (by omega), h.a3, hb 3 (by decide)]
  · rw [upw_ne _ _ _ (by omega), h.a4, hb 4 (by decide)]
theorem bset5 (b : Bk) (j x : Nat) : ∀ i, i < 5 → bset b 5 j x i = b i := fun i hi => bset_ne _ _ _ (by omega)
end
def mdF (i : Nat) : Nat := if i = 0 then 2 else i + 5
theorem md_set (k : Nat) (M : Bk) (i x : Nat) (hi : i < 4) : cObj 5 (([aR (k + 1), aR (k + 2), aZ (M 5 0), aR (k + 3), aR (k + 4), aR (k + 5), aZ (M 5 1), aZ (M 5 2), aZ (M 5 3)] : List AV).set (mdF i) (aZ x)) = mdObj k (bset M 5 i x) := by
  unfold mdObj
  rw [bset_eq]
  rcases (show i = 0 ∨ i = 1 ∨ i = 2 ∨ i = 3 by omega) with rfl | rfl | rfl | rfl <;> rfl
theorem qM_put {Γ : Gm} {l : Launch} {y : MethodName} {cc : ByteArray} {mL d mc ms pc n k idx x : Nat} {L st : List AV} {cs : Nat × Nat} {w : Nat → AC} {M : Bk} (hΓ : Ok Γ l y cc mL d mc ms) (i : Nat) (hd : decode cc pc = .ok (.putfield idx, 3)) (hf : FLK y.cls idx 5 (mdF i) false .int) (hi : i < 4) (hM : MdAt n w k M) (kk : ∀ w', MdAt n w' k (bset M 5 i x) → Fr k 6 w w' → Γ (pc + 3) L st cs n w') : Γ pc L (aZ x :: aR k :: st) cs n w := by
  refine qa_puti hΓ hd hf hM.lt hM.o (by unfold mdF; simp; split <;> omega) ?_
  rw [md_set k M i x hi]
  obtain ⟨h1, h2⟩ := hM.setO (bset M 5 i x) (bset5 M i x)
  exact kk _ h1 h2
theorem qM_ast {Γ : Gm} {l : Launch} {y : MethodName} {cc : ByteArray} {mL d mc ms pc n k j x N k0 : Nat} {L st : List AV} {cs : Nat × Nat} {w : Nat → AC} {M : Bk} (hΓ : Ok Γ l y cc mL d mc ms) (i : Nat) (hi : i < 4) (hk0 : k0 = k + 1 + i) (hN : N = mdL i) (hd : decode cc pc = .ok (.iastore, 1)) (hM : MdAt n w k M) (hj : j < N) (kk : ∀ w', MdAt n w' k (bset M i j x) → Fr k 6 w w' → Γ (pc + 1) L st cs n w') : Γ pc L (aZ x :: aZ j :: aR k0 :: st) cs n w := by
  subst hk0
  have hw : w (k + 1 + i) = zA N (M i) := by
    subst hN
    rcases (show i = 0 ∨ i = 1 ∨ i = 2 ∨ i = 3 by omega) with rfl | rfl | rfl | rfl
    · exact hM.a0
    · exact hM.a1
    · exact hM.a2
    · exact hM.a3
  have hNb : N < 2147483648 := by rw [hN]; unfold mdL; split <;> omega
  refine qz_iast hΓ hd (by have := hM.1; omega) hw hj hNb ?_
  obtain ⟨h1, h2⟩ := hM.setA i j x hi hN hj
  exact kk _ h1 h2
def rset (M : Bk) (a : Nat) (f : Nat → Nat) : Bk := fun a' => if a' = a then f else M a'
theorem rset_eq (M : Bk) (a : Nat) (f : Nat → Nat) : rset M a f a = f := by simp [rset]
theorem rset_ne (M : Bk) {a a' : Nat} (f : Nat → Nat) (h : a' ≠ a) : rset M a f a' = M a' := by simp [rset, h]
/-- the model's numbers are read row by row: equal rows, equal model -/
theorem MdAt.of_rows {n k : Nat} {w : Nat → AC} {M M' : Bk} (h : MdAt n w k M) (e : ∀ a, a < 6 → M' a = M a) : MdAt n w k M' := by
  obtain ⟨h0, h1, h2, h3, h4, h5, h6, h7⟩ := h
  refine ⟨h0, ?_, ?_, ?_, ?_, ?_, ?_, fun i hi j hj => ?_⟩
  · rw [h1]; unfold mdObj; rw [e 5 (by decide)]
  · rw [h2, e 0 (by decide)]
  · rw [h3, e 1 (by decide)]
  · rw [h4, e 2 (by decide)]
  · rw [h5, e 3 (by decide)]
  · rw [h6, e 4 (by decide)]
  · rw [e i (by omega)]; exact h7 i hi j hj
