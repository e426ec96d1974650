/-! The class: a whole text read -/
theorem tkL_ok {R k c how : Nat} {g : Nat → Nat} {st : Rst} (hk : 1 ≤ k) (h : tkL R k g c how = some st) : st.1 ≤ 5 ∧ (st.1 = 2 ∨ st.1 = 3 → 1 ≤ st.2.1) := by
  unfold tkL at h
  split at h
  · cases h
  · split at h
    · cases h
    · cases h; exact ⟨by simp, fun _ => hk⟩
theorem tkC_ok {R k c : Nat} {g : Nat → Nat} {st : Rst} (hk : 1 ≤ k) (h : tkC R k g c = some st) : st.1 ≤ 5 ∧ (st.1 = 2 ∨ st.1 = 3 → 1 ≤ st.2.1) := by
  unfold tkC at h
  split at h
  · cases h; exact ⟨by simp, fun _ => hk⟩
  · exact tkL_ok hk h
theorem tkB_ok {R k c : Nat} {g : Nat → Nat} {st : Rst} (h : tkB R k g c = some st) : st.1 ≤ 5 ∧ (st.1 = 2 ∨ st.1 = 3 → 1 ≤ st.2.1) := by
  unfold tkB at h
  split at h
  · cases h
  · split at h
    · cases h; exact ⟨by simp, fun _ => Nat.succ_le_succ (Nat.zero_le _)⟩
    · exact tkC_ok (Nat.succ_le_succ (Nat.zero_le _)) h
theorem tk_ok {R p k c : Nat} {g : Nat → Nat} {st : Rst} (hz : p = 2 ∨ p = 3 → 1 ≤ k) (h : tk R (p, k, g) c = some st) : st.1 ≤ 5 ∧ (st.1 = 2 ∨ st.1 = 3 → 1 ≤ st.2.1) := by
  unfold tk at h
  simp only at h
  split at h
  · split at h
    · cases h; exact ⟨by simp, fun q => absurd q (by simp)⟩
    · exact tkB_ok h
  · split at h
    · exact tkB_ok h
    · split at h
      · split at h
        · cases h; exact ⟨by simp, fun q => absurd q (by simp)⟩
        · exact tkC_ok (hz (Or.inl (by assumption))) h
      · split at h
        · exact tkL_ok (hz (Or.inr (by assumption))) h
        · split at h
          · split at h
            · cases h; exact ⟨by simp, fun q => absurd q (by simp)⟩
            · cases h
          · cases h
/-- what read leaves: an error's place, or -1 and the circuit -/
def RR (n k R : Nat) (zz : Nat ⊕ Rst) (w : Nat → AC) (r : Option AV) (w' : Nat → AC) : Prop := ∃ g' z' p', RdAt n w' k g' z' R p' ∧ Fr k 2 w w' ∧ z' ≤ 6 ∧ (∀ j, j < 6 → g' j < 4294967296) ∧ ((∃ e, zz = .inl e ∧ e < 2147483648 ∧ r = some (aZ e)) ∨ (zz = .inr (p', z', g') ∧ r = some (aI (-1))))
