/-! The class: texts -/
theorem nar_c {a : Nat} (h : a < 65536) : narrow .char (.int (nI a)) = .int (nI a) := by
  have e := nI_i2c h
  simp only [narrow, UInt32.toUInt32_toUInt16, e]
theorem qr_c {Γ : Gm} {cc : ByteArray} {pc n : Nat} {L : List AV} {w : Nat → AC} {Q : Option AV → (Nat → AC) → Prop} (hR : Rt Γ cc (some .char) 0 0 (Nz n Q)) (hd : decode cc pc = .ok (.ireturn, 1)) {a : Nat} (ha : a < 65536) (hq : Q (some (aZ a)) w) : Γ pc L [aZ a] (0, 0) n w := hR.1 pc L _ (0, 0) n w hd ⟨.char, rfl, nar_c ha⟩ (Nat.le_refl _) (Nat.le_refl _) ⟨rfl, hq⟩
def XtAt (n : Nat) (w : Nat → AC) (k : Nat) (T : Nat → Nat) (N : Nat) : Prop := k + 2 ≤ n ∧ w k = cObj 3 [aR (k + 1), aZ N] ∧ w (k + 1) = cArr 2 60 (fun j => nI (T j))
theorem XtAt.lt {n k : Nat} {w : Nat → AC} {T : Nat → Nat} {N : Nat} (h : XtAt n w k T N) : k < n := by have := h.1; omega
theorem XtAt.o {n k : Nat} {w : Nat → AC} {T : Nat → Nat} {N : Nat} (h : XtAt n w k T N) : w k = cObj 3 [aR (k + 1), aZ N] := h.2.1
theorem XtAt.lti1 {n k : Nat} {w : Nat → AC} {T : Nat → Nat} {N : Nat} (h : XtAt n w k T N) : k + 1 < n := by have := h.1; omega
theorem XtAt.a0 {n k : Nat} {w : Nat → AC} {T : Nat → Nat} {N : Nat} (h : XtAt n w k T N) : w (k + 1) = cArr 2 60 (fun j => nI (T j)) := h.2.2
theorem XtAt.ofFr {n k j m : Nat} {w w' : Nat → AC} {T : Nat → Nat} {N : Nat} (h : XtAt n w k T N) (hF : Fr j m w w') (hd : k + 2 ≤ j ∨ j + m ≤ k) : XtAt n w' k T N := ⟨h.1, (hF k (by omega)).trans h.2.1, (hF (k + 1) (by omega)).trans h.2.2⟩
theorem RdAt.ofFr {n k j m : Nat} {w w' : Nat → AC} {g : Nat → Nat} {z R p : Nat} (h : RdAt n w k g z R p) (hF : Fr j m w w') (hd : k + 2 ≤ j ∨ j + m ≤ k) : RdAt n w' k g z R p := ⟨h.1, (hF k (by omega)).trans h.2.1, (hF (k + 1) (by omega)).trans h.2.2⟩
def PX (n k : Nat) (T : Nat → Nat) (N : Nat) (w : Nat → AC) : (Nat → AC) → Prop := fun w' => XtAt n w' k T N ∧ Fr k 2 w w'
theorem XtAt.setL {n k x : Nat} {w : Nat → AC} {T : Nat → Nat} {N : Nat} (h : XtAt n w k T N) : XtAt n (upw w k (cObj 3 [aR (k + 1), aZ x])) k T x ∧ Fr k 2 w (upw w k (cObj 3 [aR (k + 1), aZ x])) := ⟨⟨h.1, upw_self _ _ _, (upw_ne _ _ _ (by omega)).trans h.2.2⟩, Fr.up (by omega) (by omega)⟩
theorem updc (T : Nat → Nat) (i c : Nat) : upd (fun j => nI (T j)) i (nI c) = fun j => nI (upN T i c j) := by
  funext j
  by_cases e : j = i
  · subst e; rw [upN_self]; simp [upd]
  · rw [upN_ne _ _ _ e]; simp [upd, e]
theorem nar_v {a : Nat} (h : a < 65536) : vp_nar .char (nI a) = nI a := by
  unfold vp_nar
  rw [nar_c h]
