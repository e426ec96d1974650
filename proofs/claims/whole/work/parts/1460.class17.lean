/-! The class: texts -/
theorem nar_c {a : Nat} (h : a < 65536) : narrow .char (.int (nI a)) = .int (nI a) := by
  have e := nI_i2c h
  simp only [narrow, UInt32.toUInt32_toUInt16, e]
theorem qr_c {Γ : Gm} {cc : ByteArray} {pc n : Nat} {L : List AV} {w : Nat → AC} {Q : Option AV → (Nat → AC) → Prop} (hR : Rt Γ cc (some .char) 0 0 (Nz n Q)) (hd : decode cc pc = .ok (.ireturn, 1)) {a : Nat} (ha : a < 65536) (hq : Q (some (aZ a)) w) : Γ pc L [aZ a] (0, 0) n w := hR.1 pc L _ (0, 0) n w hd ⟨.char, rfl, nar_c ha⟩ (Nat.le_refl _) (Nat.le_refl _) ⟨rfl, hq⟩
def XtAt (n : Nat) (w : Nat → AC) (k : Nat) (T : Nat → Nat) (N : Nat) : Prop := k + 2 ≤ n ∧ w k = cObj 3 [aR (k + 1), aZ N] ∧ w (k + 1) = cArr 2 60 (fun j => nI (T j))
theorem XtAt.lt {n k : Nat} {w : Nat → AC} {T : Nat → Nat} {N : Nat} (h : XtAt n w k T N) : k < n := by have := h.1; omega
theorem XtAt.o {n k : Nat} {w : Nat → AC} {T : Nat → Nat} {N : Nat} (h : XtAt n w k T N) : w k = cObj 3 [aR (k + 1), aZ N] := h.2.1
theorem XtAt.lti1 {n k : Nat} {w : Nat → AC} {T : Nat → Nat} {N : Nat} (h : XtAt n w k T N) : k + 1 < n := by have := h.1; omega
theorem XtAt.a0 {n k : Nat} {w : Nat → AC} {T : Nat → Nat} {N : Nat} (h : XtAt n w k T N) : w (k + 1) = cArr 2 60 (fun j => nI (T j)) := h.2.2
theorem XtAt.ofFr {n k j m : Nat} {w w' : Nat → AC} {T : Nat → Nat} {N : Nat} (h : XtAt n w k T N) (hF : Fr j m w w') (hd : k + 2 ≤ j ∨ j + m ≤ k) : XtAt n w' k T N := ⟨h.1, (hF k (by omega)).trans h.2.1, (hF (k + 1) (by omega)).trans h.2.2⟩
theorem RdAt.ofFr {n k j m : Nat} {w w' : Nat → AC} {g : Nat → Nat} {z R p : Nat} (h : RdAt n w k g z R p) (hF : Fr j m w w') (hd : k + 2 ≤ j ∨ j + m ≤ k) : RdAt n w' k g z R p := ⟨h.1, (hF k (by omega)).trans h.2.1, (hF (k + 1) (by omega)).trans h.2.2⟩
def PX (n k : Nat) (T : Nat → Nat) (N : Nat) (w : Nat → AC) : (Nat → AC) → Prop := fun w' => XtAt n w' k T N ∧ Fr k 2 w w'
theorem XtAt.setL {n k x : Nat} {w : Nat → AC} {T : Nat → Nat} {N : Nat} (h : XtAt n w k T N) : XtAt n (upw w k (cObj 3 [aR (k + 1), aZ x])) k T x ∧ Fr k 2 w (upw w k (cObj 3 [aR (k + 1), aZ x])) := ⟨⟨h.1, upw_self _ _ _, (upw_ne _ _ _ (by omega)).trans h.2.2⟩, Fr.up (by omega) (by omega)⟩
theorem updc (T : Nat → Nat) (i c : Nat) : upd (fun j => nI (T j)) i (nI c) = fun j => nI (upN T i c j) := by
  funext j
  by_cases e : j = i
  · subst e; rw [upN_self]; simp [upd]
  · rw [upN_ne _ _ _ e]; simp [upd, e]
set_option maxRecDepth 100000 in
set_option maxHeartbeats 4000000 in
theorem c_X4_characterAt (l : Launch) (d : Nat) {n k : Nat} {w : Nat → AC} {T : Nat → Nat} {N : Nat} (hX : XtAt n w k T N) (i : Nat) (hi : i < 60) (hTi : T i < 65536) : Sq l yX4_characterAt cX4_characterAt 2 (some .char) d [aR k, aZ i] n w (Rs (some (aZ (T i))) w) := by
  refine Sp.of (plainFor_of_name (by decide)) (Nat.le_of_ble_eq_true rfl) (fun Γ hΓ hR => ?_)
  show Γ 0 [aR k, aZ i] [] (0, 0) n w
  refine qa_iconst (v := nI 0) hΓ dX4_characterAt_0 ic_0 ?_
  refine qa_iload_n hΓ dX4_characterAt_1 rfl ?_
  refine qz_icmp_gt (tgt := 23) hΓ dX4_characterAt_2 (by decide) (by decide) (by omega) (fun h => absurd h (by omega)) (fun _ => ?_)
  refine qa_iload_n hΓ dX4_characterAt_5 rfl ?_
  refine qa_aload_n hΓ dX4_characterAt_6 rfl ?_
  refine qa_get hΓ dX4_characterAt_7 fk_X4_9 hX.lt hX.o rfl ?_
  refine qa_alen hΓ dX4_characterAt_10 hX.lti1 hX.a0 (by decide) rfl ?_
  refine qz_icmp_ge (tgt := 23) hΓ dX4_characterAt_11 (by decide) (by omega) (by decide) (fun h => absurd h (by omega)) (fun _ => ?_)
  refine qa_aload_n hΓ dX4_characterAt_14 rfl ?_
  refine qa_get hΓ dX4_characterAt_15 fk_X4_9 hX.lt hX.o rfl ?_
  refine qa_iload_n hΓ dX4_characterAt_18 rfl ?_
  refine qa_cald hΓ dX4_characterAt_19 hX.lti1 hX.a0 (vp_in_nI (by omega) (by decide)) ?_
  rw [nI_clamp (by omega)]
  show Γ _ _ (aZ (T i) :: _) _ _ _
  refine qa_goto (tgt := 24) hΓ dX4_characterAt_20 (by decide) ?_
  exact qr_c hR dX4_characterAt_24 hTi ⟨rfl, rfl⟩

theorem nar_v {a : Nat} (h : a < 65536) : vp_nar .char (nI a) = nI a := by
  unfold vp_nar
  rw [nar_c h]
set_option maxRecDepth 100000 in
set_option maxHeartbeats 4000000 in
theorem c_X4_append (l : Launch) (d : Nat) {n k : Nat} {w : Nat → AC} {T : Nat → Nat} {N : Nat} (hX : XtAt n w k T N) (c : Nat) (hc : c < 65536) (hN : N < 60) : Sq l yX4_append cX4_append 2 none d [aR k, aZ c] n w (Qn (PX n k (upN T N c) (N + 1) w)) := by
  refine Sp.of (plainFor_of_name (by decide)) (Nat.le_of_ble_eq_true rfl) (fun Γ hΓ hR => ?_)
  show Γ 0 [aR k, aZ c] [] (0, 0) n w
  refine qa_iconst (v := nI 0) hΓ dX4_append_0 ic_0 ?_
  refine qa_aload_n hΓ dX4_append_1 rfl ?_
  refine qa_get hΓ dX4_append_2 fk_X4_15 hX.lt hX.o rfl ?_
  refine qz_icmp_gt (tgt := 40) hΓ dX4_append_5 (by decide) (by decide) (by omega) (fun h => absurd h (by omega)) (fun _ => ?_)
  refine qa_aload_n hΓ dX4_append_8 rfl ?_
  refine qa_get hΓ dX4_append_9 fk_X4_15 hX.lt hX.o rfl ?_
  refine qa_aload_n hΓ dX4_append_12 rfl ?_
  refine qa_get hΓ dX4_append_13 fk_X4_9 hX.lt hX.o rfl ?_
  refine qa_alen hΓ dX4_append_16 hX.lti1 hX.a0 (by decide) rfl ?_
  refine qz_icmp_ge (tgt := 40) hΓ dX4_append_17 (by decide) (by omega) (by decide) (fun h => absurd h (by omega)) (fun _ => ?_)
  refine qa_aload_n hΓ dX4_append_20 rfl ?_
  refine qa_get hΓ dX4_append_21 fk_X4_9 hX.lt hX.o rfl ?_
  refine qa_aload_n hΓ dX4_append_24 rfl ?_
  refine qa_get hΓ dX4_append_25 fk_X4_15 hX.lt hX.o rfl ?_
  refine qa_iload_n hΓ dX4_append_28 rfl ?_
  refine qa_cast hΓ dX4_append_29 hX.lti1 hX.a0 (vp_in_nI (by omega) (by decide)) ?_
  rw [nI_clamp (by omega), show vp_nar .char (nI c) = nI c from nar_v hc, updc]
  obtain ⟨w1, hw1⟩ : ∃ X, X = upw w (k + 1) (cArr 2 60 (fun j => nI (upN T N c j))) := ⟨_, rfl⟩
  rw [← hw1]
  have hF0 : Fr k 2 w w1 := by rw [hw1]; exact Fr.up (by omega) (by omega)
  have hX : XtAt n w1 k (upN T N c) N := by rw [hw1]; exact ⟨hX.1, (upw_ne _ _ _ (by omega)).trans hX.2.1, upw_self _ _ _⟩
  refine qa_aload_n hΓ dX4_append_30 rfl ?_
  refine qa_dup hΓ dX4_append_31 ?_
  refine qa_get hΓ dX4_append_32 fk_X4_15 hX.lt hX.o rfl ?_
  refine qa_iconst (v := nI 1) hΓ dX4_append_35 ic_1 ?_
  refine qz_iadd hΓ dX4_append_36 ?_
  refine qa_puti hΓ dX4_append_37 fk_X4_15 hX.lt hX.o (by simp) ?_
  obtain ⟨hX2, hF⟩ := hX.setL (x := N + 1)
  exact qr_v hR dX4_append_40 ⟨rfl, hX2, hF0.tr hF⟩

