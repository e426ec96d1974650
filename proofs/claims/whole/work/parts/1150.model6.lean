/-! The model: rows exchanged, states kept for undo -/
def pst (M : Bk) (i : Nat) : Nat → Nat := fun j => if j < 203 then M 1 (203 * i + j) else 0
def p5 (M : Bk) : Nat := if M 5 0 = 6 then 5 else M 5 0
/-- a state is kept -/
def Ntd (M M' : Bk) : Prop := (∀ a, a ≠ 1 → a ≠ 5 → M' a = M a) ∧ (∀ j, j ≠ 0 → M' 5 j = M 5 j) ∧ M' 5 0 = p5 M + 1 ∧ (∀ i, i < p5 M → pst M' i = pst M (if M 5 0 = 6 then i + 1 else i)) ∧ pst M' (p5 M) = M 0
set_option maxRecDepth 100000 in
set_option maxHeartbeats 4000000 in
theorem c_X6_exchanges (l : Launch) (d : Nat) {n k : Nat} {w : Nat → AC} {M : Bk} (hM0 : MdAt n w k M) : Sq l yX6_exchanges cX6_exchanges 3 none d [aR k] n w (Qn (PM n k (rset (rset M 0 (M 2)) 2 (M 0)) w)) := by
  refine Sp.of (plainFor_of_name (by decide)) (Nat.le_of_ble_eq_true rfl) (fun Γ hΓ hR => ?_)
  show Γ 0 [aR k, none, none] [] (0, 0) n w
  have loop : ∀ (m i : Nat) (w1 : Nat → AC) (M1 : Bk) (v : AV), i ≤ 203 → 203 < i + m → MdAt n w1 k M1 → Fr k 6 w w1 → (∀ a, a ≠ 0 → a ≠ 2 → M1 a = M a) → (∀ j, M1 0 j = if j < i then M 2 j else M 0 j) → (∀ j, M1 2 j = if j < i then M 0 j else M 2 j) → Γ 2 [aR k, aZ i, v] [] (0, 0) n w1 := by
    intro m
    induction m with
    | zero => intro i w1 M1 v h1 h2; exact absurd h2 (by omega)
    | succ m ih =>
      intro i w M1 v hi hm hM hF0 he h0 h2
      refine qa_iload_n hΓ dX6_exchanges_2 rfl ?_
      refine qa_sipush (v := nI 203) hΓ dX6_exchanges_3 sp_203 ?_
      refine qz_icmp_ge (tgt := 41) hΓ dX6_exchanges_6 (by decide) (by omega) (by omega) (fun h_6 => ?_) (fun h_6 => ?_)
      · refine qr_v hR dX6_exchanges_41 ⟨rfl, hM.of_rows (fun a ha => ?_), hF0⟩
        by_cases e : a = 2
        · subst e
          rw [rset_eq]
          funext j
          rw [h2 j]
          rcases Nat.lt_or_ge j 203 with q | q
          · rw [if_pos (by omega)]
          · rw [hM0.nf (by decide) q, hM0.nf (by decide) q]; simp
        · rw [rset_ne _ _ e]
          by_cases e0 : a = 0
          · subst e0
            rw [rset_eq]
            funext j
            rw [h0 j]
            rcases Nat.lt_or_ge j 203 with q | q
            · rw [if_pos (by omega)]
            · rw [hM0.nf (by decide) q, hM0.nf (by decide) q]; simp
          · rw [rset_ne _ _ e0, he a e0 e]
      · refine qa_aload_n hΓ dX6_exchanges_9 rfl ?_
        refine qa_get hΓ dX6_exchanges_10 fk_X6_7 hM.lt hM.o rfl ?_
        refine qa_iload_n hΓ dX6_exchanges_13 rfl ?_
        refine qz_iald hΓ dX6_exchanges_14 (hM.lti (i := 1) (by decide)) hM.a0 (by omega) (by decide) ?_
        refine qa_istore_n hΓ dX6_exchanges_15 (by decide) ?_
        refine qa_aload_n hΓ dX6_exchanges_16 rfl ?_
        refine qa_get hΓ dX6_exchanges_17 fk_X6_7 hM.lt hM.o rfl ?_
        refine qa_iload_n hΓ dX6_exchanges_20 rfl ?_
        refine qa_aload_n hΓ dX6_exchanges_21 rfl ?_
        refine qa_get hΓ dX6_exchanges_22 fk_X6_16 hM.lt hM.o rfl ?_
        refine qa_iload_n hΓ dX6_exchanges_25 rfl ?_
        refine qz_iald hΓ dX6_exchanges_26 (hM.lti (i := 3) (by decide)) hM.a2 (by omega) (by decide) ?_
        refine qM_ast hΓ (N := 203) 0 (by decide) rfl rfl dX6_exchanges_27 hM (by omega) (fun w hM hF => ?_)
        have hF0 := hF0.tr hF
        refine qa_aload_n hΓ dX6_exchanges_28 rfl ?_
        refine qa_get hΓ dX6_exchanges_29 fk_X6_16 hM.lt hM.o rfl ?_
        refine qa_iload_n hΓ dX6_exchanges_32 rfl ?_
        refine qa_iload_n hΓ dX6_exchanges_33 rfl ?_
        refine qM_ast hΓ (N := 203) 2 (by decide) rfl rfl dX6_exchanges_34 hM (by omega) (fun w hM hF => ?_)
        have hF0 := hF0.tr hF
        refine qz_iinc hΓ dX6_exchanges_35 ii_1 rfl (by decide) ?_
        refine qa_goto (tgt := 2) hΓ dX6_exchanges_38 (by decide) ?_
        refine ih (i + 1) w _ _ (by omega) (by omega) hM hF0 (fun a e e2 => ?_) (fun j => ?_) (fun j => ?_)
        · rw [bset_ne _ _ _ e2, bset_ne _ _ _ e, he a e e2]
        · rw [bset_ne _ _ _ (by decide), bset_eq]
          by_cases e : j = i
          · subst e
            rw [upN_self, if_pos (by omega), h2, if_neg (by omega)]
          · rw [upN_ne _ _ _ e, h0]
            by_cases q : j < i
            · rw [if_pos q, if_pos (by omega)]
            · rw [if_neg q, if_neg (by omega)]
        · rw [bset_eq]
          by_cases e : j = i
          · subst e
            rw [upN_self, if_pos (by omega), h0, if_neg (by omega)]
          · rw [upN_ne _ _ _ e, bset_ne _ _ _ (by decide), h2]
            by_cases q : j < i
            · rw [if_pos q, if_pos (by omega)]
            · rw [if_neg q, if_neg (by omega)]
  refine qa_iconst (v := nI 0) hΓ dX6_exchanges_0 ic_0 ?_
  refine qa_istore_n hΓ dX6_exchanges_1 (by decide) ?_
  exact loop 204 0 w M _ (by omega) (by omega) hM0 Fr.rf (fun _ _ _ => rfl) (fun _ => rfl) (fun _ => rfl)

set_option maxRecDepth 100000 in
set_option maxHeartbeats 4000000 in
theorem c_X6_notes (l : Launch) (d : Nat) {n k : Nat} {w : Nat → AC} {M : Bk} (hM : MdAt n w k M) (h6 : M 5 0 ≤ 6) : Sq l yX6_notes cX6_notes 2 none d [aR k] n w (Qn (fun w' => ∃ M', MdAt n w' k M' ∧ Ntd M M' ∧ Fr k 6 w w')) := by
  refine Sp.of (plainFor_of_name (by decide)) (Nat.le_of_ble_eq_true rfl) (fun Γ hΓ hR => ?_)
  show Γ 0 [aR k, none] [] (0, 0) n w
  have hM0 := hM
  have loop2 : ∀ (w0 : Nat → AC) (M2 : Bk) (p : Nat), MdAt n w0 k M2 → M2 5 0 = p → p ≤ 5 → (∀ (w1 : Nat → AC) (M3 : Bk) (v : AV), MdAt n w1 k M3 → Fr k 6 w0 w1 → (∀ a, a ≠ 1 → M3 a = M2 a) → (∀ j, M3 1 j = if 203 * p ≤ j ∧ j < 203 * p + 203 then M2 0 (j - 203 * p) else M2 1 j) → Γ 86 [aR k, v] [] (0, 0) n w1) → Γ 52 [aR k, aZ 0] [] (0, 0) n w0 := by
    intro w0 M2 p hM0 hp hp5 K
    have loop : ∀ (m i : Nat) (w1 : Nat → AC) (M1 : Bk), i ≤ 203 → 203 < i + m → MdAt n w1 k M1 → Fr k 6 w0 w1 → (∀ a, a ≠ 1 → M1 a = M2 a) → (∀ j, M1 1 j = if 203 * p ≤ j ∧ j < 203 * p + i then M2 0 (j - 203 * p) else M2 1 j) → Γ 52 [aR k, aZ i] [] (0, 0) n w1 := by
      intro m
      induction m with
      | zero => intro i w1 M1 h1 h2; exact absurd h2 (by omega)
      | succ m ih =>
        intro i w M1 hi hm hM hF0 he hj
        have hp1 : M1 5 0 = p := by rw [he 5 (by decide), hp]
        refine qa_iload_n hΓ dX6_notes_52 rfl ?_
        refine qa_sipush (v := nI 203) hΓ dX6_notes_53 sp_203 ?_
        refine qz_icmp_ge (tgt := 86) hΓ dX6_notes_56 (by decide) (by omega) (by omega) (fun h_56 => ?_) (fun h_56 => ?_)
        · exact K w M1 _ hM hF0 he (fun j => by rw [hj j, show i = 203 by omega])
        · refine qa_aload_n hΓ dX6_notes_59 rfl ?_
          refine qa_get hΓ dX6_notes_60 fk_X6_13 hM.lt hM.o rfl ?_
          refine qa_sipush (v := nI 203) hΓ dX6_notes_63 sp_203 ?_
          refine qa_aload_n hΓ dX6_notes_66 rfl ?_
          refine qa_get hΓ dX6_notes_67 fk_X6_30 hM.lt hM.o rfl ?_
          refine qz_imul hΓ dX6_notes_70 ?_
          refine qa_iload_n hΓ dX6_notes_71 rfl ?_
          refine qz_iadd hΓ dX6_notes_72 ?_
          refine qa_aload_n hΓ dX6_notes_73 rfl ?_
          refine qa_get hΓ dX6_notes_74 fk_X6_7 hM.lt hM.o rfl ?_
          refine qa_iload_n hΓ dX6_notes_77 rfl ?_
          refine qz_iald hΓ dX6_notes_78 (hM.lti (i := 1) (by decide)) hM.a0 (by omega) (by decide) ?_
          refine qM_ast hΓ (N := 1218) 1 (by decide) rfl rfl dX6_notes_79 hM (by omega) (fun w hM hF => ?_)
          have hF0 := hF0.tr hF
          refine qz_iinc hΓ dX6_notes_80 ii_1 rfl (by decide) ?_
          refine qa_goto (tgt := 52) hΓ dX6_notes_83 (by decide) ?_
          refine ih (i + 1) w _ (by omega) (by omega) hM hF0 (fun a e => ?_) (fun j => ?_)
          · rw [bset_ne _ _ _ e, he a e]
          · rw [bset_eq, hp1]
            by_cases e : j = 203 * p + i
            · subst e
              rw [upN_self, if_pos (by omega), he 0 (by decide)]
              congr 1
              omega
            · rw [upN_ne _ _ _ e, hj j]
              by_cases q : 203 * p ≤ j ∧ j < 203 * p + i
              · rw [if_pos q, if_pos (by omega)]
              · rw [if_neg q, if_neg (by omega)]
    exact loop 204 0 w0 M2 (by omega) (by omega) hM0 Fr.rf (fun _ _ => rfl) (fun j => by rw [if_neg (by omega)])
  have loop1 : ∀ (m i : Nat) (w1 : Nat → AC) (M1 : Bk), i ≤ 1015 → 1015 < i + m → MdAt n w1 k M1 → Fr k 6 w w1 → (∀ a, a ≠ 1 → M1 a = M a) → (∀ j, M1 1 j = if j < i then M 1 (j + 203) else M 1 j) → (∀ (w1 : Nat → AC) (M1 : Bk) (v : AV), MdAt n w1 k M1 → Fr k 6 w w1 → (∀ a, a ≠ 1 → M1 a = M a) → (∀ j, M1 1 j = if j < 1015 then M 1 (j + 203) else M 1 j) → Γ 40 [aR k, v] [] (0, 0) n w1) → Γ 11 [aR k, aZ i] [] (0, 0) n w1 := by
    intro m
    induction m with
    | zero => intro i w1 M1 h1 h2; exact absurd h2 (by omega)
    | succ m ih =>
      intro i w M1 hi hm hM hF0 he hj K
      refine qa_iload_n hΓ dX6_notes_11 rfl ?_
      refine qa_sipush (v := nI 1015) hΓ dX6_notes_12 sp_1015 ?_
      refine qz_icmp_ge (tgt := 40) hΓ dX6_notes_15 (by decide) (by omega) (by omega) (fun h_15 => ?_) (fun h_15 => ?_)
      · exact K w M1 _ hM hF0 he (fun j => by rw [hj j, show i = 1015 by omega])
      · refine qa_aload_n hΓ dX6_notes_18 rfl ?_
        refine qa_get hΓ dX6_notes_19 fk_X6_13 hM.lt hM.o rfl ?_
        refine qa_iload_n hΓ dX6_notes_22 rfl ?_
        refine qa_aload_n hΓ dX6_notes_23 rfl ?_
        refine qa_get hΓ dX6_notes_24 fk_X6_13 hM.lt hM.o rfl ?_
        refine qa_iload_n hΓ dX6_notes_27 rfl ?_
        refine qa_sipush (v := nI 203) hΓ dX6_notes_28 sp_203 ?_
        refine qz_iadd hΓ dX6_notes_31 ?_
        refine qz_iald hΓ dX6_notes_32 (hM.lti (i := 2) (by decide)) hM.a1 (by omega) (by decide) ?_
        refine qM_ast hΓ (N := 1218) 1 (by decide) rfl rfl dX6_notes_33 hM (by omega) (fun w hM hF => ?_)
        have hF0 := hF0.tr hF
        refine qz_iinc hΓ dX6_notes_34 ii_1 rfl (by decide) ?_
        refine qa_goto (tgt := 11) hΓ dX6_notes_37 (by decide) ?_
        refine ih (i + 1) w _ (by omega) (by omega) hM hF0 (fun a e => ?_) (fun j => ?_) K
        · rw [bset_ne _ _ _ e, he a e]
        · rw [bset_eq]
          by_cases e : j = i
          · subst e
            rw [upN_self, if_pos (by omega), hj, if_neg (by omega)]
          · rw [upN_ne _ _ _ e, hj j]
            by_cases q : j < i
            · rw [if_pos q, if_pos (by omega)]
            · rw [if_neg q, if_neg (by omega)]
  refine qa_aload_n hΓ dX6_notes_0 rfl ?_
  refine qa_get hΓ dX6_notes_1 fk_X6_30 hM.lt hM.o rfl ?_
  refine qa_bipush (v := nI 6) hΓ dX6_notes_4 bp_6 ?_
  refine qz_icmp_ne (tgt := 50) hΓ dX6_notes_6 (by decide) (by omega) (by omega) (fun h_6 => ?_) (fun h_6 => ?_)
  · refine qa_iconst (v := nI 0) hΓ dX6_notes_50 ic_0 ?_
    refine qa_istore_n hΓ dX6_notes_51 (by decide) ?_
    refine loop2 _ _ (M 5 0) hM rfl (by omega) (fun w1 M3 v hM hF0 he3 hj3 => ?_)
    refine qa_aload_n hΓ dX6_notes_86 rfl ?_
    refine qa_dup hΓ dX6_notes_87 ?_
    refine qa_get hΓ dX6_notes_88 fk_X6_30 hM.lt hM.o rfl ?_
    refine qa_iconst (v := nI 1) hΓ dX6_notes_91 ic_1 ?_
    refine qz_iadd hΓ dX6_notes_92 ?_
    refine qM_put hΓ 0 dX6_notes_93 fk_X6_30 (by decide) hM (fun w hM hF => ?_)
    have hF0 := hF0.tr hF
    have e5 : p5 M = M 5 0 := by unfold p5; rw [if_neg h_6]
    refine qr_v hR dX6_notes_96 ⟨rfl, _, hM, ⟨fun a h1 h5 => ?_, fun j hj => ?_, ?_, fun i hi => ?_, ?_⟩, hF0⟩
    · rw [bset_ne _ _ _ h5, he3 a h1]
    · rw [bset_eq, upN_ne _ _ _ hj, he3 5 (by decide)]
    · rw [bset_eq, upN_self, he3 5 (by decide), e5]
    · rw [e5] at hi
      rw [if_neg h_6]
      funext j
      unfold pst
      split
      · rw [bset_ne _ _ _ (by decide), hj3, if_neg (by omega)]
      · rfl
    · rw [e5]
      funext j
      unfold pst
      split
      · rw [bset_ne _ _ _ (by decide), hj3, if_pos (by omega)]
        congr 1
        omega
      · exact (hM0.nf (i := 0) (by decide) (show 203 ≤ j by omega)).symm
  · refine qa_iconst (v := nI 0) hΓ dX6_notes_9 ic_0 ?_
    refine qa_istore_n hΓ dX6_notes_10 (by decide) ?_
    refine loop1 1016 0 w M (by omega) (by omega) hM Fr.rf (fun _ _ => rfl) (fun j => by rw [if_neg (by omega)]) (fun w1 M1 v hM hF0 he hj => ?_)
    have hp6 : M 5 0 = 6 := h_6
    have h15 : M1 5 0 = 6 := by rw [he 5 (by decide), h_6]
    refine qa_aload_n hΓ dX6_notes_40 rfl ?_
    refine qa_dup hΓ dX6_notes_41 ?_
    refine qa_get hΓ dX6_notes_42 fk_X6_30 hM.lt hM.o rfl ?_
    refine qa_iconst (v := nI 1) hΓ dX6_notes_45 ic_1 ?_
    refine qz_isub hΓ dX6_notes_46 (by omega) ?_
    refine qM_put hΓ 0 dX6_notes_47 fk_X6_30 (by decide) hM (fun w hM hF => ?_)
    have hF0 := hF0.tr hF
    refine qa_iconst (v := nI 0) hΓ dX6_notes_50 ic_0 ?_
    refine qa_istore_n hΓ dX6_notes_51 (by decide) ?_
    refine loop2 _ _ 5 hM (by rw [bset_eq, upN_self, h15]) (by decide) (fun w1 M3 v hM hF3 he3 hj3 => ?_)
    have hF0 := hF0.tr hF3
    refine qa_aload_n hΓ dX6_notes_86 rfl ?_
    refine qa_dup hΓ dX6_notes_87 ?_
    refine qa_get hΓ dX6_notes_88 fk_X6_30 hM.lt hM.o rfl ?_
    refine qa_iconst (v := nI 1) hΓ dX6_notes_91 ic_1 ?_
    refine qz_iadd hΓ dX6_notes_92 ?_
    refine qM_put hΓ 0 dX6_notes_93 fk_X6_30 (by decide) hM (fun w hM hF => ?_)
    have hF0 := hF0.tr hF
    refine qr_v hR dX6_notes_96 ⟨rfl, _, hM, ⟨fun a h1 h5 => ?_, fun j hj => ?_, ?_, fun i hi => ?_, ?_⟩, hF0⟩
    · rw [bset_ne _ _ _ h5, he3 a h1, bset_ne _ _ _ h5, he a h1]
    · rw [bset_eq, upN_ne _ _ _ hj, he3 5 (by decide), bset_eq, upN_ne _ _ _ hj, he 5 (by decide)]
    · rw [bset_eq, upN_self, he3 5 (by decide), bset_eq, upN_self, he 5 (by decide), hp6]; unfold p5; rw [if_pos h_6]
    · have e5 : p5 M = 5 := by unfold p5; rw [if_pos h_6]
      rw [e5] at hi
      rw [if_pos h_6]
      funext j
      unfold pst
      split
      · rw [bset_ne _ _ _ (by decide), hj3, if_neg (by omega), bset_ne _ _ _ (by decide), hj, if_pos (by omega)]
        congr 1
        omega
      · rfl
    · have e5 : p5 M = 5 := by unfold p5; rw [if_pos h_6]
      rw [e5]
      funext j
      unfold pst
      split
      · rw [bset_ne _ _ _ (by decide), hj3, if_pos (by omega), bset_ne _ _ _ (by decide), he 0 (by decide)]
        congr 1
        omega
      · exact (hM0.nf (i := 0) (by decide) (show 203 ≤ j by omega)).symm

set_option maxRecDepth 100000 in
set_option maxHeartbeats 4000000 in
theorem c_X6_undo (l : Launch) (d : Nat) {n k : Nat} {w : Nat → AC} {M : Bk} (hM : MdAt n w k M) (h6 : M 5 0 ≤ 6) : Sq l yX6_undo cX6_undo 2 (some .int) d [aR k] n w (Qv (aI (if M 5 0 = 0 then -2 else nI (M 5 0 - 1))) (PM n k (if M 5 0 = 0 then M else rset (bset M 5 0 (M 5 0 - 1)) 0 (pst M (M 5 0 - 1))) w)) := by
  refine Sp.of (plainFor_of_name (by decide)) (Nat.le_of_ble_eq_true rfl) (fun Γ hΓ hR => ?_)
  show Γ 0 [aR k, none] [] (0, 0) n w
  have hM0 := hM
  have loop : ∀ (m i : Nat) (w1 : Nat → AC) (M1 : Bk), i ≤ 203 → 203 < i + m → MdAt n w1 k M1 → Fr k 6 w w1 → (∀ a, a ≠ 0 → M1 a = bset M 5 0 (M 5 0 - 1) a) → (∀ j, j < i → M1 0 j = M 1 (203 * (M 5 0 - 1) + j)) → M 5 0 ≠ 0 → Γ 22 [aR k, aZ i] [] (0, 0) n w1 := by
    intro m
    induction m with
    | zero => intro i w1 M1 h1 h2; exact absurd h2 (by omega)
    | succ m ih =>
      intro i w M1 hi hm hM hF0 he hj hne
      have hp1 : M1 5 0 = M 5 0 - 1 := by rw [he 5 (by decide), bset_eq, upN_self]
      refine qa_iload_n hΓ dX6_undo_22 rfl ?_
      refine qa_sipush (v := nI 203) hΓ dX6_undo_23 sp_203 ?_
      refine qz_icmp_ge (tgt := 56) hΓ dX6_undo_26 (by decide) (by omega) (by omega) (fun h_26 => ?_) (fun h_26 => ?_)
      · refine qa_aload_n hΓ dX6_undo_56 rfl ?_
        refine qa_get hΓ dX6_undo_57 fk_X6_30 hM.lt hM.o rfl ?_
        refine qr_i hR dX6_undo_60 ⟨by rw [if_neg hne, hp1], hM.of_rows (fun a ha => ?_), hF0⟩
        by_cases e : a = 0
        · subst e
          rw [if_neg hne, rset_eq]
          funext j
          unfold pst
          rcases Nat.lt_or_ge j 203 with q | q
          · rw [if_pos q, hj j (by omega)]
          · rw [if_neg (by omega), hM.nf (by decide) q]
        · rw [if_neg hne, rset_ne _ _ e, he a e]
      · refine qa_aload_n hΓ dX6_undo_29 rfl ?_
        refine qa_get hΓ dX6_undo_30 fk_X6_7 hM.lt hM.o rfl ?_
        refine qa_iload_n hΓ dX6_undo_33 rfl ?_
        refine qa_aload_n hΓ dX6_undo_34 rfl ?_
        refine qa_get hΓ dX6_undo_35 fk_X6_13 hM.lt hM.o rfl ?_
        refine qa_sipush (v := nI 203) hΓ dX6_undo_38 sp_203 ?_
        refine qa_aload_n hΓ dX6_undo_41 rfl ?_
        refine qa_get hΓ dX6_undo_42 fk_X6_30 hM.lt hM.o rfl ?_
        refine qz_imul hΓ dX6_undo_45 ?_
        refine qa_iload_n hΓ dX6_undo_46 rfl ?_
        refine qz_iadd hΓ dX6_undo_47 ?_
        refine qz_iald hΓ dX6_undo_48 (hM.lti (i := 2) (by decide)) hM.a1 (by omega) (by decide) ?_
        refine qM_ast hΓ (N := 203) 0 (by decide) rfl rfl dX6_undo_49 hM (by omega) (fun w hM hF => ?_)
        have hF0 := hF0.tr hF
        refine qz_iinc hΓ dX6_undo_50 ii_1 rfl (by decide) ?_
        refine qa_goto (tgt := 22) hΓ dX6_undo_53 (by decide) ?_
        refine ih (i + 1) w _ (by omega) (by omega) hM hF0 (fun a e => ?_) (fun j h => ?_) hne
        · rw [bset_ne _ _ _ e, he a e]
        · rw [bset_eq]
          by_cases e : j = i
          · subst e
            rw [upN_self, he 1 (by decide), bset_ne _ _ _ (by decide), hp1]
          · rw [upN_ne _ _ _ e]
            exact hj j (by omega)
  refine qa_aload_n hΓ dX6_undo_0 rfl ?_
  refine qa_get hΓ dX6_undo_1 fk_X6_30 hM.lt hM.o rfl ?_
  refine qz_if_ne (tgt := 10) hΓ dX6_undo_4 (by decide) (by omega) (fun h_4 => ?_) (fun h_4 => ?_)
  · have hF0 : Fr k 6 w w := Fr.rf
    refine qa_aload_n hΓ dX6_undo_10 rfl ?_
    refine qa_dup hΓ dX6_undo_11 ?_
    refine qa_get hΓ dX6_undo_12 fk_X6_30 hM.lt hM.o rfl ?_
    refine qa_iconst (v := nI 1) hΓ dX6_undo_15 ic_1 ?_
    refine qz_isub hΓ dX6_undo_16 (by omega) ?_
    refine qM_put hΓ 0 dX6_undo_17 fk_X6_30 (by decide) hM (fun w hM hF => ?_)
    have hF0 := hF0.tr hF
    refine qa_iconst (v := nI 0) hΓ dX6_undo_20 ic_0 ?_
    refine qa_istore_n hΓ dX6_undo_21 (by decide) ?_
    exact loop 204 0 w _ (by omega) (by omega) hM hF (fun _ _ => rfl) (fun j h => absurd h (by omega)) h_4
  · refine qa_bipush (v := (-2)) hΓ dX6_undo_7 bp_m2 ?_
    exact qr_i hR dX6_undo_9 ⟨by rw [if_pos h_4], by rw [if_pos h_4]; exact hM, Fr.rf⟩

