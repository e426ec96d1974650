/-! The model's small methods -/
def sset (M : Bk) (r x y : Nat) : Bk := bset M 0 (3 + 25 * r + x) y
set_option maxRecDepth 100000 in
set_option maxHeartbeats 4000000 in
theorem c_X6_of (l : Launch) (d : Nat) {n k : Nat} {w : Nat → AC} {M : Bk} (hM : MdAt n w k M) (r x : Nat) (hr : r < 8) (hx : x < 25) : Sq l yX6_of cX6_of 3 (some .int) d [aR k, aZ r, aZ x] n w (Rs (some (aZ (vv (M 0) r x))) w) := by
  refine Sp.of (plainFor_of_name (by decide)) (Nat.le_of_ble_eq_true rfl) (fun Γ hΓ hR => ?_)
  show Γ 0 [aR k, aZ r, aZ x] [] (0, 0) n w
  refine qa_aload_n hΓ dX6_of_0 rfl ?_
  refine qa_get hΓ dX6_of_1 fk_X6_7 hM.lt hM.o rfl ?_
  refine qa_iconst (v := nI 3) hΓ dX6_of_4 ic_3 ?_
  refine qa_bipush (v := nI 25) hΓ dX6_of_5 bp_25 ?_
  refine qa_iload_n hΓ dX6_of_7 rfl ?_
  refine qz_imul hΓ dX6_of_8 ?_
  refine qz_iadd hΓ dX6_of_9 ?_
  refine qa_iload_n hΓ dX6_of_10 rfl ?_
  refine qz_iadd hΓ dX6_of_11 ?_
  refine qz_iald hΓ dX6_of_12 (hM.lti (i := 1) (by decide)) hM.a0 (by omega) (by decide) ?_
  exact qr_i hR dX6_of_13 ⟨rfl, rfl⟩

set_option maxRecDepth 100000 in
set_option maxHeartbeats 4000000 in
theorem c_X6_puts (l : Launch) (d : Nat) {n k : Nat} {w : Nat → AC} {M : Bk} (hM : MdAt n w k M) (r x y : Nat) (hr : r < 8) (hx : x < 25) : Sq l yX6_puts cX6_puts 4 none d [aR k, aZ r, aZ x, aZ y] n w (Qn (PM n k (sset M r x y) w)) := by
  refine Sp.of (plainFor_of_name (by decide)) (Nat.le_of_ble_eq_true rfl) (fun Γ hΓ hR => ?_)
  show Γ 0 [aR k, aZ r, aZ x, aZ y] [] (0, 0) n w
  refine qa_aload_n hΓ dX6_puts_0 rfl ?_
  refine qa_get hΓ dX6_puts_1 fk_X6_7 hM.lt hM.o rfl ?_
  refine qa_iconst (v := nI 3) hΓ dX6_puts_4 ic_3 ?_
  refine qa_bipush (v := nI 25) hΓ dX6_puts_5 bp_25 ?_
  refine qa_iload_n hΓ dX6_puts_7 rfl ?_
  refine qz_imul hΓ dX6_puts_8 ?_
  refine qz_iadd hΓ dX6_puts_9 ?_
  refine qa_iload_n hΓ dX6_puts_10 rfl ?_
  refine qz_iadd hΓ dX6_puts_11 ?_
  refine qa_iload_n hΓ dX6_puts_12 rfl ?_
  refine qM_ast hΓ (N := 203) 0 (by decide) rfl rfl dX6_puts_13 hM (by omega) (fun w hM hF => ?_)
  exact qr_v hR dX6_puts_14 ⟨rfl, hM, hF⟩

set_option maxRecDepth 100000 in
set_option maxHeartbeats 4000000 in
theorem c_X6_isRelay (l : Launch) (d : Nat) (hd : 1 ≤ d) {n k : Nat} {w : Nat → AC} {M : Bk} (hM : MdAt n w k M) (v : Int32) : Sq l yX6_isRelay cX6_isRelay 2 (some .boolean) d [aR k, aI v] n w (Rs (some (aZ (decide (nI 0 ≤ v ∧ v ≤ nI (M 0 1) - nI 1)).toNat)) w) := by
  refine Sp.of (plainFor_of_name (by decide)) (Nat.le_of_ble_eq_true rfl) (fun Γ hΓ hR => ?_)
  show Γ 0 [aR k, aI v] [] (0, 0) n w
  refine qa_iload_n hΓ dX6_isRelay_0 rfl ?_
  refine qa_iconst (v := nI 0) hΓ dX6_isRelay_1 ic_0 ?_
  refine qa_aload_n hΓ dX6_isRelay_2 rfl ?_
  refine qa_get hΓ dX6_isRelay_3 fk_X6_7 hM.lt hM.o rfl ?_
  refine qa_iconst (v := nI 1) hΓ dX6_isRelay_6 ic_1 ?_
  refine qz_iald hΓ dX6_isRelay_7 (hM.lti (i := 1) (by decide)) hM.a0 (by omega) (by decide) ?_
  refine qa_iconst (v := nI 1) hΓ dX6_isRelay_8 ic_1 ?_
  refine qa_isub hΓ dX6_isRelay_9 ?_
  refine qc_S1 hΓ dX6_isRelay_10 lk_X6_33 vw_X6_in (by omega) (c_X6_in l (d - 1) _ _ _) rfl rfl (Nat.le_of_ble_eq_true rfl) ?_
  exact qr_b hR dX6_isRelay_13 ⟨rfl, rfl⟩

set_option maxRecDepth 100000 in
set_option maxHeartbeats 4000000 in
theorem c_X6_keeps (l : Launch) (d : Nat) {n k : Nat} {w : Nat → AC} {M : Bk} (hM0 : MdAt n w k M) : Sq l yX6_keeps cX6_keeps 2 none d [aR k] n w (Qn (PM n k (rset M 2 (M 0)) w)) := by
  refine Sp.of (plainFor_of_name (by decide)) (Nat.le_of_ble_eq_true rfl) (fun Γ hΓ hR => ?_)
  show Γ 0 [aR k, none] [] (0, 0) n w
  have loop : ∀ (m i : Nat) (w1 : Nat → AC) (M1 : Bk), i ≤ 203 → 203 < i + m → MdAt n w1 k M1 → Fr k 6 w w1 → (∀ a, a ≠ 2 → M1 a = M a) → (∀ j, j < i → M1 2 j = M 0 j) → Γ 2 [aR k, aZ i] [] (0, 0) n w1 := by
    intro m
    induction m with
    | zero => intro i w1 M1 h1 h2; exact absurd h2 (by omega)
    | succ m ih =>
      intro i w M1 hi hm hM hF0 he hj
      refine qa_iload_n hΓ dX6_keeps_2 rfl ?_
      refine qa_sipush (v := nI 203) hΓ dX6_keeps_3 sp_203 ?_
      refine qz_icmp_ge (tgt := 27) hΓ dX6_keeps_6 (by decide) (by omega) (by omega) (fun h_6 => ?_) (fun h_6 => ?_)
      · refine qr_v hR dX6_keeps_27 ⟨rfl, hM.of_rows (fun a ha => ?_), hF0⟩
        by_cases e : a = 2
        · subst e
          rw [rset_eq]
          funext j
          rcases Nat.lt_or_ge j 203 with q | q
          · exact (hj j (by omega)).symm
          · rw [hM.nf (by decide) q, hM0.nf (by decide) q]
        · rw [rset_ne _ _ e, he a e]
      · refine qa_aload_n hΓ dX6_keeps_9 rfl ?_
        refine qa_get hΓ dX6_keeps_10 fk_X6_16 hM.lt hM.o rfl ?_
        refine qa_iload_n hΓ dX6_keeps_13 rfl ?_
        refine qa_aload_n hΓ dX6_keeps_14 rfl ?_
        refine qa_get hΓ dX6_keeps_15 fk_X6_7 hM.lt hM.o rfl ?_
        refine qa_iload_n hΓ dX6_keeps_18 rfl ?_
        refine qz_iald hΓ dX6_keeps_19 (hM.lti (i := 1) (by decide)) hM.a0 (by omega) (by decide) ?_
        refine qM_ast hΓ (N := 203) 2 (by decide) rfl rfl dX6_keeps_20 hM (by omega) (fun w hM hF => ?_)
        have hF0 := hF0.tr hF
        refine qz_iinc hΓ dX6_keeps_21 ii_1 rfl (by decide) ?_
        refine qa_goto (tgt := 2) hΓ dX6_keeps_24 (by decide) ?_
        refine ih (i + 1) w _ (by omega) (by omega) hM hF0 (fun a e => ?_) (fun j h => ?_)
        · rw [bset_ne _ _ _ e, he a e]
        · rw [bset_eq]
          by_cases e : j = i
          · subst e
            rw [upN_self, he 0 (by decide)]
          · rw [upN_ne _ _ _ e]
            exact hj j (by omega)
  refine qa_iconst (v := nI 0) hΓ dX6_keeps_0 ic_0 ?_
  refine qa_istore_n hΓ dX6_keeps_1 (by decide) ?_
  exact loop 204 0 w M (by omega) (by omega) hM0 Fr.rf (fun _ _ => rfl) (fun j h => absurd h (by omega))

set_option maxRecDepth 100000 in
set_option maxHeartbeats 4000000 in
theorem c_X6_restores (l : Launch) (d : Nat) {n k : Nat} {w : Nat → AC} {M : Bk} (hM0 : MdAt n w k M) : Sq l yX6_restores cX6_restores 2 none d [aR k] n w (Qn (PM n k (rset M 0 (M 2)) w)) := by
  refine Sp.of (plainFor_of_name (by decide)) (Nat.le_of_ble_eq_true rfl) (fun Γ hΓ hR => ?_)
  show Γ 0 [aR k, none] [] (0, 0) n w
  have loop : ∀ (m i : Nat) (w1 : Nat → AC) (M1 : Bk), i ≤ 203 → 203 < i + m → MdAt n w1 k M1 → Fr k 6 w w1 → (∀ a, a ≠ 0 → M1 a = M a) → (∀ j, j < i → M1 0 j = M 2 j) → Γ 2 [aR k, aZ i] [] (0, 0) n w1 := by
    intro m
    induction m with
    | zero => intro i w1 M1 h1 h2; exact absurd h2 (by omega)
    | succ m ih =>
      intro i w M1 hi hm hM hF0 he hj
      refine qa_iload_n hΓ dX6_restores_2 rfl ?_
      refine qa_sipush (v := nI 203) hΓ dX6_restores_3 sp_203 ?_
      refine qz_icmp_ge (tgt := 27) hΓ dX6_restores_6 (by decide) (by omega) (by omega) (fun h_6 => ?_) (fun h_6 => ?_)
      · refine qr_v hR dX6_restores_27 ⟨rfl, hM.of_rows (fun a ha => ?_), hF0⟩
        by_cases e : a = 0
        · subst e
          rw [rset_eq]
          funext j
          rcases Nat.lt_or_ge j 203 with q | q
          · exact (hj j (by omega)).symm
          · rw [hM.nf (by decide) q, hM0.nf (by decide) q]
        · rw [rset_ne _ _ e, he a e]
      · refine qa_aload_n hΓ dX6_restores_9 rfl ?_
        refine qa_get hΓ dX6_restores_10 fk_X6_7 hM.lt hM.o rfl ?_
        refine qa_iload_n hΓ dX6_restores_13 rfl ?_
        refine qa_aload_n hΓ dX6_restores_14 rfl ?_
        refine qa_get hΓ dX6_restores_15 fk_X6_16 hM.lt hM.o rfl ?_
        refine qa_iload_n hΓ dX6_restores_18 rfl ?_
        refine qz_iald hΓ dX6_restores_19 (hM.lti (i := 3) (by decide)) hM.a2 (by omega) (by decide) ?_
        refine qM_ast hΓ (N := 203) 0 (by decide) rfl rfl dX6_restores_20 hM (by omega) (fun w hM hF => ?_)
        have hF0 := hF0.tr hF
        refine qz_iinc hΓ dX6_restores_21 ii_1 rfl (by decide) ?_
        refine qa_goto (tgt := 2) hΓ dX6_restores_24 (by decide) ?_
        refine ih (i + 1) w _ (by omega) (by omega) hM hF0 (fun a e => ?_) (fun j h => ?_)
        · rw [bset_ne _ _ _ e, he a e]
        · rw [bset_eq]
          by_cases e : j = i
          · subst e
            rw [upN_self, he 2 (by decide)]
          · rw [upN_ne _ _ _ e]
            exact hj j (by omega)
  refine qa_iconst (v := nI 0) hΓ dX6_restores_0 ic_0 ?_
  refine qa_istore_n hΓ dX6_restores_1 (by decide) ?_
  exact loop 204 0 w M (by omega) (by omega) hM0 Fr.rf (fun _ _ => rfl) (fun j h => absurd h (by omega))

