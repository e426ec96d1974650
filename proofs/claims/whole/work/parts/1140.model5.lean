/-! The model: races, exchanges, the states kept for undo -/
theorem ndE_le {s : Nat → Nat} {B : Nat} (h : Wt s B) (rev : Bool) (m : Nat) : ndE s rev m ≤ 511 := by
  unfold ndE
  have h1 := mk_256 (stB (stl s rev m).2 3) (h.stl (rev := rev) (m := m)).2.1
  split <;> omega
set_option maxRecDepth 100000 in
set_option maxHeartbeats 4000000 in
theorem c_X6_races (l : Launch) (d : Nat) (hd : 6 ≤ d) {n k : Nat} {w : Nat → AC} {M : Bk} (hM : MdAt n w k M) {B : Nat} (hW : Wt (M 0) B) (hB : B < 900000000) : Sq l yX6_races cX6_races 4 (some .int) d [aR k] n w (Qv (aZ (if ndE (M 0) false 200 = ndE (M 0) true 200 then 0 else 1)) (PS n k (rset M 3 (M 0)) (M 0) w)) := by
  refine Sp.of (plainFor_of_name (by decide)) (Nat.le_of_ble_eq_true rfl) (fun Γ hΓ hR => ?_)
  show Γ 0 [aR k, none, none, none] [] (0, 0) n w
  have cp1 : ∀ (w0 : Nat → AC) (M0 : Bk), MdAt n w0 k M0 → (∀ (w1 : Nat → AC) (c : AV), MdAt n w1 k (rset M0 3 (M0 0)) → Fr k 6 w0 w1 → Γ 27 [aR k, c, none, none] [] (0, 0) n w1) → Γ 2 [aR k, aZ 0, none, none] [] (0, 0) n w0 := by
    intro w0 M0 hM0 K
    have loop : ∀ (m i : Nat) (w1 : Nat → AC) (M1 : Bk), i ≤ 203 → 203 < i + m → MdAt n w1 k M1 → Fr k 6 w0 w1 → (∀ a, a ≠ 3 → M1 a = M0 a) → (∀ j, j < i → M1 3 j = M0 0 j) → Γ 2 [aR k, aZ i, none, none] [] (0, 0) n w1 := by
      intro m
      induction m with
      | zero => intro i w1 M1 h1 h2; exact absurd h2 (by omega)
      | succ m ih =>
        intro i w M1 hi hm hM hF0 he hj
        refine qa_iload_n hΓ dX6_races_2 rfl ?_
        refine qa_sipush (v := nI 203) hΓ dX6_races_3 sp_203 ?_
        refine qz_icmp_ge (tgt := 27) hΓ dX6_races_6 (by decide) (by omega) (by omega) (fun h_6 => ?_) (fun h_6 => ?_)
        · refine K w _ (hM.of_rows (fun a ha => ?_)) hF0
          by_cases e : a = 3
          · subst e
            rw [rset_eq]
            funext j
            rcases Nat.lt_or_ge j 203 with q | q
            · exact (hj j (by omega)).symm
            · rw [hM.nf (by decide) q, hM0.nf (by decide) q]
          · rw [rset_ne _ _ e, he a e]
        · refine qa_aload_n hΓ dX6_races_9 rfl ?_
          refine qa_get hΓ dX6_races_10 fk_X6_19 hM.lt hM.o rfl ?_
          refine qa_iload_n hΓ dX6_races_13 rfl ?_
          refine qa_aload_n hΓ dX6_races_14 rfl ?_
          refine qa_get hΓ dX6_races_15 fk_X6_7 hM.lt hM.o rfl ?_
          refine qa_iload_n hΓ dX6_races_18 rfl ?_
          refine qz_iald hΓ dX6_races_19 (hM.lti (i := 1) (by decide)) hM.a0 (by omega) (by decide) ?_
          refine qM_ast hΓ (N := 203) 3 (by decide) rfl rfl dX6_races_20 hM (by omega) (fun w hM hF => ?_)
          have hF0 := hF0.tr hF
          refine qz_iinc hΓ dX6_races_21 ii_1 rfl (by decide) ?_
          refine qa_goto (tgt := 2) hΓ dX6_races_24 (by decide) ?_
          refine ih (i + 1) w _ (by omega) (by omega) hM hF0 (fun a e => ?_) (fun j h => ?_)
          · rw [bset_ne _ _ _ e, he a e]
          · rw [bset_eq]
            by_cases e : j = i
            · subst e
              rw [upN_self, he 0 (by decide)]
            · rw [upN_ne _ _ _ e]
              exact hj j (by omega)
    exact loop 204 0 w0 M0 (by omega) (by omega) hM0 Fr.rf (fun _ _ => rfl) (fun j h => absurd h (by omega))
  have cp2 : ∀ (w0 : Nat → AC) (M0 : Bk) (u1 : AV), MdAt n w0 k M0 → (∀ (w1 : Nat → AC) (c : AV), MdAt n w1 k (rset M0 0 (M0 3)) → Fr k 6 w0 w1 → Γ 63 [aR k, u1, c, none] [] (0, 0) n w1) → Γ 38 [aR k, u1, aZ 0, none] [] (0, 0) n w0 := by
    intro w0 M0 u1 hM0 K
    have loop : ∀ (m i : Nat) (w1 : Nat → AC) (M1 : Bk), i ≤ 203 → 203 < i + m → MdAt n w1 k M1 → Fr k 6 w0 w1 → (∀ a, a ≠ 0 → M1 a = M0 a) → (∀ j, j < i → M1 0 j = M0 3 j) → Γ 38 [aR k, u1, aZ i, none] [] (0, 0) n w1 := by
      intro m
      induction m with
      | zero => intro i w1 M1 h1 h2; exact absurd h2 (by omega)
      | succ m ih =>
        intro i w M1 hi hm hM hF0 he hj
        refine qa_iload_n hΓ dX6_races_38 rfl ?_
        refine qa_sipush (v := nI 203) hΓ dX6_races_39 sp_203 ?_
        refine qz_icmp_ge (tgt := 63) hΓ dX6_races_42 (by decide) (by omega) (by omega) (fun h_42 => ?_) (fun h_42 => ?_)
        · refine K w _ (hM.of_rows (fun a ha => ?_)) hF0
          by_cases e : a = 0
          · subst e
            rw [rset_eq]
            funext j
            rcases Nat.lt_or_ge j 203 with q | q
            · exact (hj j (by omega)).symm
            · rw [hM.nf (by decide) q, hM0.nf (by decide) q]
          · rw [rset_ne _ _ e, he a e]
        · refine qa_aload_n hΓ dX6_races_45 rfl ?_
          refine qa_get hΓ dX6_races_46 fk_X6_7 hM.lt hM.o rfl ?_
          refine qa_iload_n hΓ dX6_races_49 rfl ?_
          refine qa_aload_n hΓ dX6_races_50 rfl ?_
          refine qa_get hΓ dX6_races_51 fk_X6_19 hM.lt hM.o rfl ?_
          refine qa_iload_n hΓ dX6_races_54 rfl ?_
          refine qz_iald hΓ dX6_races_55 (hM.lti (i := 4) (by decide)) hM.a3 (by omega) (by decide) ?_
          refine qM_ast hΓ (N := 203) 0 (by decide) rfl rfl dX6_races_56 hM (by omega) (fun w hM hF => ?_)
          have hF0 := hF0.tr hF
          refine qz_iinc hΓ dX6_races_57 ii_1 rfl (by decide) ?_
          refine qa_goto (tgt := 38) hΓ dX6_races_60 (by decide) ?_
          refine ih (i + 1) w _ (by omega) (by omega) hM hF0 (fun a e => ?_) (fun j h => ?_)
          · rw [bset_ne _ _ _ e, he a e]
          · rw [bset_eq]
            by_cases e : j = i
            · subst e
              rw [upN_self, he 3 (by decide)]
            · rw [upN_ne _ _ _ e]
              exact hj j (by omega)
    exact loop 204 0 w0 M0 (by omega) (by omega) hM0 Fr.rf (fun _ _ => rfl) (fun j h => absurd h (by omega))
  have cp3 : ∀ (w0 : Nat → AC) (M0 : Bk) (u1 u2 : AV), MdAt n w0 k M0 → (∀ (w1 : Nat → AC) (c : AV), MdAt n w1 k (rset M0 0 (M0 3)) → Fr k 6 w0 w1 → Γ 99 [aR k, u1, u2, c] [] (0, 0) n w1) → Γ 74 [aR k, u1, u2, aZ 0] [] (0, 0) n w0 := by
    intro w0 M0 u1 u2 hM0 K
    have loop : ∀ (m i : Nat) (w1 : Nat → AC) (M1 : Bk), i ≤ 203 → 203 < i + m → MdAt n w1 k M1 → Fr k 6 w0 w1 → (∀ a, a ≠ 0 → M1 a = M0 a) → (∀ j, j < i → M1 0 j = M0 3 j) → Γ 74 [aR k, u1, u2, aZ i] [] (0, 0) n w1 := by
      intro m
      induction m with
      | zero => intro i w1 M1 h1 h2; exact absurd h2 (by omega)
      | succ m ih =>
        intro i w M1 hi hm hM hF0 he hj
        refine qa_iload_n hΓ dX6_races_74 rfl ?_
        refine qa_sipush (v := nI 203) hΓ dX6_races_75 sp_203 ?_
        refine qz_icmp_ge (tgt := 99) hΓ dX6_races_78 (by decide) (by omega) (by omega) (fun h_78 => ?_) (fun h_78 => ?_)
        · refine K w _ (hM.of_rows (fun a ha => ?_)) hF0
          by_cases e : a = 0
          · subst e
            rw [rset_eq]
            funext j
            rcases Nat.lt_or_ge j 203 with q | q
            · exact (hj j (by omega)).symm
            · rw [hM.nf (by decide) q, hM0.nf (by decide) q]
          · rw [rset_ne _ _ e, he a e]
        · refine qa_aload_n hΓ dX6_races_81 rfl ?_
          refine qa_get hΓ dX6_races_82 fk_X6_7 hM.lt hM.o rfl ?_
          refine qa_iload_n hΓ dX6_races_85 rfl ?_
          refine qa_aload_n hΓ dX6_races_86 rfl ?_
          refine qa_get hΓ dX6_races_87 fk_X6_19 hM.lt hM.o rfl ?_
          refine qa_iload_n hΓ dX6_races_90 rfl ?_
          refine qz_iald hΓ dX6_races_91 (hM.lti (i := 4) (by decide)) hM.a3 (by omega) (by decide) ?_
          refine qM_ast hΓ (N := 203) 0 (by decide) rfl rfl dX6_races_92 hM (by omega) (fun w hM hF => ?_)
          have hF0 := hF0.tr hF
          refine qz_iinc hΓ dX6_races_93 ii_1 rfl (by decide) ?_
          refine qa_goto (tgt := 74) hΓ dX6_races_96 (by decide) ?_
          refine ih (i + 1) w _ (by omega) (by omega) hM hF0 (fun a e => ?_) (fun j h => ?_)
          · rw [bset_ne _ _ _ e, he a e]
          · rw [bset_eq]
            by_cases e : j = i
            · subst e
              rw [upN_self, he 3 (by decide)]
            · rw [upN_ne _ _ _ e]
              exact hj j (by omega)
    exact loop 204 0 w0 M0 (by omega) (by omega) hM0 Fr.rf (fun _ _ => rfl) (fun j h => absurd h (by omega))
  refine qa_iconst (v := nI 0) hΓ dX6_races_0 ic_0 ?_
  refine qa_istore_n hΓ dX6_races_1 (by decide) ?_
  refine cp1 w M hM (fun w1 c hM hF => ?_)
  have hF0 := hF
  have hR0 : (rset M 3 (M 0)) 0 = M 0 := rset_ne _ _ (by decide)
  refine qa_aload_n hΓ dX6_races_27 rfl ?_
  refine qa_iconst (v := nI 0) hΓ dX6_races_28 ic_0 ?_
  refine qa_sipush (v := nI 200) hΓ dX6_races_29 sp_200 ?_
  refine qc_V1q hΓ dX6_races_32 lk_X6_138 vw_X6_ends (by omega) (c_X6_ends l (d - 1) (by omega) hM (by rw [hR0]; exact hW) false _ (by decide) (by omega)) rfl hM.lt hM.o rfl rfl (Nat.le_of_ble_eq_true rfl) (fun w hq => ?_)
  obtain ⟨M1, hM, hU, hF⟩ := hq
  have hF0 := hF0.tr hF
  refine qa_istore_n hΓ dX6_races_35 (by decide) ?_
  refine qa_iconst (v := nI 0) hΓ dX6_races_36 ic_0 ?_
  refine qa_istore_n hΓ dX6_races_37 (by decide) ?_
  refine cp2 _ M1 _ hM (fun w1 c hM hF => ?_)
  have hF0 := hF0.tr hF
  have hR1 : (rset M1 0 (M1 3)) 0 = M 0 := by rw [rset_eq, hU.2.1 3 (by decide) (by decide), rset_eq]
  refine qa_aload_n hΓ dX6_races_63 rfl ?_
  refine qa_iconst (v := nI 1) hΓ dX6_races_64 ic_1 ?_
  refine qa_sipush (v := nI 200) hΓ dX6_races_65 sp_200 ?_
  refine qc_V1q hΓ dX6_races_68 lk_X6_138 vw_X6_ends (by omega) (c_X6_ends l (d - 1) (by omega) hM (by rw [hR1]; exact hW) true _ (by decide) (by omega)) rfl hM.lt hM.o rfl rfl (Nat.le_of_ble_eq_true rfl) (fun w hq => ?_)
  obtain ⟨M2, hM, hU2, hF⟩ := hq
  have hF0 := hF0.tr hF
  refine qa_istore_n hΓ dX6_races_71 (by decide) ?_
  refine qa_iconst (v := nI 0) hΓ dX6_races_72 ic_0 ?_
  refine qa_istore_n hΓ dX6_races_73 (by decide) ?_
  refine cp3 _ M2 _ _ hM (fun w1 c hM hF => ?_)
  have hF0 := hF0.tr hF
  have hfin : Mup (rset M 3 (M 0)) (M 0) (rset M2 0 (M2 3)) := by
    have e3 : M2 3 = M 0 := by rw [hU2.2.1 3 (by decide) (by decide), rset_ne _ _ (by decide), hU.2.1 3 (by decide) (by decide), rset_eq]
    refine ⟨by rw [rset_eq, e3], fun a h1 h2 => ?_, ?_, ?_, ?_⟩
    · rw [rset_ne _ _ (by omega), hU2.2.1 a h1 h2, rset_ne _ _ (by omega), hU.2.1 a h1 h2]
    · rw [rset_ne _ _ (by decide), hU2.2.2.1, rset_ne _ _ (by decide), hU.2.2.1]
    · rw [rset_ne _ _ (by decide), hU2.2.2.2.1, rset_ne _ _ (by decide), hU.2.2.2.1]
    · rw [rset_ne _ _ (by decide), hU2.2.2.2.2, rset_ne _ _ (by decide), hU.2.2.2.2]
  rw [hR0, hR1]
  have hn1 : ndE (M 0) false 200 < 4294967296 := Nat.lt_of_le_of_lt (ndE_le hW _ _) (by decide)
  have hn2 : ndE (M 0) true 200 < 4294967296 := Nat.lt_of_le_of_lt (ndE_le hW _ _) (by decide)
  refine qa_iload_n hΓ dX6_races_99 rfl ?_
  refine qa_iload_n hΓ dX6_races_100 rfl ?_
  refine qz_icmp_ne (tgt := 108) hΓ dX6_races_101 (by decide) (by omega) (by omega) (fun h_101 => ?_) (fun h_101 => ?_)
  · refine qa_iconst (v := nI 1) hΓ dX6_races_108 ic_1 ?_
    exact qr_i hR dX6_races_109 ⟨by rw [show (if ndE (M 0) false 200 = ndE (M 0) true 200 then 0 else 1) = 1 from if_neg h_101], _, hM, hfin, hF0⟩
  · refine qa_iconst (v := nI 0) hΓ dX6_races_104 ic_0 ?_
    refine qa_goto (tgt := 109) hΓ dX6_races_105 (by decide) ?_
    exact qr_i hR dX6_races_109 ⟨by rw [show (if ndE (M 0) false 200 = ndE (M 0) true 200 then 0 else 1) = 0 from if_pos h_101], _, hM, hfin, hF0⟩

