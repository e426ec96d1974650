/-! The law's loop -/

set_option maxRecDepth 100000 in
set_option maxHeartbeats 4000000 in
theorem law_loop {Γ : Gm} {l : Launch} {yn yd : String} {L : Nat} {xs : Nat → Int32} (hL : L ≤ 260) (hO : OkL Γ l ⟨RL, yn, yd⟩ cL_law 10 9 600000 7302250 70 L xs) {cs : Nat × Nat} (hcs : cs.1 ≤ 600000 ∧ cs.2 ≤ 7302250) (hend : ∀ (pc : Nat) (Ls : List AV) (w : Nat → AC), decode cL_law pc = .ok (.ireturn, 1) → Γ pc Ls [aI 1] cs 70 w) :
    ∀ (m e : Nat) (M : Bk) (w : Nat → AC) (v4 v5 v7 v8 v9 : AV), e + m = 44 → CW M (8200 * e) 70 w → JV M → Γ 12 [aR KS, aR 0, aZ (M 5 0), aZ e, v4, v5, none, v7, v8, v9] [] cs 70 w := by
  have hΓ := hO.ok
  intro m
  induction m with
  | zero =>
    intro e M w v4 v5 v7 v8 v9 he hC hJ
    have hB : 8200 * e < 800000000 := by omega
    obtain ⟨-, -, h6, -⟩ := hC.w
    refine qa_iload_n hΓ dL_law_12 rfl ?_
    refine qa_bipush (v := nI 44) hΓ dL_law_13 bp_44 ?_
    refine qz_icmp_ge (tgt := 316) hΓ dL_law_15 (by decide) (by omega) (by omega) (fun _ => ?_) (fun h => absurd h (by omega))
    by_cases h0 : M 5 0 = 0
    · refine qa_aload_n hΓ dL_law_316 rfl ?_
      refine qy_undo hΓ dL_law_317 lk_L_89 hC hB (by omega) (Nat.le_of_ble_eq_true rfl) hcs (fun w hC => ?_)
      rw [if_pos h0]
      refine qa_iload_n hΓ dL_law_320 rfl ?_
      refine qz_if_ne (tgt := 329) hΓ dL_law_321 (by decide) (by omega) (fun h => absurd h0 h) (fun _ => ?_)
      refine qa_bipush (v := -2) hΓ dL_law_324 bp_m2 ?_
      refine qa_goto (tgt := 332) hΓ dL_law_326 (by decide) ?_
      refine qa_icmp_ne (tgt := 339) hΓ dL_law_332 (by decide) (fun h => absurd rfl h) (fun _ => ?_)
      refine qa_iconst (v := 1) hΓ dL_law_335 (by decide) ?_
      refine qa_goto (tgt := 340) hΓ dL_law_336 (by decide) ?_
      exact hend _ _ _ dL_law_340
    · refine qa_aload_n hΓ dL_law_316 rfl ?_
      refine qy_undo hΓ dL_law_317 lk_L_89 hC hB (by omega) (Nat.le_of_ble_eq_true rfl) hcs (fun w hC => ?_)
      rw [if_neg h0]
      refine qa_iload_n hΓ dL_law_320 rfl ?_
      refine qz_if_ne (tgt := 329) hΓ dL_law_321 (by decide) (by omega) (fun _ => ?_) (fun h => absurd h h0)
      refine qa_iload_n hΓ dL_law_329 rfl ?_
      refine qa_iconst (v := nI 1) hΓ dL_law_330 ic_1 ?_
      refine qz_isub hΓ dL_law_331 (by omega) ?_
      refine qa_icmp_ne (tgt := 339) hΓ dL_law_332 (by decide) (fun h => absurd rfl h) (fun _ => ?_)
      refine qa_iconst (v := 1) hΓ dL_law_335 (by decide) ?_
      refine qa_goto (tgt := 340) hΓ dL_law_336 (by decide) ?_
      exact hend _ _ _ dL_law_340
  | succ m ih =>
    intro e M w v4 v5 v7 v8 v9 he hC hJ
    have hB : 8200 * e < 800000000 := by omega
    obtain ⟨hW, -, h6, -⟩ := hC.w
    have next : ∀ (M : Bk) (w : Nat → AC) (v4 v5 v7 v8 v9 : AV), CW M (8200 * e + 8200) 70 w → JV M → Γ 310 [aR KS, aR 0, aZ (M 5 0), aZ e, v4, v5, none, v7, v8, v9] [] cs 70 w := by
      intro M w v4 v5 v7 v8 v9 hC hJ
      refine qz_iinc hΓ dL_law_310 ii_1 rfl (by decide) ?_
      refine qa_goto (tgt := 12) hΓ dL_law_313 (by decide) ?_
      exact ih (e + 1) M w v4 v5 v7 v8 v9 (by omega) (by rw [show 8200 * (e + 1) = 8200 * e + 8200 by omega]; exact hC) hJ
    have checks := law_checks hO hcs (e := e) (B := 8200 * e + 8200) (by omega) next
    refine qa_iload_n hΓ dL_law_12 rfl ?_
    refine qa_bipush (v := nI 44) hΓ dL_law_13 bp_44 ?_
    refine qz_icmp_ge (tgt := 316) hΓ dL_law_15 (by decide) (by omega) (by omega) (fun h => absurd h (by omega)) (fun _ => ?_)
    refine qa_aload_n hΓ dL_law_18 rfl ?_
    refine qa_iload_n hΓ dL_law_19 rfl ?_
    refine qX_callS hO dL_law_20 lk_L_77 vw_L_cell (c_L_cell l 8 hL (by omega)) (by omega) rfl rfl (Nat.le_of_ble_eq_true rfl) hcs (fun r w1 h => ?_)
    obtain ⟨⟨v, rfl⟩, ew⟩ := h
    subst ew
    refine qa_istore hΓ dL_law_23 (by decide) ?_
    refine qa_aload_n hΓ dL_law_25 rfl ?_
    refine qy_tale hΓ dL_law_26 lk_L_81 hC hB (by omega) (Nat.le_of_ble_eq_true rfl) hcs (fun w hC => ?_)
    refine qa_lstore hΓ dL_law_29 (by decide) (Nat.le_of_ble_eq_true rfl) ?_
    refine qa_aload_n hΓ dL_law_31 rfl ?_
    refine qa_iload hΓ dL_law_32 rfl ?_
    refine qy_does hΓ dL_law_34 lk_L_85 hC hB hJ.1 (by omega) (Nat.le_of_ble_eq_true rfl) hcs v (fun r M' w2 hD hC2 => ?_)
    have hB : 8200 * e + 4100 < 800000000 := by omega
    refine qa_istore hΓ dL_law_37 (by decide) ?_
    refine qa_iload hΓ dL_law_39 rfl ?_
    rcases hD with ⟨hr, rfl⟩ | ⟨hr, s', rfl, hs'⟩
    · -- refused: nothing has changed
      have hr0 : ¬ 0 ≤ r := Int32.not_le.mpr hr
      refine qa_if_ge (tgt := 56) hΓ dL_law_41 (by decide) (fun h => absurd h hr0) (fun _ => ?_)
      refine qa_aload_n hΓ dL_law_44 rfl ?_
      refine qy_tale hΓ dL_law_45 lk_L_81 hC2 hB (by omega) (Nat.le_of_ble_eq_true rfl) hcs (fun w hC => ?_)
      refine qa_lload hΓ dL_law_48 rfl ?_
      refine qa_lcmp hΓ dL_law_50 ?_
      rw [cmp_rf]
      refine qa_if_eq (tgt := 56) hΓ dL_law_51 (by decide) (fun _ => ?_) (fun h => absurd rfl h)
      refine qa_iload hΓ dL_law_56 rfl ?_
      refine qa_if_ge (tgt := 65) hΓ dL_law_58 (by decide) (fun h => absurd h hr0) (fun _ => ?_)
      refine qa_iload_n hΓ dL_law_61 rfl ?_
      refine qa_goto (tgt := 79) hΓ dL_law_62 (by decide) ?_
      refine qa_istore_n hΓ dL_law_79 (by decide) ?_
      refine qa_iload hΓ dL_law_80 rfl ?_
      refine qa_if_lt (tgt := 120) hΓ dL_law_82 (by decide) (fun _ => ?_) (fun h => absurd hr h)
      exact checks M' w _ _ r _ _ (hC.up (by omega)) hJ
    · -- done: it may be undone again
      have hr0 : ¬ r < 0 := Int32.not_lt.mpr hr
      have hJ2 : JV (opM M s') := hJ.op h6 hs'
      have hp5 : opM M s' 5 0 = p5 M + 1 := rfl
      have at80 : ∀ (w : Nat → AC), CW (opM M s') (8200 * e + 4100) 70 w → Γ 80 [aR KS, aR 0, aZ (opM M s' 5 0), aZ e, aI v, aL (tl M), none, aI r, v8, v9] [] cs 70 w := by
        intro w hC
        refine qa_iload hΓ dL_law_80 rfl ?_
        refine qa_if_lt (tgt := 120) hΓ dL_law_82 (by decide) (fun h => absurd h hr0) (fun _ => ?_)
        refine qa_iload hΓ dL_law_85 rfl ?_
        refine qa_bipush (v := nI 26) hΓ dL_law_87 bp_26 ?_
        refine qa_ishr hΓ dL_law_89 ?_
        refine qa_iconst (v := nI 3) hΓ dL_law_90 ic_3 ?_
        refine qa_iand hΓ dL_law_91 ?_
        refine qa_if_ne (tgt := 120) hΓ dL_law_92 (by decide) (fun _ => ?_) (fun _ => ?_)
        · exact checks (opM M s') w _ _ r _ _ (hC.up (by omega)) hJ2
        · refine qa_aload_n hΓ dL_law_95 rfl ?_
          refine qy_undo hΓ dL_law_96 lk_L_89 hC hB (by omega) (Nat.le_of_ble_eq_true rfl) hcs (fun w hC => ?_)
          rw [if_neg (by rw [hp5]; omega)]
          refine qa_iload_n hΓ dL_law_99 rfl ?_
          refine qa_iconst (v := nI 1) hΓ dL_law_100 ic_1 ?_
          refine qz_isub hΓ dL_law_101 (by rw [hp5]; omega) ?_
          refine qa_icmp_ne (tgt := 115) hΓ dL_law_102 (by decide) (fun h => absurd rfl h) (fun _ => ?_)
          refine qa_aload_n hΓ dL_law_105 rfl ?_
          refine qy_tale hΓ dL_law_106 lk_L_81 hC (by omega) (by omega) (Nat.le_of_ble_eq_true rfl) hcs (fun w hC => ?_)
          have hpos : 0 < opM M s' 5 0 := by rw [hp5]; omega
          have et : tl (unM (opM M s')) = tl M := tl_cg (by rw [un_0 hpos, hp5, Nat.add_sub_cancel]; exact opM_p2 _ _ hJ.1.1) (un_51 hpos)
          rw [et]
          refine qa_lload hΓ dL_law_109 rfl ?_
          refine qa_lcmp hΓ dL_law_111 ?_
          rw [cmp_rf]
          refine qa_if_eq (tgt := 117) hΓ dL_law_112 (by decide) (fun _ => ?_) (fun h => absurd rfl h)
          refine qa_iinc hΓ dL_law_117 rfl (dec1 hpos) (by decide) ?_
          have h9 := checks (unM (opM M s')) w (aI v) (aL (tl M)) r v8 v9 (hC.up (by omega)) (hJ2.un hpos)
          rw [un_50 hpos] at h9
          exact h9
      refine qa_if_ge (tgt := 56) hΓ dL_law_41 (by decide) (fun _ => ?_) (fun h => absurd hr h)
      refine qa_iload hΓ dL_law_56 rfl ?_
      refine qa_if_ge (tgt := 65) hΓ dL_law_58 (by decide) (fun _ => ?_) (fun h => absurd hr h)
      refine qa_iload_n hΓ dL_law_65 rfl ?_
      refine qa_bipush (v := nI 6) hΓ dL_law_66 bp_6 ?_
      refine qz_icmp_ge (tgt := 77) hΓ dL_law_68 (by decide) (by omega) (by decide) (fun h => ?_) (fun h => ?_)
      · have e6 : M 5 0 = 6 := by omega
        have ep : opM M s' 5 0 = 6 := by rw [hp5]; unfold p5; rw [if_pos e6]
        refine qa_bipush (v := nI 6) hΓ dL_law_77 bp_6 ?_
        refine qa_istore_n hΓ dL_law_79 (by decide) ?_
        have h9 := at80 w2 hC2
        rw [ep] at h9
        exact h9
      · have ep : opM M s' 5 0 = M 5 0 + 1 := by rw [hp5]; unfold p5; rw [if_neg (by omega)]
        refine qa_iload_n hΓ dL_law_71 rfl ?_
        refine qa_iconst (v := nI 1) hΓ dL_law_72 ic_1 ?_
        refine qz_iadd hΓ dL_law_73 ?_
        refine qa_goto (tgt := 79) hΓ dL_law_74 (by decide) ?_
        refine qa_istore_n hΓ dL_law_79 (by decide) ?_
        have h9 := at80 w2 hC2
        rw [ep] at h9
        exact h9
