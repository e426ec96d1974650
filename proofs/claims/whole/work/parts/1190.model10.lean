/-! The model: conditions and branches -/
theorem c_X6_ofUE (l : Launch) (d : Nat) {n k : Nat} {w : Nat → AC} {M0 M : Bk} {s : Nat → Nat} (hM : MdAt n w k M) (hU : Mup M0 s M) (r x : Nat) (hr : r < 8) (hx : x < 25) {y : Nat} (e : vv s r x = y) : Sq l yX6_of cX6_of 3 (some .int) d [aR k, aZ r, aZ x] n w (Rs (some (aZ y)) w) := by
  subst e
  exact c_X6_ofU l d hM hU r x hr hx
theorem shS_x (t : Nat → Nat) (r lo hi x : Nat) (h : x < lo ∨ hi ≤ x) (hx : x < 25) : vv (shS t r lo hi) r x = vv t r x := by
  unfold vv shS
  rw [if_neg (by omega)]
theorem shS_step (t : Nat → Nat) (r lo kk : Nat) (h : lo ≤ kk) : upN (shS t r lo kk) (ix r kk) (vv (shS t r lo kk) r (kk + 2)) = shS t r lo (kk + 1) := by
  funext j
  unfold upN vv
  by_cases q : j = ix r kk
  · rw [if_pos q]
    unfold shS
    rw [if_neg (by unfold ix at q; omega), if_pos (by unfold ix at q; omega)]
    congr 1
    unfold ix at q
    omega
  · rw [if_neg q]
    unfold shS
    unfold ix at q
    by_cases q2 : 3 + 25 * r + lo ≤ j ∧ j < 3 + 25 * r + kk
    · rw [if_pos q2, if_pos (by omega)]
    · rw [if_neg q2, if_neg (by omega)]
set_option maxRecDepth 100000 in
set_option maxHeartbeats 4000000 in
theorem c_X6_setCondition (l : Launch) (d : Nat) (hd : 3 ≤ d) {n k : Nat} {w : Nat → AC} {M : Bk} (hM : MdAt n w k M) {B : Nat} (hW : Wt (M 0) B) (hB : B < 900000000) (hp : M 5 0 ≤ 6) (rl br su hw : Int32) : Sq l yX6_setCondition cX6_setCondition 6 (some .int) d [aR k, aI rl, aI br, aI su, aI hw] n w (QM (spSC M rl br su hw) n k w) := by
  refine Sp.of (plainFor_of_name (by decide)) (Nat.le_of_ble_eq_true rfl) (fun Γ hΓ hR => ?_)
  show Γ 0 [aR k, aI rl, aI br, aI su, aI hw, none] [] (0, 0) n w
  refine qa_aload_n hΓ dX6_setCondition_0 rfl ?_
  refine qa_iload_n hΓ dX6_setCondition_1 rfl ?_
  refine qc_V1 hΓ dX6_setCondition_2 lk_X6_82 vw_X6_isRelay (by omega) (c_X6_isRelay l (d - 1) (by omega) hM _) rfl hM.lt hM.o rfl rfl (Nat.le_of_ble_eq_true rfl) ?_
  refine qb_if_eq (tgt := 41) hΓ dX6_setCondition_5 (by decide) (fun h_5 => ?_) (fun h_5 => ?_)
  · refine qa_iconst (v := (-1)) hΓ dX6_setCondition_41 ic_m1 ?_
    exact qr_i hR dX6_setCondition_42 ⟨-1, M, rfl, hM, Fr.rf, by unfold spSC; rw [if_neg (fun q => of_decide_eq_false h_5 q.1)]; exact ⟨rfl, Sm.rf M⟩⟩
  · obtain ⟨r, hr, rfl⟩ := isR_of (by have := hW.2.1; omega) (of_decide_eq_true h_5)
    have h8 := hW.2.1
    have hm6 : vv (M 0) r 12 ≤ 6 := by have := hW.2.2.2 r hr 12 (by decide); simpa [bdF] using this
    refine qa_iload_n hΓ dX6_setCondition_8 rfl ?_
    refine qa_iconst (v := nI 0) hΓ dX6_setCondition_9 ic_0 ?_
    refine qa_aload_n hΓ dX6_setCondition_10 rfl ?_
    refine qa_iload_n hΓ dX6_setCondition_11 rfl ?_
    refine qa_bipush (v := nI 12) hΓ dX6_setCondition_12 bp_12 ?_
    refine qc_V1 hΓ dX6_setCondition_14 lk_X6_37 vw_X6_of (by omega) (c_X6_of l (d - 1) hM r _ (by omega) (by decide)) rfl hM.lt hM.o rfl rfl (Nat.le_of_ble_eq_true rfl) ?_
    refine qc_S1 hΓ dX6_setCondition_17 lk_X6_33 vw_X6_in (by omega) (c_X6_in l (d - 1) _ _ _) rfl rfl (Nat.le_of_ble_eq_true rfl) ?_
    refine qb_if_eq (tgt := 41) hΓ dX6_setCondition_20 (by decide) (fun h_20 => ?_) (fun h_20 => ?_)
    · refine qa_iconst (v := (-1)) hΓ dX6_setCondition_41 ic_m1 ?_
      exact qr_i hR dX6_setCondition_42 ⟨-1, M, rfl, hM, Fr.rf, by unfold spSC; rw [tn_nI (by omega), if_neg (fun q => by first | exact of_decide_eq_false h_20 q.2.1 | exact of_decide_eq_false h_28 q.2.2.1 | exact of_decide_eq_false h_38 q.2.2.2)]; exact ⟨rfl, Sm.rf M⟩⟩
    · refine qa_aload_n hΓ dX6_setCondition_23 rfl ?_
      refine qa_iload_n hΓ dX6_setCondition_24 rfl ?_
      refine qc_V1 hΓ dX6_setCondition_25 lk_X6_85 vw_X6_isSubject (by omega) (c_X6_isSubject l (d - 1) (by omega) hM _ h8) rfl hM.lt hM.o rfl rfl (Nat.le_of_ble_eq_true rfl) ?_
      refine qb_if_eq (tgt := 41) hΓ dX6_setCondition_28 (by decide) (fun h_28 => ?_) (fun h_28 => ?_)
      · refine qa_iconst (v := (-1)) hΓ dX6_setCondition_41 ic_m1 ?_
        exact qr_i hR dX6_setCondition_42 ⟨-1, M, rfl, hM, Fr.rf, by unfold spSC; rw [tn_nI (by omega), if_neg (fun q => by first | exact of_decide_eq_false h_20 q.2.1 | exact of_decide_eq_false h_28 q.2.2.1 | exact of_decide_eq_false h_38 q.2.2.2)]; exact ⟨rfl, Sm.rf M⟩⟩
      · refine qa_iload hΓ dX6_setCondition_31 rfl ?_
        refine qa_iconst (v := nI 0) hΓ dX6_setCondition_33 ic_0 ?_
        refine qa_iconst (v := nI 2) hΓ dX6_setCondition_34 ic_2 ?_
        refine qc_S1 hΓ dX6_setCondition_35 lk_X6_33 vw_X6_in (by omega) (c_X6_in l (d - 1) _ _ _) rfl rfl (Nat.le_of_ble_eq_true rfl) ?_
        refine qb_if_ne (tgt := 43) hΓ dX6_setCondition_38 (by decide) (fun h_38 => ?_) (fun h_38 => ?_)
        · have hC0 := And.intro (of_decide_eq_true h_5) (And.intro (of_decide_eq_true h_20) (And.intro (of_decide_eq_true h_28) (of_decide_eq_true h_38)))
          obtain ⟨b, hb1, hb2, rfl⟩ := rng (by omega) hC0.2.1 (by decide)
          obtain ⟨x, hx1, hx2, rfl⟩ := rng (by omega) hC0.2.2.1 (by decide)
          obtain ⟨how, hh1, hh2, rfl⟩ := rng (by decide) hC0.2.2.2 (by decide)
          refine qa_iload_n hΓ dX6_setCondition_43 rfl ?_
          refine qa_bipush (v := nI 6) hΓ dX6_setCondition_44 bp_6 ?_
          refine qz_icmp_ne (tgt := 52) hΓ dX6_setCondition_46 (by decide) (by omega) (by omega) (fun h_46 => ?_) (fun h_46 => ?_)
          · refine qa_aload_n hΓ dX6_setCondition_52 rfl ?_
            refine qc_V0q hΓ dX6_setCondition_53 lk_X6_79 vw_X6_notes (by omega) (c_X6_notes l (d - 1) hM hp) rfl hM.lt hM.o rfl rfl (Nat.le_of_ble_eq_true rfl) (fun w hq => ?_)
            obtain ⟨M1, hM, hN, hF0⟩ := hq
            have hU := hN.mup
            obtain ⟨M0, hM0⟩ : ∃ X, X = M1 := ⟨_, rfl⟩
            refine qa_iload_n hΓ dX6_setCondition_56 rfl ?_
            refine qa_aload_n hΓ dX6_setCondition_57 rfl ?_
            refine qa_iload_n hΓ dX6_setCondition_58 rfl ?_
            refine qa_bipush (v := nI 12) hΓ dX6_setCondition_59 bp_12 ?_
            refine qc_V1 hΓ dX6_setCondition_61 lk_X6_37 vw_X6_of (by omega) (c_X6_ofU l (d - 1) hM hU _ _ (by omega) (by omega)) rfl hM.lt hM.o rfl rfl (Nat.le_of_ble_eq_true rfl) ?_
            refine qz_icmp_ne (tgt := 72) hΓ dX6_setCondition_64 (by decide) (by omega) (by omega) (fun h_64 => ?_) (fun h_64 => ?_)
            · have hU : Mup M0 (scS (M 0) r b) M1 := by unfold scS; rw [if_neg h_64]; exact hM0 ▸ hU
              have hm9 : b < vv (M 0) r 12 := by omega
              have e12 : vv (M1 0) r 12 = vv (M 0) r 12 := by rw [hU.1]; unfold scS; rw [if_neg h_64]
              have hn1 : M1 0 1 = M 0 1 := by rw [hU.1]; exact scS_hd _ _ _ (by decide)
              have hWs : Wt (scS (M 0) r b) B := hW.scS (by omega)
              have hr1 : r < scS (M 0) r b 1 := by rw [scS_hd _ _ _ (by decide)]; exact hr
              have hW2 : Wt (cnS (scS (M 0) r b) r b x how) B := hWs.cnS hr1 (by omega) (by omega)
              refine qa_aload_n hΓ dX6_setCondition_72 rfl ?_
              refine qa_iload_n hΓ dX6_setCondition_73 rfl ?_
              refine qa_iload_n hΓ dX6_setCondition_74 rfl ?_
              refine qa_iload_n hΓ dX6_setCondition_75 rfl ?_
              refine qc_V1 hΓ dX6_setCondition_76 lk_X6_91 vw_X6_how (by omega) (c_X6_how l (d - 1) (by omega) hM r b x (by omega) (by omega) (by omega) (fun y hy => by have := hWs.b hr1 hy; rw [hU.1]; omega)) rfl hM.lt hM.o rfl rfl (Nat.le_of_ble_eq_true rfl) ?_
              rw [hU.1]
              refine qa_istore hΓ dX6_setCondition_79 (by decide) ?_
              refine qa_aload_n hΓ dX6_setCondition_81 rfl ?_
              refine qa_iload_n hΓ dX6_setCondition_82 rfl ?_
              refine qa_iload_n hΓ dX6_setCondition_83 rfl ?_
              refine qa_iload_n hΓ dX6_setCondition_84 rfl ?_
              refine qa_iload hΓ dX6_setCondition_85 rfl ?_
              refine qc_V0q hΓ dX6_setCondition_87 lk_X6_95 vw_X6_conditions (by omega) (c_X6_conditions l (d - 1) (by omega) hM (by rw [hU.1]; exact hWs) (by omega) r b x how (by omega) (by omega) (by omega) (by omega)) rfl hM.lt hM.o rfl rfl (Nat.le_of_ble_eq_true rfl) (fun w hq => ?_)
              obtain ⟨M2, hM, hU2, hF⟩ := hq
              have hF0 := hF0.tr hF
              rw [hU.1] at hU2
              have hU := hU.tr hU2
              refine qa_aload_n hΓ dX6_setCondition_90 rfl ?_
              refine qa_dup hΓ dX6_setCondition_91 ?_
              refine qa_get hΓ dX6_setCondition_92 fk_X6_65 hM.lt hM.o rfl ?_
              refine qa_aload_n hΓ dX6_setCondition_95 rfl ?_
              refine qc_V1q hΓ dX6_setCondition_96 lk_X6_68 vw_X6_looks (by omega) (c_X6_looks l (d - 1) (by omega) hM (by rw [hU.1]; exact hW2) (by omega)) rfl hM.lt hM.o rfl rfl (Nat.le_of_ble_eq_true rfl) (fun w hq => ?_)
              obtain ⟨M2, hM, hU2, hF⟩ := hq
              have hF0 := hF0.tr hF
              have hUo := hU
              have hU := hU.lookE hU2
              refine qz_iadd hΓ dX6_setCondition_99 ?_
              refine qM_put hΓ 2 dX6_setCondition_100 fk_X6_65 (by decide) hM (fun w hM hF => ?_)
              have hF0 := hF0.tr hF
              obtain ⟨M1, hM, hU⟩ := Mup.chgE hM hU
              refine qa_iload hΓ dX6_setCondition_103 rfl ?_
              exact qr_i hR dX6_setCondition_105 ⟨_, M1, rfl, hM, hF0, by
                unfold spSC
                rw [tn_nI (by omega), if_pos hC0, tn_nI (by omega), if_neg h_46, tn_nI (by omega), tn_nI (by omega)]
                exact ⟨rfl, Op.of hN (hM0 ▸ hU)⟩⟩
            · refine qa_aload_n hΓ dX6_setCondition_67 rfl ?_
              refine qa_iload_n hΓ dX6_setCondition_68 rfl ?_
              refine qc_V0q hΓ dX6_setCondition_69 lk_X6_88 vw_X6_opensBranch (by omega) (c_X6_opensBranch l (d - 1) (by omega) hM r (by omega) (by rw [hU.1]; omega)) rfl hM.lt hM.o rfl rfl (Nat.le_of_ble_eq_true rfl) (fun w hq => ?_)
              obtain ⟨M2, hM, hU2, hF⟩ := hq
              have hF0 := hF0.tr hF
              rw [hU.1] at hU2
              have hU := hU.tr hU2
              have hU : Mup M0 (scS (M 0) r b) M2 := by unfold scS; rw [if_pos h_64]; exact hM0 ▸ hU
              obtain ⟨M1, hM1⟩ : ∃ X, X = M2 := ⟨_, rfl⟩
              rw [← hM1] at hM hU
              have hn1 : M1 0 1 = M 0 1 := by rw [hU.1]; exact scS_hd _ _ _ (by decide)
              have hWs : Wt (scS (M 0) r b) B := hW.scS (by omega)
              have hr1 : r < scS (M 0) r b 1 := by rw [scS_hd _ _ _ (by decide)]; exact hr
              have hW2 : Wt (cnS (scS (M 0) r b) r b x how) B := hWs.cnS hr1 (by omega) (by omega)
              refine qa_aload_n hΓ dX6_setCondition_72 rfl ?_
              refine qa_iload_n hΓ dX6_setCondition_73 rfl ?_
              refine qa_iload_n hΓ dX6_setCondition_74 rfl ?_
              refine qa_iload_n hΓ dX6_setCondition_75 rfl ?_
              refine qc_V1 hΓ dX6_setCondition_76 lk_X6_91 vw_X6_how (by omega) (c_X6_how l (d - 1) (by omega) hM r b x (by omega) (by omega) (by omega) (fun y hy => by have := hWs.b hr1 hy; rw [hU.1]; omega)) rfl hM.lt hM.o rfl rfl (Nat.le_of_ble_eq_true rfl) ?_
              rw [hU.1]
              refine qa_istore hΓ dX6_setCondition_79 (by decide) ?_
              refine qa_aload_n hΓ dX6_setCondition_81 rfl ?_
              refine qa_iload_n hΓ dX6_setCondition_82 rfl ?_
              refine qa_iload_n hΓ dX6_setCondition_83 rfl ?_
              refine qa_iload_n hΓ dX6_setCondition_84 rfl ?_
              refine qa_iload hΓ dX6_setCondition_85 rfl ?_
              refine qc_V0q hΓ dX6_setCondition_87 lk_X6_95 vw_X6_conditions (by omega) (c_X6_conditions l (d - 1) (by omega) hM (by rw [hU.1]; exact hWs) (by omega) r b x how (by omega) (by omega) (by omega) (by omega)) rfl hM.lt hM.o rfl rfl (Nat.le_of_ble_eq_true rfl) (fun w hq => ?_)
              obtain ⟨M2, hM, hU2, hF⟩ := hq
              have hF0 := hF0.tr hF
              rw [hU.1] at hU2
              have hU := hU.tr hU2
              refine qa_aload_n hΓ dX6_setCondition_90 rfl ?_
              refine qa_dup hΓ dX6_setCondition_91 ?_
              refine qa_get hΓ dX6_setCondition_92 fk_X6_65 hM.lt hM.o rfl ?_
              refine qa_aload_n hΓ dX6_setCondition_95 rfl ?_
              refine qc_V1q hΓ dX6_setCondition_96 lk_X6_68 vw_X6_looks (by omega) (c_X6_looks l (d - 1) (by omega) hM (by rw [hU.1]; exact hW2) (by omega)) rfl hM.lt hM.o rfl rfl (Nat.le_of_ble_eq_true rfl) (fun w hq => ?_)
              obtain ⟨M2, hM, hU2, hF⟩ := hq
              have hF0 := hF0.tr hF
              have hUo := hU
              have hU := hU.lookE hU2
              refine qz_iadd hΓ dX6_setCondition_99 ?_
              refine qM_put hΓ 2 dX6_setCondition_100 fk_X6_65 (by decide) hM (fun w hM hF => ?_)
              have hF0 := hF0.tr hF
              obtain ⟨M1, hM, hU⟩ := Mup.chgE hM hU
              refine qa_iload hΓ dX6_setCondition_103 rfl ?_
              exact qr_i hR dX6_setCondition_105 ⟨_, M1, rfl, hM, hF0, by
                unfold spSC
                rw [tn_nI (by omega), if_pos hC0, tn_nI (by omega), if_neg h_46, tn_nI (by omega), tn_nI (by omega)]
                exact ⟨rfl, Op.of hN (hM0 ▸ hU)⟩⟩
          · refine qa_bipush (v := (-3)) hΓ dX6_setCondition_49 bp_m3 ?_
            exact qr_i hR dX6_setCondition_51 ⟨-3, M, rfl, hM, Fr.rf, by
              unfold spSC
              rw [tn_nI (by omega), if_pos hC0, tn_nI (by omega), if_pos h_46]
              exact ⟨rfl, Sm.rf M⟩⟩
        · refine qa_iconst (v := (-1)) hΓ dX6_setCondition_41 ic_m1 ?_
          exact qr_i hR dX6_setCondition_42 ⟨-1, M, rfl, hM, Fr.rf, by unfold spSC; rw [tn_nI (by omega), if_neg (fun q => by first | exact of_decide_eq_false h_20 q.2.1 | exact of_decide_eq_false h_28 q.2.2.1 | exact of_decide_eq_false h_38 q.2.2.2)]; exact ⟨rfl, Sm.rf M⟩⟩

set_option maxRecDepth 100000 in
set_option maxHeartbeats 4000000 in
theorem c_X6_removeBranch (l : Launch) (d : Nat) (hd : 3 ≤ d) {n k : Nat} {w : Nat → AC} {M : Bk} (hM : MdAt n w k M) {B : Nat} (hW : Wt (M 0) B) (hB : B < 900000000) (hp : M 5 0 ≤ 6) (rl br : Int32) : Sq l yX6_removeBranch cX6_removeBranch 4 (some .int) d [aR k, aI rl, aI br] n w (QM (spRB M rl br) n k w) := by
  refine Sp.of (plainFor_of_name (by decide)) (Nat.le_of_ble_eq_true rfl) (fun Γ hΓ hR => ?_)
  show Γ 0 [aR k, aI rl, aI br, none] [] (0, 0) n w
  obtain ⟨W0, hW0⟩ : ∃ X, X = w := ⟨_, rfl⟩
  refine qa_aload_n hΓ dX6_removeBranch_0 rfl ?_
  refine qa_iload_n hΓ dX6_removeBranch_1 rfl ?_
  refine qc_V1 hΓ dX6_removeBranch_2 lk_X6_82 vw_X6_isRelay (by omega) (c_X6_isRelay l (d - 1) (by omega) hM _) rfl hM.lt hM.o rfl rfl (Nat.le_of_ble_eq_true rfl) ?_
  refine qb_if_eq (tgt := 25) hΓ dX6_removeBranch_5 (by decide) (fun h_5 => ?_) (fun h_5 => ?_)
  · refine qa_iconst (v := (-1)) hΓ dX6_removeBranch_25 ic_m1 ?_
    exact qr_i hR dX6_removeBranch_26 ⟨-1, M, rfl, hM, Fr.rf, by unfold spRB; rw [if_neg (fun q => of_decide_eq_false h_5 q.1)]; exact ⟨rfl, Sm.rf M⟩⟩
  · obtain ⟨r, hr, rfl⟩ := isR_of (by have := hW.2.1; omega) (of_decide_eq_true h_5)
    have h8 := hW.2.1
    have hm6 : vv (M 0) r 12 ≤ 6 := by have := hW.2.2.2 r hr 12 (by decide); simpa [bdF] using this
    refine qa_iload_n hΓ dX6_removeBranch_8 rfl ?_
    refine qa_iconst (v := nI 0) hΓ dX6_removeBranch_9 ic_0 ?_
    refine qa_aload_n hΓ dX6_removeBranch_10 rfl ?_
    refine qa_iload_n hΓ dX6_removeBranch_11 rfl ?_
    refine qa_bipush (v := nI 12) hΓ dX6_removeBranch_12 bp_12 ?_
    refine qc_V1 hΓ dX6_removeBranch_14 lk_X6_37 vw_X6_of (by omega) (c_X6_of l (d - 1) hM r _ (by omega) (by decide)) rfl hM.lt hM.o rfl rfl (Nat.le_of_ble_eq_true rfl) ?_
    refine qa_iconst (v := nI 1) hΓ dX6_removeBranch_17 ic_1 ?_
    refine qa_isub hΓ dX6_removeBranch_18 ?_
    refine qc_S1 hΓ dX6_removeBranch_19 lk_X6_33 vw_X6_in (by omega) (c_X6_in l (d - 1) _ _ _) rfl rfl (Nat.le_of_ble_eq_true rfl) ?_
    refine qb_if_ne (tgt := 27) hΓ dX6_removeBranch_22 (by decide) (fun h_22 => ?_) (fun h_22 => ?_)
    · have hC0 := And.intro (of_decide_eq_true h_5) (of_decide_eq_true h_22)
      obtain ⟨b, hb, rfl⟩ := isR_of (by omega) hC0.2
      refine qa_aload_n hΓ dX6_removeBranch_27 rfl ?_
      refine qc_V0q hΓ dX6_removeBranch_28 lk_X6_79 vw_X6_notes (by omega) (c_X6_notes l (d - 1) hM hp) rfl hM.lt hM.o rfl rfl (Nat.le_of_ble_eq_true rfl) (fun w hq => ?_)
      obtain ⟨M1, hM, hN, hF0⟩ := hq
      have hU := hN.mup
      obtain ⟨M0, hM0⟩ : ∃ X, X = M1 := ⟨_, rfl⟩
      have hU : Mup M0 (M 0) M1 := hM0 ▸ hU
      rw [← hW0] at hF0
      refine qa_aload_n hΓ dX6_removeBranch_31 rfl ?_
      refine qa_iload_n hΓ dX6_removeBranch_32 rfl ?_
      refine qa_bipush (v := nI 12) hΓ dX6_removeBranch_33 bp_12 ?_
      refine qa_aload_n hΓ dX6_removeBranch_35 rfl ?_
      refine qa_iload_n hΓ dX6_removeBranch_36 rfl ?_
      refine qa_bipush (v := nI 12) hΓ dX6_removeBranch_37 bp_12 ?_
      refine qc_V1 hΓ dX6_removeBranch_39 lk_X6_37 vw_X6_of (by omega) (c_X6_ofU l (d - 1) hM hU _ _ (by omega) (by omega)) rfl hM.lt hM.o rfl rfl (Nat.le_of_ble_eq_true rfl) ?_
      refine qa_iconst (v := nI 1) hΓ dX6_removeBranch_42 ic_1 ?_
      refine qz_isub hΓ dX6_removeBranch_43 (by omega) ?_
      refine qc_V0q hΓ dX6_removeBranch_44 lk_X6_49 vw_X6_puts (by omega) (c_X6_puts l (d - 1) hM _ _ _ (by omega) (by omega)) rfl hM.lt hM.o rfl rfl (Nat.le_of_ble_eq_true rfl) (fun w hq => ?_)
      obtain ⟨hM, hF⟩ := hq
      have hF0 := hF0.tr hF
      obtain ⟨M1, hM, hU⟩ := Mup.putE hM hU
      refine qa_bipush (v := nI 13) hΓ dX6_removeBranch_47 bp_13 ?_
      refine qa_iconst (v := nI 2) hΓ dX6_removeBranch_49 ic_2 ?_
      refine qa_iload_n hΓ dX6_removeBranch_50 rfl ?_
      refine qz_imul hΓ dX6_removeBranch_51 ?_
      refine qz_iadd hΓ dX6_removeBranch_52 ?_
      refine qa_istore_n hΓ dX6_removeBranch_53 (by decide) ?_
      have hMn : vv (upN (M 0) (ix r 12) (vv (M 0) r 12 - 1)) r 12 = vv (M 0) r 12 - 1 := vv_same _ _ _ _
      obtain ⟨w0, hw0⟩ : ∃ X, Fr k 6 X w ∧ ∀ w2, Fr k 6 X w2 → Fr k 6 W0 w2 := ⟨_, hF0, fun _ h => h⟩
      obtain ⟨hF0, hw0⟩ := hw0
      obtain ⟨t, ht⟩ : ∃ X, X = upN (M 0) (ix r 12) (vv (M 0) r 12 - 1) := ⟨_, rfl⟩
      rw [← ht] at hU hMn
      have loop : ∀ (m kk : Nat) (w1 : Nat → AC) (M2 : Bk), 13 + 2 * b ≤ kk → kk ≤ 13 + 2 * (vv (M 0) r 12 - 1) → 13 + 2 * (vv (M 0) r 12 - 1) < kk + m → MdAt n w1 k M2 → Mup M0 (shS t r (13 + 2 * b) kk) M2 → Fr k 6 w0 w1 → Γ 54 [aR k, aZ r, aZ b, aZ kk] [] (0, 0) n w1 := by
        intro m
        induction m with
        | zero => intro kk w1 M2 h0 h1 h2; exact absurd h2 (by omega)
        | succ m ih =>
          intro kk w M1 h0 hi hm hM hU hF0
          refine qa_iload_n hΓ dX6_removeBranch_54 rfl ?_
          refine qa_bipush (v := nI 13) hΓ dX6_removeBranch_55 bp_13 ?_
          refine qa_iconst (v := nI 2) hΓ dX6_removeBranch_57 ic_2 ?_
          refine qa_aload_n hΓ dX6_removeBranch_58 rfl ?_
          refine qa_iload_n hΓ dX6_removeBranch_59 rfl ?_
          refine qa_bipush (v := nI 12) hΓ dX6_removeBranch_60 bp_12 ?_
          refine qc_V1 hΓ dX6_removeBranch_62 lk_X6_37 vw_X6_of (by omega) (c_X6_ofUE l (d - 1) hM hU r 12 (by omega) (by decide) ((shS_x _ _ _ _ _ (by omega) (by decide)).trans hMn)) rfl hM.lt hM.o rfl rfl (Nat.le_of_ble_eq_true rfl) ?_
          refine qz_imul hΓ dX6_removeBranch_65 ?_
          refine qz_iadd hΓ dX6_removeBranch_66 ?_
          refine qz_icmp_ge (tgt := 90) hΓ dX6_removeBranch_67 (by decide) (by omega) (by omega) (fun h_67 => ?_) (fun h_67 => ?_)
          · have hk9 : kk = 13 + 2 * (vv (M 0) r 12 - 1) := by omega
            subst hk9
            have hrm : shS t r (13 + 2 * b) (13 + 2 * (vv (M 0) r 12 - 1)) = rmS (M 0) r b := by rw [ht]; rfl
            rw [hrm] at hU
            have hW1 : Wt (rmS (M 0) r b) B := hW.rmS hm6
            refine qa_aload_n hΓ dX6_removeBranch_90 rfl ?_
            refine qa_dup hΓ dX6_removeBranch_91 ?_
            refine qa_get hΓ dX6_removeBranch_92 fk_X6_65 hM.lt hM.o rfl ?_
            refine qa_aload_n hΓ dX6_removeBranch_95 rfl ?_
            refine qc_V1q hΓ dX6_removeBranch_96 lk_X6_68 vw_X6_looks (by omega) (c_X6_looks l (d - 1) (by omega) hM (by rw [hU.1]; exact hW1) (by omega)) rfl hM.lt hM.o rfl rfl (Nat.le_of_ble_eq_true rfl) (fun w hq => ?_)
            obtain ⟨M2, hM, hU2, hF⟩ := hq
            have hF0 := hF0.tr hF
            have hUo := hU
            have hU := hU.lookE hU2
            refine qz_iadd hΓ dX6_removeBranch_99 ?_
            refine qM_put hΓ 2 dX6_removeBranch_100 fk_X6_65 (by decide) hM (fun w hM hF => ?_)
            have hF0 := hF0.tr hF
            obtain ⟨M1, hM, hU⟩ := Mup.chgE hM hU
            refine qa_aload_n hΓ dX6_removeBranch_103 rfl ?_
            refine qa_iload_n hΓ dX6_removeBranch_104 rfl ?_
            refine qa_bipush (v := nI 12) hΓ dX6_removeBranch_105 bp_12 ?_
            refine qc_V1 hΓ dX6_removeBranch_107 lk_X6_37 vw_X6_of (by omega) (c_X6_ofUE l (d - 1) hM hU r 12 (by omega) (by decide) (y := vv (M 0) r 12 - 1) ((lk_oth _ _ (by decide) (by decide) _).trans (by rw [← hrm]; exact (shS_x _ _ _ _ _ (by omega) (by decide)).trans hMn))) rfl hM.lt hM.o rfl rfl (Nat.le_of_ble_eq_true rfl) ?_
            exact qr_i hR dX6_removeBranch_110 ⟨_, M1, rfl, hM, hW0 ▸ (hw0 _ hF0), by
              unfold spRB
              rw [tn_nI (by omega), if_pos hC0, tn_nI (by omega)]
              exact ⟨rfl, Op.of hN (hM0 ▸ hU)⟩⟩
          · refine qa_aload_n hΓ dX6_removeBranch_70 rfl ?_
            refine qa_iload_n hΓ dX6_removeBranch_71 rfl ?_
            refine qa_iload_n hΓ dX6_removeBranch_72 rfl ?_
            refine qa_aload_n hΓ dX6_removeBranch_73 rfl ?_
            refine qa_iload_n hΓ dX6_removeBranch_74 rfl ?_
            refine qa_iload_n hΓ dX6_removeBranch_75 rfl ?_
            refine qa_iconst (v := nI 2) hΓ dX6_removeBranch_76 ic_2 ?_
            refine qz_iadd hΓ dX6_removeBranch_77 ?_
            refine qc_V1 hΓ dX6_removeBranch_78 lk_X6_37 vw_X6_of (by omega) (c_X6_ofU l (d - 1) hM hU _ _ (by omega) (by omega)) rfl hM.lt hM.o rfl rfl (Nat.le_of_ble_eq_true rfl) ?_
            refine qc_V0q hΓ dX6_removeBranch_81 lk_X6_49 vw_X6_puts (by omega) (c_X6_puts l (d - 1) hM _ _ _ (by omega) (by omega)) rfl hM.lt hM.o rfl rfl (Nat.le_of_ble_eq_true rfl) (fun w hq => ?_)
            obtain ⟨hM, hF⟩ := hq
            have hF0 := hF0.tr hF
            obtain ⟨M1, hM, hU⟩ := Mup.putE hM hU
            refine qz_iinc hΓ dX6_removeBranch_84 ii_1 rfl (by decide) ?_
            refine qa_goto (tgt := 54) hΓ dX6_removeBranch_87 (by decide) ?_
            rw [shS_step _ _ _ _ h0] at hU
            exact ih (kk + 1) w M1 (by omega) (by omega) (by omega) hM hU hF0
      exact loop 20 (13 + 2 * b) w M1 (by omega) (by omega) (by omega) hM (by refine (?_ : t = shS t r _ _) ▸ hU; funext j; unfold shS; rw [if_neg (by omega)]) hF0
    · refine qa_iconst (v := (-1)) hΓ dX6_removeBranch_25 ic_m1 ?_
      exact qr_i hR dX6_removeBranch_26 ⟨-1, M, rfl, hM, Fr.rf, by unfold spRB; rw [tn_nI (by omega), if_neg (fun q => of_decide_eq_false h_22 q.2)]; exact ⟨rfl, Sm.rf M⟩⟩

