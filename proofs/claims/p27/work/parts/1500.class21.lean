/-! The class: the calls that change the bank -/
theorem kd_e {s : Nat → Nat} {B e : Nat} (hS : SeC s) (hW : Wt s B) (he : e < 4 * s 1) (he3 : e % 4 < 3) (hw : wtB s e = true) : (if slE e % 2 = 1 then 2 else 1 - vv s (slE e / 2) 4) = e % 4 := by
  have h4 := hW.c1 (r := e / 4) (by omega) (x := 4) (by omega)
  have h8 := (hS (e / 4) (by omega)).1
  unfold wtB at hw
  by_cases h : e % 4 = 2
  · have : slE e = 2 * (e / 4) + 1 := by unfold slE; rw [if_pos h]
    rw [this, if_pos (by omega), h]
  · have e1 : slE e = 2 * (e / 4) := by unfold slE; rw [if_neg h]; rfl
    rw [if_neg h, Bool.and_eq_true, decide_eq_true_eq, decide_eq_true_eq] at hw
    rw [e1, if_neg (by omega), show 2 * (e / 4) / 2 = e / 4 by omega]
    have := (h8 (by omega)).1
    omega
theorem sl_div {e : Nat} : slE e / 2 = e / 4 := by unfold slE; split <;> omega
theorem sl_lt {e n : Nat} (h : e < 4 * n) : slE e < 2 * n := by unfold slE; split <;> omega
set_option maxRecDepth 100000 in
set_option maxHeartbeats 4000000 in
theorem c_X5_addRelay (l : Launch) (d : Nat) (hd : 3 ≤ d) {n : Nat} {w : Nat → AC} {M : Bk} {B : Nat} {b : Bk} {ol : Nat} {p : Nat → Bk} {g : Nat → Nat} {z R q : Nat} {c1 c2 : Bk} (hZ : WX n w b ol (M 5 0) p (M 4) (M 5 1) g z R q c1 c2) (hX : SX M B b ol p) (hBd : B < 800000000) (u v x : Int32) : Sq l yX5_addRelay cX5_addRelay 4 (some .int) d [aR 0, aI u, aI v, aI x] n w (QC (spAdd M u v x) (B + 4100) n w) := by
  refine Sp.of (plainFor_of_name (by decide)) (Nat.le_of_ble_eq_true rfl) (fun Γ hΓ hR => ?_)
  show Γ 0 [aR 0, aI u, aI v, aI x] [] (0, 0) n w
  have hF0 : Fr 0 70 w w := Fr.rf
  obtain ⟨hR0, hS, hC, hW, hp6, hG, hT60, hT256⟩ := id hX
  have h8 := hW.2.1
  refine qa_iload_n hΓ dX5_addRelay_0 rfl ?_
  refine qa_iload_n hΓ dX5_addRelay_1 rfl ?_
  refine qa_iload_n hΓ dX5_addRelay_2 rfl ?_
  refine qc_S1 hΓ dX5_addRelay_3 lk_X5_43 vw_X5_areDelays (by omega) (c_X5_areDelays l (d - 1) (by omega) _ _ _) rfl rfl (Nat.le_of_ble_eq_true rfl) ?_
  refine qb_if_ne (tgt := 11) hΓ dX5_addRelay_6 (by decide) (fun h_6 => ?_) (fun h_6 => ?_)
  · have hC0 := of_decide_eq_true h_6
    obtain ⟨a1, ha1, ha2, rfl⟩ := rng (by decide) hC0.1 (by decide)
    obtain ⟨a2, hb1, hb2, rfl⟩ := rng (by decide) hC0.2.1 (by decide)
    obtain ⟨a3, hc1, hc2, rfl⟩ := rng (by decide) hC0.2.2 (by decide)
    refine qa_aload_n hΓ dX5_addRelay_11 rfl ?_
    refine qa_get hΓ dX5_addRelay_12 fk_X5_12 hZ.lt hZ.o rfl ?_
    refine qa_getN hΓ dX5_addRelay_15 fn_X5_47 hZ.now.lt hZ.now.o rfl ?_
    rw [hR0.1.1]
    refine qa_bipush (v := nI 8) hΓ dX5_addRelay_18 bp_8 ?_
    refine qz_icmp_lt (tgt := 26) hΓ dX5_addRelay_20 (by decide) (by omega) (by omega) (fun h_20 => ?_) (fun h_20 => ?_)
    · refine qa_aload_n hΓ dX5_addRelay_26 rfl ?_
      refine qa_get hΓ dX5_addRelay_27 fk_X5_19 hZ.lt hZ.o rfl ?_
      refine qa_aload_n hΓ dX5_addRelay_30 rfl ?_
      refine qa_get hΓ dX5_addRelay_31 fk_X5_12 hZ.lt hZ.o rfl ?_
      refine qc_V0q hΓ dX5_addRelay_34 lk_X5_51 vw_X3_save (by omega) (c_X3_save l (d - 1) (by omega) hZ.past hZ.now) rfl hZ.past.lt hZ.past.o rfl rfl (Nat.le_of_ble_eq_true rfl) (fun w hq => ?_)
      obtain ⟨ol', p', hP', hF, hs1, hs2⟩ := hq
      have hZ := hZ.putP hP' hF
      have hF0 := hF0.tr (hF.wide (by omega) (by omega))
      refine qa_aload_n hΓ dX5_addRelay_37 rfl ?_
      refine qa_get hΓ dX5_addRelay_38 fk_X5_12 hZ.lt hZ.o rfl ?_
      refine qa_iload_n hΓ dX5_addRelay_41 rfl ?_
      refine qa_iload_n hΓ dX5_addRelay_42 rfl ?_
      refine qa_iload_n hΓ dX5_addRelay_43 rfl ?_
      refine qc_V1q hΓ dX5_addRelay_44 lk_X5_55 vw_X0_add (by omega) (c_X0_add l (d - 1) (by omega) hZ.now hR0 hW (by omega) hS a1 a2 a3 (by omega)) rfl hZ.now.lt hZ.now.o rfl rfl (Nat.le_of_ble_eq_true rfl) (fun w hq => ?_)
      obtain ⟨b', hB', hF, hR1, hS1⟩ := hq
      have hZ := hZ.putB hB' hF
      have hF0 := hF0.tr (hF.wide (by omega) (by omega))
      exact qr_i hR dX5_addRelay_47 ⟨_, rfl, hF0, fun r2 M' h => by
        unfold spAdd at h
        rw [if_pos hC0, if_neg (by omega), tn_nI (by omega), tn_nI (by omega), tn_nI (by omega)] at h
        exact ⟨h.1, CW.op hX hZ hs1 hs2 hR1 hS1 (hC.add hW) ((hW.mono (by omega)).add (by omega) (by omega) (by omega) (by omega)) h.2⟩⟩
    · refine qa_bipush (v := (-3)) hΓ dX5_addRelay_23 bp_m3 ?_
      exact qr_i hR dX5_addRelay_25 ⟨_, rfl, hF0, fun r2 M' h => by
        unfold spAdd at h
        rw [if_pos hC0, if_pos (by omega)] at h
        exact ⟨h.1, CW.sm hX hZ h.2⟩⟩
  · refine qa_iconst (v := (-1)) hΓ dX5_addRelay_9 ic_m1 ?_
    exact qr_i hR dX5_addRelay_10 ⟨_, rfl, hF0, fun r2 M' h => by unfold spAdd at h; rw [if_neg (fun q => by first | exact of_decide_eq_false h_6 q)] at h; exact ⟨h.1, CW.sm hX hZ h.2⟩⟩

set_option maxRecDepth 100000 in
set_option maxHeartbeats 4000000 in
theorem c_X5_setDelays (l : Launch) (d : Nat) (hd : 3 ≤ d) {n : Nat} {w : Nat → AC} {M : Bk} {B : Nat} {b : Bk} {ol : Nat} {p : Nat → Bk} {g : Nat → Nat} {z R q : Nat} {c1 c2 : Bk} (hZ : WX n w b ol (M 5 0) p (M 4) (M 5 1) g z R q c1 c2) (hX : SX M B b ol p) (hBd : B < 800000000) (rl u v x : Int32) : Sq l yX5_setDelays cX5_setDelays 5 (some .int) d [aR 0, aI rl, aI u, aI v, aI x] n w (QC (spSD M rl u v x) (B + 4100) n w) := by
  refine Sp.of (plainFor_of_name (by decide)) (Nat.le_of_ble_eq_true rfl) (fun Γ hΓ hR => ?_)
  show Γ 0 [aR 0, aI rl, aI u, aI v, aI x] [] (0, 0) n w
  have hF0 : Fr 0 70 w w := Fr.rf
  obtain ⟨hR0, hS, hC, hW, hp6, hG, hT60, hT256⟩ := id hX
  have h8 := hW.2.1
  refine qa_aload_n hΓ dX5_setDelays_0 rfl ?_
  refine qa_get hΓ dX5_setDelays_1 fk_X5_12 hZ.lt hZ.o rfl ?_
  refine qa_iload_n hΓ dX5_setDelays_4 rfl ?_
  refine qc_V1 hΓ dX5_setDelays_5 lk_X5_59 vw_X0_has (by omega) (c_X0_has l (d - 1) (by omega) hZ.now _) rfl hZ.now.lt hZ.now.o rfl rfl (Nat.le_of_ble_eq_true rfl) ?_
  rw [hR0.1.1]
  refine qb_if_eq (tgt := 21) hΓ dX5_setDelays_8 (by decide) (fun h_8 => ?_) (fun h_8 => ?_)
  · refine qa_iconst (v := (-1)) hΓ dX5_setDelays_21 ic_m1 ?_
    exact qr_i hR dX5_setDelays_22 ⟨_, rfl, hF0, fun r2 M' h => by unfold spSD at h; rw [if_neg (fun q => by first | exact of_decide_eq_false h_8 q.1 | exact of_decide_eq_false h_18 q.2)] at h; exact ⟨h.1, CW.sm hX hZ h.2⟩⟩
  · obtain ⟨r, hr, rfl⟩ := isR_of (by omega) (of_decide_eq_true h_8)
    have tr : tn (nI r) = r := tn_nI (by omega)
    refine qa_iload_n hΓ dX5_setDelays_11 rfl ?_
    refine qa_iload_n hΓ dX5_setDelays_12 rfl ?_
    refine qa_iload hΓ dX5_setDelays_13 rfl ?_
    refine qc_S1 hΓ dX5_setDelays_15 lk_X5_43 vw_X5_areDelays (by omega) (c_X5_areDelays l (d - 1) (by omega) _ _ _) rfl rfl (Nat.le_of_ble_eq_true rfl) ?_
    refine qb_if_ne (tgt := 23) hΓ dX5_setDelays_18 (by decide) (fun h_18 => ?_) (fun h_18 => ?_)
    · have hC0 := of_decide_eq_true h_18
      obtain ⟨a1, ha1, ha2, rfl⟩ := rng (by decide) hC0.1 (by decide)
      obtain ⟨a2, hb1, hb2, rfl⟩ := rng (by decide) hC0.2.1 (by decide)
      obtain ⟨a3, hc1, hc2, rfl⟩ := rng (by decide) hC0.2.2 (by decide)
      obtain ⟨e0, e1, e2, _⟩ := hR0.2.1 r hr
      have q0 := hW.b hr (x := 0) (by decide)
      have q1 := hW.b hr (x := 1) (by decide)
      have q2 := hW.b hr (x := 2) (by decide)
      refine qa_aload_n hΓ dX5_setDelays_23 rfl ?_
      refine qa_get hΓ dX5_setDelays_24 fk_X5_19 hZ.lt hZ.o rfl ?_
      refine qa_aload_n hΓ dX5_setDelays_27 rfl ?_
      refine qa_get hΓ dX5_setDelays_28 fk_X5_12 hZ.lt hZ.o rfl ?_
      refine qc_V0q hΓ dX5_setDelays_31 lk_X5_51 vw_X3_save (by omega) (c_X3_save l (d - 1) (by omega) hZ.past hZ.now) rfl hZ.past.lt hZ.past.o rfl rfl (Nat.le_of_ble_eq_true rfl) (fun w hq => ?_)
      obtain ⟨ol', p', hP', hF, hs1, hs2⟩ := hq
      have hZ := hZ.putP hP' hF
      have hF0 := hF0.tr (hF.wide (by omega) (by omega))
      refine qa_aload_n hΓ dX5_setDelays_34 rfl ?_
      refine qa_get hΓ dX5_setDelays_35 fk_X5_12 hZ.lt hZ.o rfl ?_
      refine qa_iload_n hΓ dX5_setDelays_38 rfl ?_
      refine qa_iload_n hΓ dX5_setDelays_39 rfl ?_
      refine qa_iload_n hΓ dX5_setDelays_40 rfl ?_
      refine qa_iload hΓ dX5_setDelays_41 rfl ?_
      refine qc_V1q hΓ dX5_setDelays_43 lk_X5_63 vw_X0_putDelays (by omega) (c_X0_putDelays l (d - 1) (by omega) hZ.now r a1 a2 a3 (by omega)) rfl hZ.now.lt hZ.now.o rfl rfl (Nat.le_of_ble_eq_true rfl) (fun w hq => ?_)
      obtain ⟨hB', hF⟩ := hq
      have hZ := hZ.putB hB' hF
      have hF0 := hF0.tr (hF.wide (by omega) (by omega))
      refine qb_if_eq (tgt := 53) hΓ dX5_setDelays_46 (by decide) (fun h_46 => ?_) (fun h_46 => ?_)
      · refine qa_iconst (v := nI 0) hΓ dX5_setDelays_53 ic_0 ?_
        have hsd : sameD (M 0) r a1 a2 a3 ↔ (nI (b 0 r) = nI a1 ∧ nI (b 1 r) = nI a2 ∧ nI (b 2 r) = nI a3) := by
          rw [e0, e1, e2, nI_inj (by omega) (by omega), nI_inj (by omega) (by omega), nI_inj (by omega) (by omega)]
          exact Iff.rfl
        exact qr_i hR dX5_setDelays_54 ⟨_, rfl, hF0, fun r2 M' h => by
          unfold spSD at h
          rw [if_pos ⟨of_decide_eq_true h_8, hC0⟩, tr, tn_nI (by omega), tn_nI (by omega), tn_nI (by omega)] at h
          refine ⟨?_, CW.op hX hZ hs1 hs2 (hR0.sd hW) hS.sd (hC.sd hW (by omega) (by omega)) ((hW.mono (by omega)).sd (by omega) (by omega) (by omega)) h.2⟩
          exact h.1.1 (hsd.mpr (of_decide_eq_true (by simpa using h_46)))⟩
      · refine qa_iconst (v := nI 1) hΓ dX5_setDelays_49 ic_1 ?_
        refine qa_goto (tgt := 54) hΓ dX5_setDelays_50 (by decide) ?_
        have hsd : sameD (M 0) r a1 a2 a3 ↔ (nI (b 0 r) = nI a1 ∧ nI (b 1 r) = nI a2 ∧ nI (b 2 r) = nI a3) := by
          rw [e0, e1, e2, nI_inj (by omega) (by omega), nI_inj (by omega) (by omega), nI_inj (by omega) (by omega)]
          exact Iff.rfl
        exact qr_i hR dX5_setDelays_54 ⟨_, rfl, hF0, fun r2 M' h => by
          unfold spSD at h
          rw [if_pos ⟨of_decide_eq_true h_8, hC0⟩, tr, tn_nI (by omega), tn_nI (by omega), tn_nI (by omega)] at h
          refine ⟨?_, CW.op hX hZ hs1 hs2 (hR0.sd hW) hS.sd (hC.sd hW (by omega) (by omega)) ((hW.mono (by omega)).sd (by omega) (by omega) (by omega)) h.2⟩
          exact h.1.2 (fun q => by have q9 := hsd.mp q; simp [q9.1, q9.2.1, q9.2.2] at h_46)⟩
    · refine qa_iconst (v := (-1)) hΓ dX5_setDelays_21 ic_m1 ?_
      exact qr_i hR dX5_setDelays_22 ⟨_, rfl, hF0, fun r2 M' h => by unfold spSD at h; rw [if_neg (fun q => by first | exact of_decide_eq_false h_8 q.1 | exact of_decide_eq_false h_18 q.2)] at h; exact ⟨h.1, CW.sm hX hZ h.2⟩⟩

set_option maxRecDepth 100000 in
set_option maxHeartbeats 4000000 in
theorem c_X5_setCondition (l : Launch) (d : Nat) (hd : 4 ≤ d) {n : Nat} {w : Nat → AC} {M : Bk} {B : Nat} {b : Bk} {ol : Nat} {p : Nat → Bk} {g : Nat → Nat} {z R q : Nat} {c1 c2 : Bk} (hZ : WX n w b ol (M 5 0) p (M 4) (M 5 1) g z R q c1 c2) (hX : SX M B b ol p) (hBd : B < 800000000) (rl br su hw : Int32) : Sq l yX5_setCondition cX5_setCondition 5 (some .int) d [aR 0, aI rl, aI br, aI su, aI hw] n w (QC (spSC M rl br su hw) (B + 4100) n w) := by
  refine Sp.of (plainFor_of_name (by decide)) (Nat.le_of_ble_eq_true rfl) (fun Γ hΓ hR => ?_)
  show Γ 0 [aR 0, aI rl, aI br, aI su, aI hw] [] (0, 0) n w
  have hF0 : Fr 0 70 w w := Fr.rf
  obtain ⟨hR0, hS, hC, hW, hp6, hG, hT60, hT256⟩ := id hX
  have h8 := hW.2.1
  refine qa_aload_n hΓ dX5_setCondition_0 rfl ?_
  refine qa_get hΓ dX5_setCondition_1 fk_X5_12 hZ.lt hZ.o rfl ?_
  refine qa_iload_n hΓ dX5_setCondition_4 rfl ?_
  refine qc_V1 hΓ dX5_setCondition_5 lk_X5_59 vw_X0_has (by omega) (c_X0_has l (d - 1) (by omega) hZ.now _) rfl hZ.now.lt hZ.now.o rfl rfl (Nat.le_of_ble_eq_true rfl) ?_
  rw [hR0.1.1]
  refine qb_if_eq (tgt := 27) hΓ dX5_setCondition_8 (by decide) (fun h_8 => ?_) (fun h_8 => ?_)
  · refine qa_iconst (v := (-1)) hΓ dX5_setCondition_27 ic_m1 ?_
    exact qr_i hR dX5_setCondition_28 ⟨_, rfl, hF0, fun r2 M' h => by unfold spSC at h; rw [if_neg (fun q => by first | exact of_decide_eq_false h_8 q.1 | exact of_decide_eq_false h_24 q.2.1 | exact of_decide_eq_false h_46 q.2.2.1 | exact of_decide_eq_false h_56 q.2.2.2)] at h; exact ⟨h.1, CW.sm hX hZ h.2⟩⟩
  · obtain ⟨r, hr, rfl⟩ := isR_of (by omega) (of_decide_eq_true h_8)
    have tr : tn (nI r) = r := tn_nI (by omega)
    refine qa_iload_n hΓ dX5_setCondition_11 rfl ?_
    refine qa_iconst (v := nI 0) hΓ dX5_setCondition_12 ic_0 ?_
    refine qa_aload_n hΓ dX5_setCondition_13 rfl ?_
    refine qa_get hΓ dX5_setCondition_14 fk_X5_12 hZ.lt hZ.o rfl ?_
    refine qa_iload_n hΓ dX5_setCondition_17 rfl ?_
    refine qc_V1 hΓ dX5_setCondition_18 lk_X5_67 vw_X0_branchesOf (by omega) (c_X0_branchesOf l (d - 1) (by omega) hZ.now r (by omega)) rfl hZ.now.lt hZ.now.o rfl rfl (Nat.le_of_ble_eq_true rfl) ?_
    rw [(hR0.2.1 r hr).2.2.2.1]
    refine qc_S1 hΓ dX5_setCondition_21 lk_X5_71 vw_X5_isWithin (by omega) (c_X5_isWithin l (d - 1) _ _ _) rfl rfl (Nat.le_of_ble_eq_true rfl) ?_
    refine qb_if_ne (tgt := 29) hΓ dX5_setCondition_24 (by decide) (fun h_24 => ?_) (fun h_24 => ?_)
    · refine qa_iload_n hΓ dX5_setCondition_29 rfl ?_
      refine qa_iconst (v := nI 0) hΓ dX5_setCondition_30 ic_0 ?_
      refine qa_bipush (v := nI 8) hΓ dX5_setCondition_31 bp_8 ?_
      refine qa_aload_n hΓ dX5_setCondition_33 rfl ?_
      refine qa_get hΓ dX5_setCondition_34 fk_X5_12 hZ.lt hZ.o rfl ?_
      refine qa_getN hΓ dX5_setCondition_37 fn_X5_47 hZ.now.lt hZ.now.o rfl ?_
      rw [hR0.1.1]
      refine qz_iadd hΓ dX5_setCondition_40 ?_
      refine qa_iconst (v := nI 1) hΓ dX5_setCondition_41 ic_1 ?_
      refine qz_isub hΓ dX5_setCondition_42 (by omega) ?_
      rw [show 8 + M 0 1 - 1 = 7 + M 0 1 by omega]
      refine qc_S1 hΓ dX5_setCondition_43 lk_X5_71 vw_X5_isWithin (by omega) (c_X5_isWithin l (d - 1) _ _ _) rfl rfl (Nat.le_of_ble_eq_true rfl) ?_
      refine qb_if_eq (tgt := 59) hΓ dX5_setCondition_46 (by decide) (fun h_46 => ?_) (fun h_46 => ?_)
      · refine qa_iconst (v := (-1)) hΓ dX5_setCondition_59 ic_m1 ?_
        exact qr_i hR dX5_setCondition_60 ⟨_, rfl, hF0, fun r2 M' h => by unfold spSC at h; rw [tr] at h; rw [if_neg (fun q => by first | exact of_decide_eq_false h_8 q.1 | exact of_decide_eq_false h_24 q.2.1 | exact of_decide_eq_false h_46 q.2.2.1 | exact of_decide_eq_false h_56 q.2.2.2)] at h; exact ⟨h.1, CW.sm hX hZ h.2⟩⟩
      · refine qa_iload hΓ dX5_setCondition_49 rfl ?_
        refine qa_iconst (v := nI 0) hΓ dX5_setCondition_51 ic_0 ?_
        refine qa_iconst (v := nI 2) hΓ dX5_setCondition_52 ic_2 ?_
        refine qc_S1 hΓ dX5_setCondition_53 lk_X5_71 vw_X5_isWithin (by omega) (c_X5_isWithin l (d - 1) _ _ _) rfl rfl (Nat.le_of_ble_eq_true rfl) ?_
        refine qb_if_ne (tgt := 61) hΓ dX5_setCondition_56 (by decide) (fun h_56 => ?_) (fun h_56 => ?_)
        · obtain ⟨j, hj1, hj2, rfl⟩ := rng (by have := hW.m6 hr; omega) (of_decide_eq_true h_24) (by decide)
          obtain ⟨x, hx1, hx2, rfl⟩ := rng (by omega) (of_decide_eq_true h_46) (by decide)
          obtain ⟨w2, hw1, hw2, rfl⟩ := rng (by decide) (of_decide_eq_true h_56) (by decide)
          have hm6 := hW.m6 hr
          refine qa_iload_n hΓ dX5_setCondition_61 rfl ?_
          refine qa_bipush (v := nI 6) hΓ dX5_setCondition_62 bp_6 ?_
          refine qz_icmp_lt (tgt := 70) hΓ dX5_setCondition_64 (by decide) (by omega) (by omega) (fun h_64 => ?_) (fun h_64 => ?_)
          · have hWc : Wt (cnS (scS (M 0) r j) r j x w2) B := (hW.scS (by omega)).cnS (by rw [scS_hd _ _ _ (by decide)]; exact hr) (by omega) (by omega)
            refine qa_aload_n hΓ dX5_setCondition_70 rfl ?_
            refine qa_get hΓ dX5_setCondition_71 fk_X5_19 hZ.lt hZ.o rfl ?_
            refine qa_aload_n hΓ dX5_setCondition_74 rfl ?_
            refine qa_get hΓ dX5_setCondition_75 fk_X5_12 hZ.lt hZ.o rfl ?_
            refine qc_V0q hΓ dX5_setCondition_78 lk_X5_51 vw_X3_save (by omega) (c_X3_save l (d - 1) (by omega) hZ.past hZ.now) rfl hZ.past.lt hZ.past.o rfl rfl (Nat.le_of_ble_eq_true rfl) (fun w hq => ?_)
            obtain ⟨ol', p', hP', hF, hs1, hs2⟩ := hq
            have hZ := hZ.putP hP' hF
            have hF0 := hF0.tr (hF.wide (by omega) (by omega))
            refine qa_aload_n hΓ dX5_setCondition_81 rfl ?_
            refine qa_get hΓ dX5_setCondition_82 fk_X5_12 hZ.lt hZ.o rfl ?_
            refine qa_iload_n hΓ dX5_setCondition_85 rfl ?_
            refine qa_iload_n hΓ dX5_setCondition_86 rfl ?_
            refine qa_iload_n hΓ dX5_setCondition_87 rfl ?_
            refine qa_iload hΓ dX5_setCondition_88 rfl ?_
            refine qc_V1q hΓ dX5_setCondition_90 lk_X5_74 vw_X0_putCondition (by omega) (c_X0_putCondition l (d - 1) (by omega) hZ.now hR0 hW (by omega) hS r j x w2 hr hj2 (by omega) (by omega) (by omega)) rfl hZ.now.lt hZ.now.o rfl rfl (Nat.le_of_ble_eq_true rfl) (fun w hq => ?_)
            obtain ⟨b', hB', hF, hR1, hS1⟩ := hq
            have hZ := hZ.putB hB' hF
            have hF0 := hF0.tr (hF.wide (by omega) (by omega))
            exact qr_i hR dX5_setCondition_93 ⟨_, rfl, hF0, fun r2 M' h => by
              unfold spSC at h
              rw [tr, tn_nI (show j < 2147483648 by omega), if_pos ⟨of_decide_eq_true h_8, of_decide_eq_true h_24, of_decide_eq_true h_46, of_decide_eq_true h_56⟩, if_neg (by omega), tn_nI (show x < 2147483648 by omega), tn_nI (show w2 < 2147483648 by omega)] at h
              exact ⟨h.1, CW.op hX hZ hs1 hs2 hR1 hS1 (CC_lks hWc) (hWc.mono (by omega)).lks h.2⟩⟩
          · refine qa_bipush (v := (-3)) hΓ dX5_setCondition_67 bp_m3 ?_
            exact qr_i hR dX5_setCondition_69 ⟨_, rfl, hF0, fun r2 M' h => by
              unfold spSC at h
              rw [tr, tn_nI (by omega), if_pos ⟨of_decide_eq_true h_8, of_decide_eq_true h_24, of_decide_eq_true h_46, of_decide_eq_true h_56⟩, if_pos (by omega)] at h
              exact ⟨h.1, CW.sm hX hZ h.2⟩⟩
        · refine qa_iconst (v := (-1)) hΓ dX5_setCondition_59 ic_m1 ?_
          exact qr_i hR dX5_setCondition_60 ⟨_, rfl, hF0, fun r2 M' h => by unfold spSC at h; rw [tr] at h; rw [if_neg (fun q => by first | exact of_decide_eq_false h_8 q.1 | exact of_decide_eq_false h_24 q.2.1 | exact of_decide_eq_false h_46 q.2.2.1 | exact of_decide_eq_false h_56 q.2.2.2)] at h; exact ⟨h.1, CW.sm hX hZ h.2⟩⟩
    · refine qa_iconst (v := (-1)) hΓ dX5_setCondition_27 ic_m1 ?_
      exact qr_i hR dX5_setCondition_28 ⟨_, rfl, hF0, fun r2 M' h => by unfold spSC at h; rw [tr] at h; rw [if_neg (fun q => by first | exact of_decide_eq_false h_8 q.1 | exact of_decide_eq_false h_24 q.2.1 | exact of_decide_eq_false h_46 q.2.2.1 | exact of_decide_eq_false h_56 q.2.2.2)] at h; exact ⟨h.1, CW.sm hX hZ h.2⟩⟩

set_option maxRecDepth 100000 in
set_option maxHeartbeats 4000000 in
theorem c_X5_removeBranch (l : Launch) (d : Nat) (hd : 4 ≤ d) {n : Nat} {w : Nat → AC} {M : Bk} {B : Nat} {b : Bk} {ol : Nat} {p : Nat → Bk} {g : Nat → Nat} {z R q : Nat} {c1 c2 : Bk} (hZ : WX n w b ol (M 5 0) p (M 4) (M 5 1) g z R q c1 c2) (hX : SX M B b ol p) (hBd : B < 800000000) (rl br : Int32) : Sq l yX5_removeBranch cX5_removeBranch 3 (some .int) d [aR 0, aI rl, aI br] n w (QC (spRB M rl br) (B + 4100) n w) := by
  refine Sp.of (plainFor_of_name (by decide)) (Nat.le_of_ble_eq_true rfl) (fun Γ hΓ hR => ?_)
  show Γ 0 [aR 0, aI rl, aI br] [] (0, 0) n w
  have hF0 : Fr 0 70 w w := Fr.rf
  obtain ⟨hR0, hS, hC, hW, hp6, hG, hT60, hT256⟩ := id hX
  have h8 := hW.2.1
  refine qa_aload_n hΓ dX5_removeBranch_0 rfl ?_
  refine qa_get hΓ dX5_removeBranch_1 fk_X5_12 hZ.lt hZ.o rfl ?_
  refine qa_iload_n hΓ dX5_removeBranch_4 rfl ?_
  refine qc_V1 hΓ dX5_removeBranch_5 lk_X5_59 vw_X0_has (by omega) (c_X0_has l (d - 1) (by omega) hZ.now _) rfl hZ.now.lt hZ.now.o rfl rfl (Nat.le_of_ble_eq_true rfl) ?_
  rw [hR0.1.1]
  refine qb_if_eq (tgt := 29) hΓ dX5_removeBranch_8 (by decide) (fun h_8 => ?_) (fun h_8 => ?_)
  · refine qa_iconst (v := (-1)) hΓ dX5_removeBranch_29 ic_m1 ?_
    exact qr_i hR dX5_removeBranch_30 ⟨_, rfl, hF0, fun r2 M' h => by unfold spRB at h; rw [if_neg (fun q => by first | exact of_decide_eq_false h_8 q.1 | exact of_decide_eq_false h_26 q.2)] at h; exact ⟨h.1, CW.sm hX hZ h.2⟩⟩
  · obtain ⟨r, hr, rfl⟩ := isR_of (by omega) (of_decide_eq_true h_8)
    have tr : tn (nI r) = r := tn_nI (by omega)
    refine qa_iload_n hΓ dX5_removeBranch_11 rfl ?_
    refine qa_iconst (v := nI 0) hΓ dX5_removeBranch_12 ic_0 ?_
    refine qa_aload_n hΓ dX5_removeBranch_13 rfl ?_
    refine qa_get hΓ dX5_removeBranch_14 fk_X5_12 hZ.lt hZ.o rfl ?_
    refine qa_iload_n hΓ dX5_removeBranch_17 rfl ?_
    refine qc_V1 hΓ dX5_removeBranch_18 lk_X5_67 vw_X0_branchesOf (by omega) (c_X0_branchesOf l (d - 1) (by omega) hZ.now r (by omega)) rfl hZ.now.lt hZ.now.o rfl rfl (Nat.le_of_ble_eq_true rfl) ?_
    rw [(hR0.2.1 r hr).2.2.2.1]
    refine qa_iconst (v := nI 1) hΓ dX5_removeBranch_21 ic_1 ?_
    refine qa_isub hΓ dX5_removeBranch_22 ?_
    refine qc_S1 hΓ dX5_removeBranch_23 lk_X5_71 vw_X5_isWithin (by omega) (c_X5_isWithin l (d - 1) _ _ _) rfl rfl (Nat.le_of_ble_eq_true rfl) ?_
    refine qb_if_ne (tgt := 31) hΓ dX5_removeBranch_26 (by decide) (fun h_26 => ?_) (fun h_26 => ?_)
    · have hm6 := hW.m6 hr
      obtain ⟨j, hj, rfl⟩ := isR_of (by omega) (of_decide_eq_true h_26)
      have hWr := hW.rmS (r := r) (b := j) hm6
      refine qa_aload_n hΓ dX5_removeBranch_31 rfl ?_
      refine qa_get hΓ dX5_removeBranch_32 fk_X5_19 hZ.lt hZ.o rfl ?_
      refine qa_aload_n hΓ dX5_removeBranch_35 rfl ?_
      refine qa_get hΓ dX5_removeBranch_36 fk_X5_12 hZ.lt hZ.o rfl ?_
      refine qc_V0q hΓ dX5_removeBranch_39 lk_X5_51 vw_X3_save (by omega) (c_X3_save l (d - 1) (by omega) hZ.past hZ.now) rfl hZ.past.lt hZ.past.o rfl rfl (Nat.le_of_ble_eq_true rfl) (fun w hq => ?_)
      obtain ⟨ol', p', hP', hF, hs1, hs2⟩ := hq
      have hZ := hZ.putP hP' hF
      have hF0 := hF0.tr (hF.wide (by omega) (by omega))
      refine qa_aload_n hΓ dX5_removeBranch_42 rfl ?_
      refine qa_get hΓ dX5_removeBranch_43 fk_X5_12 hZ.lt hZ.o rfl ?_
      refine qa_iload_n hΓ dX5_removeBranch_46 rfl ?_
      refine qa_iload_n hΓ dX5_removeBranch_47 rfl ?_
      refine qc_V1q hΓ dX5_removeBranch_48 lk_X5_78 vw_X0_dropBranch (by omega) (c_X0_dropBranch l (d - 1) (by omega) hZ.now hR0 hW (by omega) hS r j hr hj hWr) rfl hZ.now.lt hZ.now.o rfl rfl (Nat.le_of_ble_eq_true rfl) (fun w hq => ?_)
      obtain ⟨b', hB', hF, hR1, hS1⟩ := hq
      have hZ := hZ.putB hB' hF
      have hF0 := hF0.tr (hF.wide (by omega) (by omega))
      exact qr_i hR dX5_removeBranch_51 ⟨_, rfl, hF0, fun r2 M' h => by
        unfold spRB at h
        rw [tr, if_pos ⟨of_decide_eq_true h_8, of_decide_eq_true h_26⟩, tn_nI (show j < 2147483648 by omega)] at h
        exact ⟨h.1, CW.op hX hZ hs1 hs2 hR1 hS1 (CC_lks hWr) (hWr.mono (by omega)).lks h.2⟩⟩
    · refine qa_iconst (v := (-1)) hΓ dX5_removeBranch_29 ic_m1 ?_
      exact qr_i hR dX5_removeBranch_30 ⟨_, rfl, hF0, fun r2 M' h => by unfold spRB at h; rw [tr] at h; rw [if_neg (fun q => by first | exact of_decide_eq_false h_8 q.1 | exact of_decide_eq_false h_26 q.2)] at h; exact ⟨h.1, CW.sm hX hZ h.2⟩⟩

set_option maxRecDepth 100000 in
set_option maxHeartbeats 4000000 in
theorem c_X5_press (l : Launch) (d : Nat) (hd : 4 ≤ d) {n : Nat} {w : Nat → AC} {M : Bk} {B : Nat} {b : Bk} {ol : Nat} {p : Nat → Bk} {g : Nat → Nat} {z R q : Nat} {c1 c2 : Bk} (hZ : WX n w b ol (M 5 0) p (M 4) (M 5 1) g z R q c1 c2) (hX : SX M B b ol p) (hBd : B < 800000000) (ky on : Int32) : Sq l yX5_press cX5_press 3 (some .int) d [aR 0, aI ky, aI on] n w (QC (spPr M ky on) (B + 4100) n w) := by
  refine Sp.of (plainFor_of_name (by decide)) (Nat.le_of_ble_eq_true rfl) (fun Γ hΓ hR => ?_)
  show Γ 0 [aR 0, aI ky, aI on] [] (0, 0) n w
  have hF0 : Fr 0 70 w w := Fr.rf
  obtain ⟨hR0, hS, hC, hW, hp6, hG, hT60, hT256⟩ := id hX
  have h8 := hW.2.1
  refine qa_iload_n hΓ dX5_press_0 rfl ?_
  refine qc_S1 hΓ dX5_press_1 lk_X5_104 vw_X5_isKey (by omega) (c_X5_isKey l (d - 1) (by omega) _) rfl rfl (Nat.le_of_ble_eq_true rfl) ?_
  refine qb_if_eq (tgt := 16) hΓ dX5_press_4 (by decide) (fun h_4 => ?_) (fun h_4 => ?_)
  · refine qa_iconst (v := (-1)) hΓ dX5_press_16 ic_m1 ?_
    exact qr_i hR dX5_press_17 ⟨_, rfl, hF0, fun r2 M' h => by unfold spPr at h; rw [if_neg (fun q => by first | exact of_decide_eq_false h_4 q.1 | exact of_decide_eq_false h_13 q.2)] at h; exact ⟨h.1, CW.sm hX hZ h.2⟩⟩
  · refine qa_iload_n hΓ dX5_press_7 rfl ?_
    refine qa_iconst (v := nI 0) hΓ dX5_press_8 ic_0 ?_
    refine qa_iconst (v := nI 1) hΓ dX5_press_9 ic_1 ?_
    refine qc_S1 hΓ dX5_press_10 lk_X5_71 vw_X5_isWithin (by omega) (c_X5_isWithin l (d - 1) _ _ _) rfl rfl (Nat.le_of_ble_eq_true rfl) ?_
    refine qb_if_ne (tgt := 18) hΓ dX5_press_13 (by decide) (fun h_13 => ?_) (fun h_13 => ?_)
    · obtain ⟨ky, hk1, hk2, rfl⟩ := rng (by decide) (of_decide_eq_true h_4) (by decide)
      obtain ⟨on, ho1, ho2, rfl⟩ := rng (by decide) (of_decide_eq_true h_13) (by decide)
      have h256 := hW.1
      have hW1 : Wt (prS (M 0) ky) B := hW.pr (by omega)
      have hbt := Bool.toNat_le1 ((M 0 0).testBit ky)
      refine qa_aload_n hΓ dX5_press_18 rfl ?_
      refine qa_get hΓ dX5_press_19 fk_X5_12 hZ.lt hZ.o rfl ?_
      refine qa_getN hΓ dX5_press_22 fn_X5_107 hZ.now.lt hZ.now.o rfl ?_
      rw [hR0.1.2.2]
      refine qa_iload_n hΓ dX5_press_25 rfl ?_
      refine qc_S1 hΓ dX5_press_26 lk_X5_110 vw_X5_isIn (by omega) (c_X5_isIn l (d - 1) _ _ (by omega) (by omega)) rfl rfl (Nat.le_of_ble_eq_true rfl) ?_
      refine qa_iload_n hΓ dX5_press_29 rfl ?_
      refine qa_iconst (v := nI 1) hΓ dX5_press_30 ic_1 ?_
      refine qz_icmp_ne (tgt := 38) hΓ dX5_press_31 (by decide) (by omega) (by omega) (fun h_31 => ?_) (fun h_31 => ?_)
      · refine qa_iconst (v := nI 0) hΓ dX5_press_38 ic_0 ?_
        refine qz_icmp_ne (tgt := 45) hΓ dX5_press_39 (by decide) (by omega) (by decide) (fun h_39 => ?_) (fun h_39 => ?_)
        · refine qa_aload_n hΓ dX5_press_45 rfl ?_
          refine qa_get hΓ dX5_press_46 fk_X5_19 hZ.lt hZ.o rfl ?_
          refine qa_aload_n hΓ dX5_press_49 rfl ?_
          refine qa_get hΓ dX5_press_50 fk_X5_12 hZ.lt hZ.o rfl ?_
          refine qc_V0q hΓ dX5_press_53 lk_X5_51 vw_X3_save (by omega) (c_X3_save l (d - 1) (by omega) hZ.past hZ.now) rfl hZ.past.lt hZ.past.o rfl rfl (Nat.le_of_ble_eq_true rfl) (fun w hq => ?_)
          obtain ⟨ol', p', hP', hF, hs1, hs2⟩ := hq
          have hZ := hZ.putP hP' hF
          have hF0 := hF0.tr (hF.wide (by omega) (by omega))
          refine qa_aload_n hΓ dX5_press_56 rfl ?_
          refine qa_get hΓ dX5_press_57 fk_X5_12 hZ.lt hZ.o rfl ?_
          refine qa_iload_n hΓ dX5_press_60 rfl ?_
          refine qc_V1q hΓ dX5_press_61 lk_X5_114 vw_X0_turnKey (by omega) (c_X0_turnKey l (d - 1) (by omega) hZ.now hR0 hW (by omega) hS ky (by omega)) rfl hZ.now.lt hZ.now.o rfl rfl (Nat.le_of_ble_eq_true rfl) (fun w hq => ?_)
          obtain ⟨b', hB', hF, hR1, hS1⟩ := hq
          have hZ := hZ.putB hB' hF
          have hF0 := hF0.tr (hF.wide (by omega) (by omega))
          exact qr_i hR dX5_press_64 ⟨_, rfl, hF0, fun r2 M' h => by
            unfold spPr at h
            rw [if_pos ⟨of_decide_eq_true h_4, of_decide_eq_true h_13⟩, tn_nI (show ky < 2147483648 by omega), tn_nI (show on < 2147483648 by omega), if_neg (by omega)] at h
            exact ⟨h.1, CW.op hX hZ hs1 hs2 hR1 hS1 (CC_lks hW1) (hW1.mono (by omega)).lks h.2⟩⟩
        · refine qa_bipush (v := (-2)) hΓ dX5_press_42 bp_m2 ?_
          exact qr_i hR dX5_press_44 ⟨_, rfl, hF0, fun r2 M' h => by
            unfold spPr at h
            rw [if_pos ⟨of_decide_eq_true h_4, of_decide_eq_true h_13⟩, tn_nI (by omega), tn_nI (by omega), if_pos (by omega)] at h
            exact ⟨h.1, CW.sm hX hZ h.2⟩⟩
      · refine qa_iconst (v := nI 1) hΓ dX5_press_34 ic_1 ?_
        refine qa_goto (tgt := 39) hΓ dX5_press_35 (by decide) ?_
        refine qz_icmp_ne (tgt := 45) hΓ dX5_press_39 (by decide) (by omega) (by decide) (fun h_39 => ?_) (fun h_39 => ?_)
        · refine qa_aload_n hΓ dX5_press_45 rfl ?_
          refine qa_get hΓ dX5_press_46 fk_X5_19 hZ.lt hZ.o rfl ?_
          refine qa_aload_n hΓ dX5_press_49 rfl ?_
          refine qa_get hΓ dX5_press_50 fk_X5_12 hZ.lt hZ.o rfl ?_
          refine qc_V0q hΓ dX5_press_53 lk_X5_51 vw_X3_save (by omega) (c_X3_save l (d - 1) (by omega) hZ.past hZ.now) rfl hZ.past.lt hZ.past.o rfl rfl (Nat.le_of_ble_eq_true rfl) (fun w hq => ?_)
          obtain ⟨ol', p', hP', hF, hs1, hs2⟩ := hq
          have hZ := hZ.putP hP' hF
          have hF0 := hF0.tr (hF.wide (by omega) (by omega))
          refine qa_aload_n hΓ dX5_press_56 rfl ?_
          refine qa_get hΓ dX5_press_57 fk_X5_12 hZ.lt hZ.o rfl ?_
          refine qa_iload_n hΓ dX5_press_60 rfl ?_
          refine qc_V1q hΓ dX5_press_61 lk_X5_114 vw_X0_turnKey (by omega) (c_X0_turnKey l (d - 1) (by omega) hZ.now hR0 hW (by omega) hS ky (by omega)) rfl hZ.now.lt hZ.now.o rfl rfl (Nat.le_of_ble_eq_true rfl) (fun w hq => ?_)
          obtain ⟨b', hB', hF, hR1, hS1⟩ := hq
          have hZ := hZ.putB hB' hF
          have hF0 := hF0.tr (hF.wide (by omega) (by omega))
          exact qr_i hR dX5_press_64 ⟨_, rfl, hF0, fun r2 M' h => by
            unfold spPr at h
            rw [if_pos ⟨of_decide_eq_true h_4, of_decide_eq_true h_13⟩, tn_nI (show ky < 2147483648 by omega), tn_nI (show on < 2147483648 by omega), if_neg (by omega)] at h
            exact ⟨h.1, CW.op hX hZ hs1 hs2 hR1 hS1 (CC_lks hW1) (hW1.mono (by omega)).lks h.2⟩⟩
        · refine qa_bipush (v := (-2)) hΓ dX5_press_42 bp_m2 ?_
          exact qr_i hR dX5_press_44 ⟨_, rfl, hF0, fun r2 M' h => by
            unfold spPr at h
            rw [if_pos ⟨of_decide_eq_true h_4, of_decide_eq_true h_13⟩, tn_nI (by omega), tn_nI (by omega), if_pos (by omega)] at h
            exact ⟨h.1, CW.sm hX hZ h.2⟩⟩
    · refine qa_iconst (v := (-1)) hΓ dX5_press_16 ic_m1 ?_
      exact qr_i hR dX5_press_17 ⟨_, rfl, hF0, fun r2 M' h => by unfold spPr at h; rw [if_neg (fun q => by first | exact of_decide_eq_false h_4 q.1 | exact of_decide_eq_false h_13 q.2)] at h; exact ⟨h.1, CW.sm hX hZ h.2⟩⟩

set_option maxRecDepth 100000 in
set_option maxHeartbeats 4000000 in
theorem c_X5_setFault (l : Launch) (d : Nat) (hd : 4 ≤ d) {n : Nat} {w : Nat → AC} {M : Bk} {B : Nat} {b : Bk} {ol : Nat} {p : Nat → Bk} {g : Nat → Nat} {z R q : Nat} {c1 c2 : Bk} (hZ : WX n w b ol (M 5 0) p (M 4) (M 5 1) g z R q c1 c2) (hX : SX M B b ol p) (hBd : B < 800000000) (rl v : Int32) : Sq l yX5_setFault cX5_setFault 4 (some .int) d [aR 0, aI rl, aI v] n w (QC (spPut 6 2 M rl v) (B + 4100) n w) := by
  refine Sp.of (plainFor_of_name (by decide)) (Nat.le_of_ble_eq_true rfl) (fun Γ hΓ hR => ?_)
  show Γ 0 [aR 0, aI rl, aI v, none] [] (0, 0) n w
  have hF0 : Fr 0 70 w w := Fr.rf
  obtain ⟨hR0, hS, hC, hW, hp6, hG, hT60, hT256⟩ := id hX
  have h8 := hW.2.1
  refine qa_aload_n hΓ dX5_setFault_0 rfl ?_
  refine qa_get hΓ dX5_setFault_1 fk_X5_12 hZ.lt hZ.o rfl ?_
  refine qa_iload_n hΓ dX5_setFault_4 rfl ?_
  refine qc_V1 hΓ dX5_setFault_5 lk_X5_59 vw_X0_has (by omega) (c_X0_has l (d - 1) (by omega) hZ.now _) rfl hZ.now.lt hZ.now.o rfl rfl (Nat.le_of_ble_eq_true rfl) ?_
  rw [hR0.1.1]
  refine qb_if_eq (tgt := 20) hΓ dX5_setFault_8 (by decide) (fun h_8 => ?_) (fun h_8 => ?_)
  · refine qa_iconst (v := (-1)) hΓ dX5_setFault_20 ic_m1 ?_
    exact qr_i hR dX5_setFault_21 ⟨_, rfl, hF0, fun r2 M' h => by unfold spPut at h; rw [if_neg (fun q => by first | exact of_decide_eq_false h_8 q.1 | exact of_decide_eq_false h_17 q.2)] at h; exact ⟨h.1, CW.sm hX hZ h.2⟩⟩
  · obtain ⟨r, hr, rfl⟩ := isR_of (by omega) (of_decide_eq_true h_8)
    have tr : tn (nI r) = r := tn_nI (by omega)
    refine qa_iload_n hΓ dX5_setFault_11 rfl ?_
    refine qa_iconst (v := nI 0) hΓ dX5_setFault_12 ic_0 ?_
    refine qa_iconst (v := nI 2) hΓ dX5_setFault_13 ic_2 ?_
    refine qc_S1 hΓ dX5_setFault_14 lk_X5_71 vw_X5_isWithin (by omega) (c_X5_isWithin l (d - 1) _ _ _) rfl rfl (Nat.le_of_ble_eq_true rfl) ?_
    refine qb_if_ne (tgt := 22) hΓ dX5_setFault_17 (by decide) (fun h_17 => ?_) (fun h_17 => ?_)
    · obtain ⟨f, hf1, hf2, rfl⟩ := rng (by decide) (of_decide_eq_true h_17) (by decide)
      have hW1 : Wt (upN (M 0) (ix r 6) f) B := hW.up (by decide) (by simpa [bdF] using hf2)
      refine qa_aload_n hΓ dX5_setFault_22 rfl ?_
      refine qa_get hΓ dX5_setFault_23 fk_X5_19 hZ.lt hZ.o rfl ?_
      refine qa_aload_n hΓ dX5_setFault_26 rfl ?_
      refine qa_get hΓ dX5_setFault_27 fk_X5_12 hZ.lt hZ.o rfl ?_
      refine qc_V0q hΓ dX5_setFault_30 lk_X5_51 vw_X3_save (by omega) (c_X3_save l (d - 1) (by omega) hZ.past hZ.now) rfl hZ.past.lt hZ.past.o rfl rfl (Nat.le_of_ble_eq_true rfl) (fun w hq => ?_)
      obtain ⟨ol', p', hP', hF, hs1, hs2⟩ := hq
      have hZ := hZ.putP hP' hF
      have hF0 := hF0.tr (hF.wide (by omega) (by omega))
      refine qa_aload_n hΓ dX5_setFault_33 rfl ?_
      refine qa_get hΓ dX5_setFault_34 fk_X5_12 hZ.lt hZ.o rfl ?_
      refine qa_iload_n hΓ dX5_setFault_37 rfl ?_
      refine qc_V1 hΓ dX5_setFault_38 lk_X5_117 vw_X0_faultOf (by omega) (c_X0_faultOf l (d - 1) (by omega) hZ.now hR0 hW (by omega) r hr) rfl hZ.now.lt hZ.now.o rfl rfl (Nat.le_of_ble_eq_true rfl) ?_
      refine qa_istore_n hΓ dX5_setFault_41 (by decide) ?_
      refine qa_aload_n hΓ dX5_setFault_42 rfl ?_
      refine qa_get hΓ dX5_setFault_43 fk_X5_12 hZ.lt hZ.o rfl ?_
      refine qa_iload_n hΓ dX5_setFault_46 rfl ?_
      refine qa_iload_n hΓ dX5_setFault_47 rfl ?_
      refine qc_V0q hΓ dX5_setFault_48 lk_X5_120 vw_X0_putFault (by omega) (c_X0_putFault l (d - 1) (by omega) hZ.now hR0 hW (by omega) hS r f hr hf2) rfl hZ.now.lt hZ.now.o rfl rfl (Nat.le_of_ble_eq_true rfl) (fun w hq => ?_)
      obtain ⟨b', hB', hF, hR1, hS1⟩ := hq
      have hZ := hZ.putB hB' hF
      have hF0 := hF0.tr (hF.wide (by omega) (by omega))
      refine qa_iload_n hΓ dX5_setFault_51 rfl ?_
      exact qr_i hR dX5_setFault_52 ⟨_, rfl, hF0, fun r2 M' h => by
        unfold spPut at h
        rw [if_pos ⟨of_decide_eq_true h_8, of_decide_eq_true h_17⟩, tr, tn_nI (show f < 2147483648 by omega)] at h
        exact ⟨h.1, CW.op hX hZ hs1 hs2 hR1 hS1 (CC_lks hW1) (hW1.mono (by omega)).lks h.2⟩⟩
    · refine qa_iconst (v := (-1)) hΓ dX5_setFault_20 ic_m1 ?_
      exact qr_i hR dX5_setFault_21 ⟨_, rfl, hF0, fun r2 M' h => by unfold spPut at h; rw [if_neg (fun q => by first | exact of_decide_eq_false h_8 q.1 | exact of_decide_eq_false h_17 q.2)] at h; exact ⟨h.1, CW.sm hX hZ h.2⟩⟩

set_option maxRecDepth 100000 in
set_option maxHeartbeats 4000000 in
theorem c_X5_step (l : Launch) (d : Nat) (hd : 4 ≤ d) {n : Nat} {w : Nat → AC} {M : Bk} {B : Nat} {b : Bk} {ol : Nat} {p : Nat → Bk} {g : Nat → Nat} {z R q : Nat} {c1 c2 : Bk} (hZ : WX n w b ol (M 5 0) p (M 4) (M 5 1) g z R q c1 c2) (hX : SX M B b ol p) (hBd : B < 800000000) : Sq l yX5_step cX5_step 3 (some .int) d [aR 0] n w (QC (spStep M) (B + 4100) n w) := by
  refine Sp.of (plainFor_of_name (by decide)) (Nat.le_of_ble_eq_true rfl) (fun Γ hΓ hR => ?_)
  show Γ 0 [aR 0, none, none] [] (0, 0) n w
  have hF0 : Fr 0 70 w w := Fr.rf
  obtain ⟨hR0, hS, hC, hW, hp6, hG, hT60, hT256⟩ := id hX
  have h8 := hW.2.1
  refine qa_aload_n hΓ dX5_step_0 rfl ?_
  refine qa_get hΓ dX5_step_1 fk_X5_12 hZ.lt hZ.o rfl ?_
  refine qa_iconst (v := nI 0) hΓ dX5_step_4 ic_0 ?_
  show Γ _ _ (aZ false.toNat :: _) _ _ _
  refine qc_V1 hΓ dX5_step_5 lk_X5_130 vw_X0_nextSlot (by omega) (c_X0_nextSlot l (d - 1) (by omega) hZ.now hR0 hW (by omega) false) rfl hZ.now.lt hZ.now.o rfl rfl (Nat.le_of_ble_eq_true rfl) ?_
  refine qa_istore_n hΓ dX5_step_8 (by decide) ?_
  refine qa_iload_n hΓ dX5_step_9 rfl ?_
  refine qa_iconst (v := -1) hΓ dX5_step_10 ic_m1 ?_
  cases ho : nx (M 0) false with
  | none =>
    refine qa_icmp_ne (tgt := 17) hΓ dX5_step_11 (by decide) (fun h => absurd rfl h) (fun _ => ?_)
    refine qa_bipush (v := (-2)) hΓ dX5_step_14 bp_m2 ?_
    exact qr_i hR dX5_step_16 ⟨_, rfl, hF0, fun r2 M' h => by
      unfold spStep at h
      rw [ho] at h
      exact ⟨h.1, CW.sm hX hZ h.2⟩⟩
  | some e =>
    have he9 := nx_lt ho
    have hsl := sl_lt he9
    refine qa_icmp_ne (tgt := 17) hΓ dX5_step_11 (by decide) (fun _ => ?_) (fun h => absurd h (nI_n1 (by omega)))
    show Γ 17 [aR 0, aZ (slE e), none] [] (0, 0) n w
    refine qa_aload_n hΓ dX5_step_17 rfl ?_
    refine qa_get hΓ dX5_step_18 fk_X5_19 hZ.lt hZ.o rfl ?_
    refine qa_aload_n hΓ dX5_step_21 rfl ?_
    refine qa_get hΓ dX5_step_22 fk_X5_12 hZ.lt hZ.o rfl ?_
    refine qc_V0q hΓ dX5_step_25 lk_X5_51 vw_X3_save (by omega) (c_X3_save l (d - 1) (by omega) hZ.past hZ.now) rfl hZ.past.lt hZ.past.o rfl rfl (Nat.le_of_ble_eq_true rfl) (fun w hq => ?_)
    obtain ⟨ol', p', hP', hF, hs1, hs2⟩ := hq
    have hZ := hZ.putP hP' hF
    have hF0 := hF0.tr (hF.wide (by omega) (by omega))
    refine qa_aload_n hΓ dX5_step_28 rfl ?_
    refine qa_get hΓ dX5_step_29 fk_X5_12 hZ.lt hZ.o rfl ?_
    refine qa_iload_n hΓ dX5_step_32 rfl ?_
    refine qc_V1 hΓ dX5_step_33 lk_X5_134 vw_X0_kindOf (by omega) (c_X0_kindOf l (d - 1) (by omega) hZ.now hR0 hW (by omega) (slE e) (by rw [sl_div]; omega)) rfl hZ.now.lt hZ.now.o rfl rfl (Nat.le_of_ble_eq_true rfl) ?_
    rw [kd_e hS hW he9 (nx_kind ho) (nx_wt ho)]
    refine qa_istore_n hΓ dX5_step_36 (by decide) ?_
    refine qa_aload_n hΓ dX5_step_37 rfl ?_
    refine qa_get hΓ dX5_step_38 fk_X5_12 hZ.lt hZ.o rfl ?_
    refine qa_iload_n hΓ dX5_step_41 rfl ?_
    refine qc_V0q hΓ dX5_step_42 lk_X5_137 vw_X0_happen (by omega) (c_X0_happen l (d - 1) (by omega) hZ.now hR0 hW (by omega) (by omega) hS e he9 (nx_kind ho) (nx_wt ho)) rfl hZ.now.lt hZ.now.o rfl rfl (Nat.le_of_ble_eq_true rfl) (fun w hq => ?_)
    obtain ⟨b', hB', hF, hR1, hS1⟩ := hq
    have hZ := hZ.putB hB' hF
    have hF0 := hF0.tr (hF.wide (by omega) (by omega))
    refine qa_bipush (v := nI 10) hΓ dX5_step_45 bp_10 ?_
    refine qa_iload_n hΓ dX5_step_47 rfl ?_
    refine qc_S1 hΓ dX5_step_48 lk_X5_141 vw_X0_relayOf (by omega) (c_X0_relayOf l (d - 1) _ (by omega)) rfl rfl (Nat.le_of_ble_eq_true rfl) ?_
    rw [sl_div]
    refine qz_imul hΓ dX5_step_51 ?_
    refine qa_iload_n hΓ dX5_step_52 rfl ?_
    refine qz_iadd hΓ dX5_step_53 ?_
    exact qr_i hR dX5_step_54 ⟨_, rfl, hF0, fun r2 M' h => by
      unfold spStep at h
      rw [ho] at h
      exact ⟨h.1, CW.op hX hZ hs1 hs2 hR1 hS1 (CC.hap hW he9) ((hW.hap he9).mono (by omega)) h.2⟩⟩

set_option maxRecDepth 100000 in
set_option maxHeartbeats 4000000 in
theorem c_X5_settle (l : Launch) (d : Nat) (hd : 5 ≤ d) {n : Nat} {w : Nat → AC} {M : Bk} {B : Nat} {b : Bk} {ol : Nat} {p : Nat → Bk} {g : Nat → Nat} {z R q : Nat} {c1 c2 : Bk} (hZ : WX n w b ol (M 5 0) p (M 4) (M 5 1) g z R q c1 c2) (hX : SX M B b ol p) (hBd : B < 800000000) (ev : Int32) : Sq l yX5_settle cX5_settle 2 (some .int) d [aR 0, aI ev] n w (QC (spSettle M ev) (B + 4100) n w) := by
  refine Sp.of (plainFor_of_name (by decide)) (Nat.le_of_ble_eq_true rfl) (fun Γ hΓ hR => ?_)
  show Γ 0 [aR 0, aI ev] [] (0, 0) n w
  have hF0 : Fr 0 70 w w := Fr.rf
  obtain ⟨hR0, hS, hC, hW, hp6, hG, hT60, hT256⟩ := id hX
  have h8 := hW.2.1
  refine qa_iload_n hΓ dX5_settle_0 rfl ?_
  refine qa_iconst (v := nI 1) hΓ dX5_settle_1 ic_1 ?_
  refine qa_sipush (v := nI 200) hΓ dX5_settle_2 sp_200 ?_
  refine qc_S1 hΓ dX5_settle_5 lk_X5_71 vw_X5_isWithin (by omega) (c_X5_isWithin l (d - 1) _ _ _) rfl rfl (Nat.le_of_ble_eq_true rfl) ?_
  refine qb_if_ne (tgt := 13) hΓ dX5_settle_8 (by decide) (fun h_8 => ?_) (fun h_8 => ?_)
  · obtain ⟨ev, he1, he2, rfl⟩ := rng (by decide) (of_decide_eq_true h_8) (by decide)
    refine qa_aload_n hΓ dX5_settle_13 rfl ?_
    refine qa_get hΓ dX5_settle_14 fk_X5_19 hZ.lt hZ.o rfl ?_
    refine qa_aload_n hΓ dX5_settle_17 rfl ?_
    refine qa_get hΓ dX5_settle_18 fk_X5_12 hZ.lt hZ.o rfl ?_
    refine qc_V0q hΓ dX5_settle_21 lk_X5_51 vw_X3_save (by omega) (c_X3_save l (d - 1) (by omega) hZ.past hZ.now) rfl hZ.past.lt hZ.past.o rfl rfl (Nat.le_of_ble_eq_true rfl) (fun w hq => ?_)
    obtain ⟨ol', p', hP', hF, hs1, hs2⟩ := hq
    have hZ := hZ.putP hP' hF
    have hF0 := hF0.tr (hF.wide (by omega) (by omega))
    refine qa_aload_n hΓ dX5_settle_24 rfl ?_
    refine qa_get hΓ dX5_settle_25 fk_X5_12 hZ.lt hZ.o rfl ?_
    refine qa_iload_n hΓ dX5_settle_28 rfl ?_
    refine qa_ldc (v := nI NV) hΓ dX5_settle_29 ck_X5_144 ?_
    refine qa_iconst (v := nI 0) hΓ dX5_settle_31 ic_0 ?_
    show Γ _ _ (aZ false.toNat :: _) _ _ _
    refine qc_V1q hΓ dX5_settle_32 lk_X5_145 vw_X0_run (by omega) (c_X0_run l (d - 1) (by omega) hZ.now hR0 hW (by omega) hS ev NV false (by omega) (by decide)) rfl hZ.now.lt hZ.now.o rfl rfl (Nat.le_of_ble_eq_true rfl) (fun w hq => ?_)
    rw [rnL_st false ev (M 0) B hW (by have : NV = 2147483647 := rfl; omega)] at hq ⊢
    obtain ⟨b', hB', hF, hR1, hS1⟩ := hq
    have hZ := hZ.putB hB' hF
    have hF0 := hF0.tr (hF.wide (by omega) (by omega))
    exact qr_i hR dX5_settle_35 ⟨_, rfl, hF0, fun r2 M' h => by
      unfold spSettle at h
      rw [if_pos (of_decide_eq_true h_8), tn_nI (by omega)] at h
      exact ⟨h.1, CW.op hX hZ hs1 hs2 hR1 hS1 (CC.stl hC hW) (hW.stl.mono (by omega)) h.2⟩⟩
  · refine qa_iconst (v := (-1)) hΓ dX5_settle_11 ic_m1 ?_
    exact qr_i hR dX5_settle_12 ⟨_, rfl, hF0, fun r2 M' h => by unfold spSettle at h; rw [if_neg (fun q => by first | exact of_decide_eq_false h_8 q)] at h; exact ⟨h.1, CW.sm hX hZ h.2⟩⟩
