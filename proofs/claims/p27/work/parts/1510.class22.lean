/-! The class: sticking, passing time, texts, undo -/
set_option maxRecDepth 100000 in
set_option maxHeartbeats 4000000 in
theorem c_X5_stick (l : Launch) (d : Nat) (hd : 3 ≤ d) {n : Nat} {w : Nat → AC} {M : Bk} {B : Nat} {b : Bk} {ol : Nat} {p : Nat → Bk} {g : Nat → Nat} {z R q : Nat} {c1 c2 : Bk} (hZ : WX n w b ol (M 5 0) p (M 4) (M 5 1) g z R q c1 c2) (hX : SX M B b ol p) (hBd : B < 800000000) (rl v : Int32) : Sq l yX5_stick cX5_stick 4 (some .int) d [aR 0, aI rl, aI v] n w (QC (spPut 7 1 M rl v) (B + 4100) n w) := by
  refine Sp.of (plainFor_of_name (by decide)) (Nat.le_of_ble_eq_true rfl) (fun Γ hΓ hR => ?_)
  show Γ 0 [aR 0, aI rl, aI v, none] [] (0, 0) n w
  have hF0 : Fr 0 70 w w := Fr.rf
  obtain ⟨hR0, hS, hC, hW, hp6, hG, hT60, hT256⟩ := id hX
  have h8 := hW.2.1
  refine qa_aload_n hΓ dX5_stick_0 rfl ?_
  refine qa_get hΓ dX5_stick_1 fk_X5_12 hZ.lt hZ.o rfl ?_
  refine qa_iload_n hΓ dX5_stick_4 rfl ?_
  refine qc_V1 hΓ dX5_stick_5 lk_X5_59 vw_X0_has (by omega) (c_X0_has l (d - 1) (by omega) hZ.now _) rfl hZ.now.lt hZ.now.o rfl rfl (Nat.le_of_ble_eq_true rfl) ?_
  rw [hR0.1.1]
  refine qb_if_eq (tgt := 20) hΓ dX5_stick_8 (by decide) (fun h_8 => ?_) (fun h_8 => ?_)
  · refine qa_iconst (v := (-1)) hΓ dX5_stick_20 ic_m1 ?_
    exact qr_i hR dX5_stick_21 ⟨_, rfl, hF0, fun r2 M' h => by unfold spPut at h; rw [if_neg (fun q => by first | exact of_decide_eq_false h_8 q.1 | exact of_decide_eq_false h_17 q.2)] at h; exact ⟨h.1, CW.sm hX hZ h.2⟩⟩
  · obtain ⟨r, hr, rfl⟩ := isR_of (by omega) (of_decide_eq_true h_8)
    have tr : tn (nI r) = r := tn_nI (by omega)
    refine qa_iload_n hΓ dX5_stick_11 rfl ?_
    refine qa_iconst (v := nI 0) hΓ dX5_stick_12 ic_0 ?_
    refine qa_iconst (v := nI 1) hΓ dX5_stick_13 ic_1 ?_
    refine qc_S1 hΓ dX5_stick_14 lk_X5_71 vw_X5_isWithin (by omega) (c_X5_isWithin l (d - 1) _ _ _) rfl rfl (Nat.le_of_ble_eq_true rfl) ?_
    refine qb_if_ne (tgt := 22) hΓ dX5_stick_17 (by decide) (fun h_17 => ?_) (fun h_17 => ?_)
    · obtain ⟨f, hf1, hf2, rfl⟩ := rng (by decide) (of_decide_eq_true h_17) (by decide)
      have hW1 : Wt (upN (M 0) (ix r 7) f) B := hW.up (by decide) (by simpa [bdF] using hf2)
      have e66 := hR0.2.2.1.2.2.2.1
      have hbs : b 6 6 < 65536 := by rw [e66]; exact mk_16' _ h8
      have hbr : 1 <<< r < 65536 := by rw [Nat.one_shiftLeft]; exact Nat.pow_lt_pow_right (a := 2) (n := 16) (by decide) (by omega)
      refine qa_aload_n hΓ dX5_stick_22 rfl ?_
      refine qa_get hΓ dX5_stick_23 fk_X5_19 hZ.lt hZ.o rfl ?_
      refine qa_aload_n hΓ dX5_stick_26 rfl ?_
      refine qa_get hΓ dX5_stick_27 fk_X5_12 hZ.lt hZ.o rfl ?_
      refine qc_V0q hΓ dX5_stick_30 lk_X5_51 vw_X3_save (by omega) (c_X3_save l (d - 1) (by omega) hZ.past hZ.now) rfl hZ.past.lt hZ.past.o rfl rfl (Nat.le_of_ble_eq_true rfl) (fun w hq => ?_)
      obtain ⟨ol', p', hP', hF, hs1, hs2⟩ := hq
      have hZ := hZ.putP hP' hF
      have hF0 := hF0.tr (hF.wide (by omega) (by omega))
      refine qa_aload_n hΓ dX5_stick_33 rfl ?_
      refine qa_get hΓ dX5_stick_34 fk_X5_12 hZ.lt hZ.o rfl ?_
      refine qa_getN hΓ dX5_stick_37 fn_X5_124 hZ.now.lt hZ.now.o rfl ?_
      refine qa_iload_n hΓ dX5_stick_40 rfl ?_
      refine qc_S1 hΓ dX5_stick_41 lk_X5_127 vw_X5_bitOf (by omega) (c_X5_bitOf l (d - 1) _ _ (by omega) (by omega)) rfl rfl (Nat.le_of_ble_eq_true rfl) ?_
      rw [pbit hW hr (by decide) e66]
      refine qa_istore_n hΓ dX5_stick_44 (by decide) ?_
      refine qa_aload_n hΓ dX5_stick_45 rfl ?_
      refine qa_get hΓ dX5_stick_46 fk_X5_12 hZ.lt hZ.o rfl ?_
      refine qa_iload_n hΓ dX5_stick_49 rfl ?_
      refine qa_iconst (v := nI 1) hΓ dX5_stick_50 ic_1 ?_
      refine qz_icmp_ne (tgt := 68) hΓ dX5_stick_51 (by decide) (by omega) (by decide) (fun h_51 => ?_) (fun h_51 => ?_)
      · refine qa_aload_n hΓ dX5_stick_68 rfl ?_
        refine qa_get hΓ dX5_stick_69 fk_X5_12 hZ.lt hZ.o rfl ?_
        refine qa_getN hΓ dX5_stick_72 fn_X5_124 hZ.now.lt hZ.now.o rfl ?_
        refine qa_iconst (v := nI 1) hΓ dX5_stick_75 ic_1 ?_
        refine qa_iload_n hΓ dX5_stick_76 rfl ?_
        refine qz_ishl hΓ dX5_stick_77 (by omega) ?_
        refine qa_iconst (v := -1) hΓ dX5_stick_78 ic_m1 ?_
        refine qa_ixor hΓ dX5_stick_79 ?_
        refine qa_iand hΓ dX5_stick_80 ?_
        rw [andn_int hbs]
        show Γ 81 _ (aZ (andn (b 6 6) (1 <<< r)) :: _) _ _ _
        have hxx : andn (b 6 6) (1 <<< r) = mk (pM (upN (M 0) (ix r 7) f) 7 1) (M 0 1) := by rw [e66]; exact mk_clr h8 (fun i hi => by unfold pM; by_cases e : i = r; (rw [if_pos e, e, vv_same]; exact decide_eq_false (by omega)); (rw [if_neg e, vv_oth _ _ _ _ _ _ (by decide) (by decide) (Or.inl e)]))
        refine qB_putN (x := _) hΓ 6 dX5_stick_81 fn_X5_124 (by decide) hZ.now (fun w hB' hF => ?_)
        have hZ := hZ.putB hB' hF
        have hF0 := hF0.tr (hF.wide (by omega) (by omega))
        refine qa_iload_n hΓ dX5_stick_84 rfl ?_
        exact qr_i hR dX5_stick_85 ⟨_, rfl, hF0, fun r2 M' h => by
          unfold spPut at h
          rw [if_pos ⟨of_decide_eq_true h_8, of_decide_eq_true h_17⟩, tr, tn_nI (show f < 2147483648 by omega), (hC.stk hW).lks] at h
          exact ⟨h.1, CW.op hX hZ hs1 hs2 (hR0.stk hW hxx) (hS.col (by decide) (by decide)) (hC.stk hW) (hW1.mono (by omega)) h.2⟩⟩
      · refine qa_aload_n hΓ dX5_stick_54 rfl ?_
        refine qa_get hΓ dX5_stick_55 fk_X5_12 hZ.lt hZ.o rfl ?_
        refine qa_getN hΓ dX5_stick_58 fn_X5_124 hZ.now.lt hZ.now.o rfl ?_
        refine qa_iconst (v := nI 1) hΓ dX5_stick_61 ic_1 ?_
        refine qa_iload_n hΓ dX5_stick_62 rfl ?_
        refine qz_ishl hΓ dX5_stick_63 (by omega) ?_
        refine qz_ior hΓ dX5_stick_64 ?_
        refine qa_goto (tgt := 81) hΓ dX5_stick_65 (by decide) ?_
        have hxx : b 6 6 ||| 1 <<< r = mk (pM (upN (M 0) (ix r 7) f) 7 1) (M 0 1) := by rw [e66]; exact mk_or hr (fun i hi => by unfold pM; by_cases e : i = r; (rw [if_pos e, e, vv_same]; exact decide_eq_true (by omega)); (rw [if_neg e, vv_oth _ _ _ _ _ _ (by decide) (by decide) (Or.inl e)]))
        refine qB_putN (x := _) hΓ 6 dX5_stick_81 fn_X5_124 (by decide) hZ.now (fun w hB' hF => ?_)
        have hZ := hZ.putB hB' hF
        have hF0 := hF0.tr (hF.wide (by omega) (by omega))
        refine qa_iload_n hΓ dX5_stick_84 rfl ?_
        exact qr_i hR dX5_stick_85 ⟨_, rfl, hF0, fun r2 M' h => by
          unfold spPut at h
          rw [if_pos ⟨of_decide_eq_true h_8, of_decide_eq_true h_17⟩, tr, tn_nI (show f < 2147483648 by omega), (hC.stk hW).lks] at h
          exact ⟨h.1, CW.op hX hZ hs1 hs2 (hR0.stk hW hxx) (hS.col (by decide) (by decide)) (hC.stk hW) (hW1.mono (by omega)) h.2⟩⟩
    · refine qa_iconst (v := (-1)) hΓ dX5_stick_20 ic_m1 ?_
      exact qr_i hR dX5_stick_21 ⟨_, rfl, hF0, fun r2 M' h => by unfold spPut at h; rw [if_neg (fun q => by first | exact of_decide_eq_false h_8 q.1 | exact of_decide_eq_false h_17 q.2)] at h; exact ⟨h.1, CW.sm hX hZ h.2⟩⟩

set_option maxRecDepth 100000 in
set_option maxHeartbeats 4000000 in
theorem c_X5_pass (l : Launch) (d : Nat) (hd : 5 ≤ d) {n : Nat} {w : Nat → AC} {M : Bk} {B : Nat} {b : Bk} {ol : Nat} {p : Nat → Bk} {g : Nat → Nat} {z R q : Nat} {c1 c2 : Bk} (hZ : WX n w b ol (M 5 0) p (M 4) (M 5 1) g z R q c1 c2) (hX : SX M B b ol p) (hBd : B < 800000000) (tk : Int32) : Sq l yX5_pass cX5_pass 4 (some .int) d [aR 0, aI tk] n w (QC (spPass M tk) (B + 4100) n w) := by
  refine Sp.of (plainFor_of_name (by decide)) (Nat.le_of_ble_eq_true rfl) (fun Γ hΓ hR => ?_)
  show Γ 0 [aR 0, aI tk, none, none] [] (0, 0) n w
  have hF0 : Fr 0 70 w w := Fr.rf
  obtain ⟨hR0, hS, hC, hW, hp6, hG, hT60, hT256⟩ := id hX
  have h8 := hW.2.1
  refine qa_iload_n hΓ dX5_pass_0 rfl ?_
  refine qa_iconst (v := nI 1) hΓ dX5_pass_1 ic_1 ?_
  refine qa_sipush (v := nI 1000) hΓ dX5_pass_2 sp_1000 ?_
  refine qc_S1 hΓ dX5_pass_5 lk_X5_71 vw_X5_isWithin (by omega) (c_X5_isWithin l (d - 1) _ _ _) rfl rfl (Nat.le_of_ble_eq_true rfl) ?_
  refine qb_if_ne (tgt := 13) hΓ dX5_pass_8 (by decide) (fun h_8 => ?_) (fun h_8 => ?_)
  · obtain ⟨t, he1, he2, rfl⟩ := rng (by decide) (of_decide_eq_true h_8) (by decide)
    have h2B := hW.2.2.1
    refine qa_aload_n hΓ dX5_pass_13 rfl ?_
    refine qa_get hΓ dX5_pass_14 fk_X5_12 hZ.lt hZ.o rfl ?_
    refine qa_getN hΓ dX5_pass_17 fn_X5_149 hZ.now.lt hZ.now.o rfl ?_
    rw [hR0.1.2.1]
    refine qa_iload_n hΓ dX5_pass_20 rfl ?_
    refine qz_iadd hΓ dX5_pass_21 ?_
    refine qa_istore_n hΓ dX5_pass_22 (by decide) ?_
    refine qa_iload_n hΓ dX5_pass_23 rfl ?_
    refine qa_ldc (v := nI 100000) hΓ dX5_pass_24 ck_X5_152 ?_
    refine qz_icmp_le (tgt := 32) hΓ dX5_pass_26 (by decide) (by omega) (by omega) (fun h_26 => ?_) (fun h_26 => ?_)
    · refine qa_aload_n hΓ dX5_pass_32 rfl ?_
      refine qa_get hΓ dX5_pass_33 fk_X5_40 hZ.lt hZ.o rfl ?_
      refine qa_aload_n hΓ dX5_pass_36 rfl ?_
      refine qa_get hΓ dX5_pass_37 fk_X5_12 hZ.lt hZ.o rfl ?_
      refine qc_V0q hΓ dX5_pass_40 lk_X5_153 vw_X0_copy (by omega) (c_X0_copy l (d - 1) (by omega) hZ.tri hZ.now (by decide)) rfl hZ.tri.lt hZ.tri.o rfl rfl (Nat.le_of_ble_eq_true rfl) (fun w hq => ?_)
      obtain ⟨b', hB', hF, ht1, ht2⟩ := hq
      have hZ := hZ.putT hB' hF
      have hF0 := hF0.tr (hF.wide (by omega) (by omega))
      have hRt := hR0.of ht1 ht2
      refine qa_aload_n hΓ dX5_pass_43 rfl ?_
      refine qa_get hΓ dX5_pass_44 fk_X5_40 hZ.lt hZ.o rfl ?_
      refine qa_sipush (v := nI 201) hΓ dX5_pass_47 sp_201 ?_
      refine qa_iload_n hΓ dX5_pass_50 rfl ?_
      refine qa_iconst (v := nI 0) hΓ dX5_pass_51 ic_0 ?_
      show Γ _ _ (aZ false.toNat :: _) _ _ _
      refine qc_V1q hΓ dX5_pass_52 lk_X5_145 vw_X0_run (by omega) (c_X0_run l (d - 1) (by omega) hZ.tri hRt hW (by omega) hS 201 (M 0 2 + t) false (by omega) (by omega)) rfl hZ.tri.lt hZ.tri.o rfl rfl (Nat.le_of_ble_eq_true rfl) (fun w hq => ?_)
      rw [rnL_ps] at hq ⊢
      obtain ⟨b2, hB', hF, hR2, hS2⟩ := hq
      have hZ := hZ.putT hB' hF
      have hF0 := hF0.tr (hF.wide (by omega) (by omega))
      have hWp := hW.psL (then_ := M 0 2 + t) (m := 201)
      have hps := psL_le (M 0 2 + t) 201 (M 0)
      refine qa_istore_n hΓ dX5_pass_55 (by decide) ?_
      refine qa_iload_n hΓ dX5_pass_56 rfl ?_
      refine qa_sipush (v := nI 200) hΓ dX5_pass_57 sp_200 ?_
      refine qz_icmp_le (tgt := 66) hΓ dX5_pass_60 (by decide) (by omega) (by omega) (fun h_60 => ?_) (fun h_60 => ?_)
      · refine qa_aload_n hΓ dX5_pass_66 rfl ?_
        refine qa_get hΓ dX5_pass_67 fk_X5_19 hZ.lt hZ.o rfl ?_
        refine qa_aload_n hΓ dX5_pass_70 rfl ?_
        refine qa_get hΓ dX5_pass_71 fk_X5_12 hZ.lt hZ.o rfl ?_
        refine qc_V0q hΓ dX5_pass_74 lk_X5_51 vw_X3_save (by omega) (c_X3_save l (d - 1) (by omega) hZ.past hZ.now) rfl hZ.past.lt hZ.past.o rfl rfl (Nat.le_of_ble_eq_true rfl) (fun w hq => ?_)
        obtain ⟨ol', p', hP', hF, hs1, hs2⟩ := hq
        have hZ := hZ.putP hP' hF
        have hF0 := hF0.tr (hF.wide (by omega) (by omega))
        refine qa_aload_n hΓ dX5_pass_77 rfl ?_
        refine qa_get hΓ dX5_pass_78 fk_X5_12 hZ.lt hZ.o rfl ?_
        refine qa_aload_n hΓ dX5_pass_81 rfl ?_
        refine qa_get hΓ dX5_pass_82 fk_X5_40 hZ.lt hZ.o rfl ?_
        refine qc_V0q hΓ dX5_pass_85 lk_X5_153 vw_X0_copy (by omega) (c_X0_copy l (d - 1) (by omega) hZ.now hZ.tri (by decide)) rfl hZ.now.lt hZ.now.o rfl rfl (Nat.le_of_ble_eq_true rfl) (fun w hq => ?_)
        obtain ⟨b3, hB', hF, hc1, hc2⟩ := hq
        have hZ := hZ.putB hB' hF
        have hF0 := hF0.tr (hF.wide (by omega) (by omega))
        refine qa_aload_n hΓ dX5_pass_88 rfl ?_
        refine qa_get hΓ dX5_pass_89 fk_X5_12 hZ.lt hZ.o rfl ?_
        refine qa_iload_n hΓ dX5_pass_92 rfl ?_
        refine qB_putN (x := _) hΓ 1 dX5_pass_93 fn_X5_149 (by decide) hZ.now (fun w hB' hF => ?_)
        have hZ := hZ.putB hB' hF
        have hF0 := hF0.tr (hF.wide (by omega) (by omega))
        refine qa_iload_n hΓ dX5_pass_96 rfl ?_
        exact qr_i hR dX5_pass_97 ⟨_, rfl, hF0, fun r2 M' h => by
          unfold spPass at h
          rw [if_pos (of_decide_eq_true h_8), tn_nI (by omega), if_neg (by omega), if_neg (by omega)] at h
          exact ⟨h.1, CW.op hX hZ hs1 hs2 (RepC.time (hR2.of hc1 hc2) hWp) (hS2.head (Or.inr rfl)) ((hC.psL hW).time hWp) ((hWp.mono (show _ ≤ B + 4100 by omega)).time (by omega)) h.2⟩⟩
      · refine qa_bipush (v := (-3)) hΓ dX5_pass_63 bp_m3 ?_
        exact qr_i hR dX5_pass_65 ⟨_, rfl, hF0, fun r2 M' h => by
          unfold spPass at h
          rw [if_pos (of_decide_eq_true h_8), tn_nI (by omega), if_neg (by omega), if_pos (by omega)] at h
          exact ⟨h.1, CW.sm hX hZ h.2⟩⟩
    · refine qa_bipush (v := (-3)) hΓ dX5_pass_29 bp_m3 ?_
      exact qr_i hR dX5_pass_31 ⟨_, rfl, hF0, fun r2 M' h => by
        unfold spPass at h
        rw [if_pos (of_decide_eq_true h_8), tn_nI (by omega), if_pos (by omega)] at h
        exact ⟨h.1, CW.sm hX hZ h.2⟩⟩
  · refine qa_iconst (v := (-1)) hΓ dX5_pass_11 ic_m1 ?_
    exact qr_i hR dX5_pass_12 ⟨_, rfl, hF0, fun r2 M' h => by unfold spPass at h; rw [if_neg (fun q => by first | exact of_decide_eq_false h_8 q)] at h; exact ⟨h.1, CW.sm hX hZ h.2⟩⟩

/-- the model's undo -/
def unM (M : Bk) : Bk := if M 5 0 = 0 then M else rset (bset M 5 0 (M 5 0 - 1)) 0 (pst M (M 5 0 - 1))
def spUndo (M : Bk) (r : Int32) (M' : Bk) : Prop := r = (if M 5 0 = 0 then -2 else nI (M 5 0 - 1)) ∧ M' = unM M
theorem CW.un {n : Nat} {w : Nat → AC} {M : Bk} {B : Nat} {b b' : Bk} {ol : Nat} {p : Nat → Bk} {g : Nat → Nat} {z R q : Nat} {c1 c2 : Bk} (hX : SX M B b ol p) (hZ : WX n w b' ol (M 5 0 - 1) p (M 4) (M 5 1) g z R q c1 c2) (h0 : 0 < M 5 0) (hs : SamB b' (p ((ol + (M 5 0 - 1)) % 6))) : CW (unM M) (B + 4100) n w := by
  obtain ⟨k1, k2, k3, k4, k5, k6, k7, k8⟩ := hX
  obtain ⟨g1, g2, g3, g4⟩ := k6 (M 5 0 - 1) (by omega)
  have e : unM M = rset (bset M 5 0 (M 5 0 - 1)) 0 (pst M (M 5 0 - 1)) := by unfold unM; rw [if_neg (by omega)]
  have e0 : unM M 0 = pst M (M 5 0 - 1) := by rw [e, rset_eq]
  have e5 : unM M 5 = upN (M 5) 0 (M 5 0 - 1) := by rw [e, rset_ne _ _ (by decide), bset_eq]
  have e4 : unM M 4 = M 4 := by rw [e, rset_ne _ _ (by decide), bset_ne _ _ _ (by decide)]
  have e1 : unM M 1 = M 1 := by rw [e, rset_ne _ _ (by decide), bset_ne _ _ _ (by decide)]
  have e50 : unM M 5 0 = M 5 0 - 1 := by rw [e5, upN_self]
  have e51 : unM M 5 1 = M 5 1 := by rw [e5, upN_ne _ _ _ (by decide)]
  refine ⟨b', ol, p, g, z, R, q, c1, c2, by rw [e50, e4, e51]; exact hZ, ?_⟩
  unfold SX
  rw [e0, e50, e51, e4]
  refine ⟨g1.of hs.1 hs.2, g2, g3, g4.mono (by omega), by omega, fun i hi => ?_, k7, k8⟩
  have ep : pst (unM M) i = pst M i := by unfold pst; rw [e1]
  rw [ep]
  exact (k6 i (by omega)).mono (by omega)
set_option maxRecDepth 100000 in
set_option maxHeartbeats 4000000 in
theorem c_X5_undo (l : Launch) (d : Nat) (hd : 3 ≤ d) {n : Nat} {w : Nat → AC} {M : Bk} {B : Nat} {b : Bk} {ol : Nat} {p : Nat → Bk} {g : Nat → Nat} {z R q : Nat} {c1 c2 : Bk} (hZ : WX n w b ol (M 5 0) p (M 4) (M 5 1) g z R q c1 c2) (hX : SX M B b ol p) (hBd : B < 800000000) : Sq l yX5_undo cX5_undo 1 (some .int) d [aR 0] n w (QC (spUndo M) (B + 4100) n w) := by
  refine Sp.of (plainFor_of_name (by decide)) (Nat.le_of_ble_eq_true rfl) (fun Γ hΓ hR => ?_)
  show Γ 0 [aR 0] [] (0, 0) n w
  have hF0 : Fr 0 70 w w := Fr.rf
  obtain ⟨hR0, hS, hC, hW, hp6, hG, hT60, hT256⟩ := id hX
  have h8 := hW.2.1
  have hZ0 := hZ
  refine qa_aload_n hΓ dX5_undo_0 rfl ?_
  refine qa_get hΓ dX5_undo_1 fk_X5_19 hZ.lt hZ.o rfl ?_
  refine qa_aload_n hΓ dX5_undo_4 rfl ?_
  refine qa_get hΓ dX5_undo_5 fk_X5_12 hZ.lt hZ.o rfl ?_
  refine qc_V hΓ dX5_undo_8 lk_X5_224 vw_X3_restore (by omega) (c_X3_restore l (d - 1) (by omega) hZ.past hZ.now) rfl hZ.past.lt hZ.past.o rfl rfl (Nat.le_of_ble_eq_true rfl) (fun r w' h9 => ?_)
  obtain ⟨rb, rfl, hq1, hq2, hq3⟩ := h9
  subst hq1
  show Γ 11 _ (aZ (decide (0 < M 5 0)).toNat :: []) _ _ _
  refine qb_if_eq (tgt := 24) hΓ dX5_undo_11 (by decide) (fun h_11 => ?_) (fun h_11 => ?_)
  · refine qa_bipush (v := (-2)) hΓ dX5_undo_24 bp_m2 ?_
    have hzr : M 5 0 = 0 := by have := of_decide_eq_false h_11; omega
    have hww := hq2 hzr
    subst hww
    exact qr_i hR dX5_undo_26 ⟨_, rfl, Fr.rf, fun r2 M' h => by
      obtain ⟨hh1, rfl⟩ := h
      rw [if_pos hzr] at hh1
      exact ⟨hh1, CW.sm hX hZ0 (by unfold unM; rw [if_pos hzr]; exact Sm.rf M)⟩⟩
  · have hpos : 0 < M 5 0 := of_decide_eq_true h_11
    obtain ⟨b', u1, u2, u3, u4⟩ := hq3 hpos
    have hZ := hZ.putBP u2 u1 u4
    have hF0 : Fr 0 70 w w' := u4.wide (by omega) (by omega)
    refine qa_aload_n hΓ dX5_undo_14 rfl ?_
    refine qa_get hΓ dX5_undo_15 fk_X5_19 hZ.lt hZ.o rfl ?_
    refine qa_getN hΓ dX5_undo_18 fn_X5_172 hZ.past.lt hZ.past.o rfl ?_
    refine qa_goto (tgt := 26) hΓ dX5_undo_21 (by decide) ?_
    exact qr_i hR dX5_undo_26 ⟨_, rfl, hF0, fun r2 M' h => by
      obtain ⟨hh1, rfl⟩ := h
      rw [if_neg (by omega)] at hh1
      exact ⟨hh1, CW.un hX hZ hpos u3⟩⟩
