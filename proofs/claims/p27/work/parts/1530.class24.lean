/-! The class: events told, outcomes, races, hazards -/
theorem nxt_n {s : Nat → Nat} {rev : Bool} : ∀ m, nxt s rev m = none ↔ ∀ e, e < m → wtB s e = false
  | 0 => ⟨fun _ e he => absurd he (by omega), fun _ => rfl⟩
  | m + 1 => by
    have ih := nxt_n (s := s) (rev := rev) m
    unfold nxt
    constructor
    · intro h
      cases ho : nxt s rev m with
      | some q => rw [ho] at h; split at h <;> cases h
      | none =>
        rw [ho] at h
        have hm : wtB s m = false := by
          cases hw : wtB s m with
          | false => rfl
          | true =>
            rw [hw, show ahO s m rev none = true from rfl] at h
            cases h
        intro e he
        rcases Nat.lt_or_ge e m with u | u
        · exact ih.mp ho e u
        · rw [show e = m by omega]
          exact hm
    · intro h
      rw [h m (by omega)]
      exact ih.mpr (fun e he => h e (by omega))
theorem nx_rev (s : Nat → Nat) (rev : Bool) : nx s false = none ↔ nx s rev = none := (nxt_n _).trans (nxt_n _).symm
theorem fd_C {s : Nat → Nat} {b : Bk} {B : Nat} (h : RepC s b) (hW : Wt s B) : b 6 3 = fdS s := h.2.2.1.1.trans (st_pM hW (by decide))
theorem stl1_n {s : Nat → Nat} (h : nx s false = none) : stl s false 1 = (0, s) := stl_none _ h
theorem stl1_s {s : Nat → Nat} {e : Nat} (h : nx s false = some e) : stl s false 1 = (1, hap s e) := by
  rw [stl_some 0 h]
  rfl
set_option maxRecDepth 100000 in
set_option maxHeartbeats 4000000 in
theorem c_X5_event (l : Launch) (d : Nat) (hd : 3 ≤ d) {n : Nat} {w : Nat → AC} {M : Bk} {B : Nat} {b : Bk} {ol : Nat} {p : Nat → Bk} {g : Nat → Nat} {z R q : Nat} {c1 c2 : Bk} (hZ : WX n w b ol (M 5 0) p (M 4) (M 5 1) g z R q c1 c2) (hX : SX M B b ol p) (hBd : B < 800000000) (iv pt : Int32) : Sq l yX5_event cX5_event 4 (some .int) d [aR 0, aI iv, aI pt] n w (QC (spEvent M iv pt) (B + 4100) n w) := by
  refine Sp.of (plainFor_of_name (by decide)) (Nat.le_of_ble_eq_true rfl) (fun Γ hΓ hR => ?_)
  show Γ 0 [aR 0, aI iv, aI pt, none] [] (0, 0) n w
  have hF0 : Fr 0 70 w w := Fr.rf
  obtain ⟨hR0, hS, hC, hW, hp6, hG, hT60, hT256⟩ := id hX
  have h8 := hW.2.1
  refine qa_iload_n hΓ dX5_event_0 rfl ?_
  refine qa_if_lt (tgt := 13) hΓ dX5_event_1 (by decide) (fun h_1 => ?_) (fun h_1 => ?_)
  · refine qa_iconst (v := (-1)) hΓ dX5_event_13 ic_m1 ?_
    exact qr_i hR dX5_event_14 ⟨_, rfl, hF0, fun r2 M' h => by
      unfold spEvent at h
      rw [if_neg (fun q => by first | exact absurd q.1 (Int32.not_le.mpr h_1) | exact of_decide_eq_false h_10 q.2)] at h
      exact ⟨h.1, CW.sm hX hZ h.2⟩⟩
  · refine qa_iload_n hΓ dX5_event_4 rfl ?_
    refine qa_iconst (v := nI 0) hΓ dX5_event_5 ic_0 ?_
    refine qa_iconst (v := nI 2) hΓ dX5_event_6 ic_2 ?_
    refine qc_S1 hΓ dX5_event_7 lk_X5_71 vw_X5_isWithin (by omega) (c_X5_isWithin l (d - 1) _ _ _) rfl rfl (Nat.le_of_ble_eq_true rfl) ?_
    refine qb_if_ne (tgt := 15) hΓ dX5_event_10 (by decide) (fun h_10 => ?_) (fun h_10 => ?_)
    · have hC0 : 0 ≤ iv ∧ (nI 0 ≤ pt ∧ pt ≤ nI 2) := ⟨Int32.not_lt.mp h_1, of_decide_eq_true h_10⟩
      obtain ⟨i, hi9, rfl⟩ := nI_of h_1
      obtain ⟨pt, hp1, hp2, rfl⟩ := rng (by decide) hC0.2 (by decide)
      refine qa_aload_n hΓ dX5_event_15 rfl ?_
      refine qa_get hΓ dX5_event_16 fk_X5_12 hZ.lt hZ.o rfl ?_
      refine qa_iload_n hΓ dX5_event_19 rfl ?_
      refine qc_V1 hΓ dX5_event_20 lk_X5_203 vw_X0_slotAt (by omega) (c_X0_slotAt l (d - 1) (by omega) hZ.now hR0 hW (by omega) (nI i)) rfl hZ.now.lt hZ.now.o rfl rfl (Nat.le_of_ble_eq_true rfl) ?_
      rw [sa_all hR0 hW (by omega) hi9]
      refine qa_istore_n hΓ dX5_event_23 (by decide) ?_
      refine qa_iload_n hΓ dX5_event_24 rfl ?_
      refine qa_iconst (v := -1) hΓ dX5_event_25 ic_m1 ?_
      cases ho : evS (M 0) i (4 * M 0 1) with
      | none =>
        refine qa_icmp_ne (tgt := 32) hΓ dX5_event_26 (by decide) (fun h => absurd rfl h) (fun _ => ?_)
        refine qa_bipush (v := (-9)) hΓ dX5_event_29 bp_m9 ?_
        exact qr_i hR dX5_event_31 ⟨_, rfl, hF0, fun r2 M' h => by
          unfold spEvent at h
          rw [if_pos hC0, tn_nI (by omega), tn_nI (by omega)] at h
          unfold evR at h
          rw [ho] at h
          exact ⟨h.1, CW.sm hX hZ h.2⟩⟩
      | some e =>
        obtain ⟨he9, hwt⟩ := evS_ok ho
        have hk3 := wt_k3 hwt
        have hsl := sl_lt he9
        refine qa_icmp_ne (tgt := 32) hΓ dX5_event_26 (by decide) (fun _ => ?_) (fun h => absurd h (nI_n1 (by omega)))
        show Γ 32 [aR 0, aZ i, aZ pt, aZ (slE e)] [] (0, 0) n w
        refine qa_iload_n hΓ dX5_event_32 rfl ?_
        rcases (show pt = 0 ∨ pt = 1 ∨ pt = 2 by omega) with rfl | rfl | rfl
        · refine qa_lookup (tgt := 60) (off := 27) hΓ dX5_event_33 (by decide) (by decide) (by decide) ?_
          refine qa_aload_n hΓ dX5_event_60 rfl ?_
          refine qa_get hΓ dX5_event_61 fk_X5_12 hZ.lt hZ.o rfl ?_
          refine qa_getN hΓ dX5_event_64 fn_X5_206 hZ.now.lt hZ.now.o rfl ?_
          refine qa_iload_n hΓ dX5_event_67 rfl ?_
          refine qc_S1 hΓ dX5_event_68 lk_X5_176 vw_X5_at (by omega) (c_X5_at l (d - 1) (hZ.now.lti (i := 6) (by decide)) hZ.now.a5 _ (by omega) (by decide)) rfl rfl (Nat.le_of_ble_eq_true rfl) ?_
          rw [du_e hR0 he9 hk3 hwt]
          exact qr_i hR dX5_event_71 ⟨_, rfl, hF0, fun r2 M' h => by
            unfold spEvent at h
            rw [if_pos hC0, tn_nI (by omega), tn_nI (by decide)] at h
            unfold evR at h
            rw [ho] at h
            exact ⟨h.1, CW.sm hX hZ h.2⟩⟩
        · refine qa_lookup (tgt := 72) (off := 39) hΓ dX5_event_33 (by decide) (by decide) (by decide) ?_
          refine qa_iload_n hΓ dX5_event_72 rfl ?_
          refine qc_S1 hΓ dX5_event_73 lk_X5_141 vw_X0_relayOf (by omega) (c_X0_relayOf l (d - 1) _ (by omega)) rfl rfl (Nat.le_of_ble_eq_true rfl) ?_
          rw [sl_div]
          exact qr_i hR dX5_event_76 ⟨_, rfl, hF0, fun r2 M' h => by
            unfold spEvent at h
            rw [if_pos hC0, tn_nI (by omega), tn_nI (by decide)] at h
            unfold evR at h
            rw [ho] at h
            exact ⟨h.1, CW.sm hX hZ h.2⟩⟩
        · refine qa_lookup (tgt := 77) (off := 44) hΓ dX5_event_33 (by decide) (by decide) (by decide) ?_
          refine qa_aload_n hΓ dX5_event_77 rfl ?_
          refine qa_get hΓ dX5_event_78 fk_X5_12 hZ.lt hZ.o rfl ?_
          refine qa_iload_n hΓ dX5_event_81 rfl ?_
          refine qc_V1 hΓ dX5_event_82 lk_X5_134 vw_X0_kindOf (by omega) (c_X0_kindOf l (d - 1) (by omega) hZ.now hR0 hW (by omega) (slE e) (by rw [sl_div]; omega)) rfl hZ.now.lt hZ.now.o rfl rfl (Nat.le_of_ble_eq_true rfl) ?_
          rw [kd_e hS hW he9 hk3 hwt]
          exact qr_i hR dX5_event_85 ⟨_, rfl, hF0, fun r2 M' h => by
            unfold spEvent at h
            rw [if_pos hC0, tn_nI (by omega), tn_nI (by decide)] at h
            unfold evR at h
            rw [ho] at h
            exact ⟨h.1, CW.sm hX hZ h.2⟩⟩
    · refine qa_iconst (v := (-1)) hΓ dX5_event_13 ic_m1 ?_
      exact qr_i hR dX5_event_14 ⟨_, rfl, hF0, fun r2 M' h => by
        unfold spEvent at h
        rw [if_neg (fun q => by first | exact absurd q.1 (Int32.not_le.mpr h_1) | exact of_decide_eq_false h_10 q.2)] at h
        exact ⟨h.1, CW.sm hX hZ h.2⟩⟩

set_option maxRecDepth 100000 in
set_option maxHeartbeats 4000000 in
theorem c_X5_endingOf (l : Launch) (d : Nat) (hd : 5 ≤ d) {n : Nat} {w : Nat → AC} {b : Bk} {ol sz : Nat} {p : Nat → Bk} {T : Nat → Nat} {N : Nat} {g : Nat → Nat} {z R q : Nat} {c1 c2 : Bk} (hZ : WX n w b ol sz p T N g z R q c1 c2) {k : Nat} {c : Bk} {s : Nat → Nat} {B : Nat} (hO : BkAt n w k c) (hk : k + 7 ≤ 63) (hR0 : RepC s c) (hS : SeC s) (hW : Wt s B) (hBd : B + 4100 < 900000000) (m : Nat) (hm : m ≤ 200) (rev : Bool) : Sq l yX5_endingOf cX5_endingOf 4 (some .int) d [aR 0, aR k, aZ m, aZ rev.toNat] n w (Qv (aZ (ndE s rev m)) (fun w' => (∃ b', BkAt n w' 63 b') ∧ Fr 63 7 w w')) := by
  refine Sp.of (plainFor_of_name (by decide)) (Nat.le_of_ble_eq_true rfl) (fun Γ hΓ hR => ?_)
  show Γ 0 [aR 0, aR k, aZ m, aZ rev.toNat] [] (0, 0) n w
  have hT0 : Fr 63 7 w w := Fr.rf
  refine qa_aload_n hΓ dX5_endingOf_0 rfl ?_
  refine qa_get hΓ dX5_endingOf_1 fk_X5_40 hZ.lt hZ.o rfl ?_
  refine qa_aload_n hΓ dX5_endingOf_4 rfl ?_
  refine qc_V0q hΓ dX5_endingOf_5 lk_X5_153 vw_X0_copy (by omega) (c_X0_copy l (d - 1) (by omega) hZ.tri hO (by omega)) rfl hZ.tri.lt hZ.tri.o rfl rfl (Nat.le_of_ble_eq_true rfl) (fun w hq => ?_)
  obtain ⟨b', hB', hF, ht1, ht2⟩ := hq
  have hZ := hZ.putT hB' hF
  have hT0 := hT0.tr hF
  have hRt := hR0.of ht1 ht2
  refine qa_aload_n hΓ dX5_endingOf_8 rfl ?_
  refine qa_get hΓ dX5_endingOf_9 fk_X5_40 hZ.lt hZ.o rfl ?_
  refine qa_iload_n hΓ dX5_endingOf_12 rfl ?_
  refine qa_ldc (v := nI NV) hΓ dX5_endingOf_13 ck_X5_144 ?_
  refine qa_iload_n hΓ dX5_endingOf_15 rfl ?_
  refine qc_V1q hΓ dX5_endingOf_16 lk_X5_145 vw_X0_run (by omega) (c_X0_run l (d - 1) (by omega) hZ.tri hRt hW (by omega) hS m NV rev (by omega) (by decide)) rfl hZ.tri.lt hZ.tri.o rfl rfl (Nat.le_of_ble_eq_true rfl) (fun w hq => ?_)
  rw [rnL_st rev m s B hW (by have : NV = 2147483647 := rfl; omega)] at hq ⊢
  obtain ⟨b2, hB', hF, hR2, hS2⟩ := hq
  have hZ := hZ.putT hB' hF
  have hT0 := hT0.tr hF
  have hWt : Wt (stl s rev m).2 (B + 20 * m) := hW.stl
  refine qa_pop hΓ dX5_endingOf_19 ?_
  refine qa_aload_n hΓ dX5_endingOf_20 rfl ?_
  refine qa_get hΓ dX5_endingOf_21 fk_X5_40 hZ.lt hZ.o rfl ?_
  refine qa_getN hΓ dX5_endingOf_24 fn_X5_163 hZ.tri.lt hZ.tri.o rfl ?_
  rw [hR2.2.2.1.2.1.trans (st_pM hWt (by decide))]
  refine qa_aload_n hΓ dX5_endingOf_27 rfl ?_
  refine qa_get hΓ dX5_endingOf_28 fk_X5_40 hZ.lt hZ.o rfl ?_
  refine qc_V1 hΓ dX5_endingOf_31 lk_X5_217 vw_X0_isQuiet (by omega) (c_X0_isQuiet l (d - 1) (by omega) hZ.tri hR2 hWt (by omega)) rfl hZ.tri.lt hZ.tri.o rfl rfl (Nat.le_of_ble_eq_true rfl) ?_
  refine qb_if_eq (tgt := 43) hΓ dX5_endingOf_34 (by decide) (fun h_34 => ?_) (fun h_34 => ?_)
  · refine qa_iconst (v := nI 0) hΓ dX5_endingOf_43 ic_0 ?_
    refine qz_iadd hΓ dX5_endingOf_44 ?_
    have e9 : ndE s rev m = mk (stB (stl s rev m).2 3) ((stl s rev m).2 1) + 0 := by
      unfold ndE
      rw [if_neg (fun h => of_decide_eq_false h_34 ((nx_rev _ rev).mpr h))]
    exact qr_i hR dX5_endingOf_45 ⟨by rw [e9], ⟨_, hZ.tri⟩, hT0⟩
  · refine qa_sipush (v := nI 256) hΓ dX5_endingOf_37 sp_256 ?_
    refine qa_goto (tgt := 44) hΓ dX5_endingOf_40 (by decide) ?_
    refine qz_iadd hΓ dX5_endingOf_44 ?_
    have e9 : ndE s rev m = mk (stB (stl s rev m).2 3) ((stl s rev m).2 1) + 256 := by
      unfold ndE
      rw [if_pos ((nx_rev _ rev).mp (of_decide_eq_true h_34))]
    exact qr_i hR dX5_endingOf_45 ⟨by rw [e9], ⟨_, hZ.tri⟩, hT0⟩

set_option maxRecDepth 100000 in
set_option maxHeartbeats 4000000 in
theorem c_X5_raceIn (l : Launch) (d : Nat) (hd : 6 ≤ d) {n : Nat} {w : Nat → AC} {b : Bk} {ol sz : Nat} {p : Nat → Bk} {T : Nat → Nat} {N : Nat} {g : Nat → Nat} {z R q : Nat} {c1 c2 : Bk} (hZ : WX n w b ol sz p T N g z R q c1 c2) {k : Nat} {c : Bk} {s : Nat → Nat} {B : Nat} (hO : BkAt n w k c) (hk : k + 7 ≤ 63) (hR0 : RepC s c) (hS : SeC s) (hW : Wt s B) (hBd : B + 4100 < 900000000) : Sq l yX5_raceIn cX5_raceIn 3 (some .int) d [aR 0, aR k] n w (Qv (aZ (rcV s)) (fun w' => (∃ b', BkAt n w' 63 b') ∧ Fr 63 7 w w')) := by
  refine Sp.of (plainFor_of_name (by decide)) (Nat.le_of_ble_eq_true rfl) (fun Γ hΓ hR => ?_)
  show Γ 0 [aR 0, aR k, none] [] (0, 0) n w
  have hT0 : Fr 63 7 w w := Fr.rf
  refine qa_aload_n hΓ dX5_raceIn_0 rfl ?_
  refine qa_aload_n hΓ dX5_raceIn_1 rfl ?_
  refine qa_sipush (v := nI 200) hΓ dX5_raceIn_2 sp_200 ?_
  refine qa_iconst (v := nI 0) hΓ dX5_raceIn_5 ic_0 ?_
  show Γ _ _ (aZ false.toNat :: _) _ _ _
  refine qc_V1q hΓ dX5_raceIn_6 lk_X5_209 vw_X5_endingOf (by omega) (c_X5_endingOf l (d - 1) (by omega) hZ hO (by omega) hR0 hS hW (by omega) 200 (by omega) false) rfl hZ.lt hZ.o rfl rfl (Nat.le_of_ble_eq_true rfl) (fun w hq => ?_)
  obtain ⟨⟨b', hB'⟩, hF⟩ := hq
  have hZ := hZ.putT hB' hF
  have hT0 := hT0.tr hF
  have hO := hO.ofFr hF (by omega)
  refine qa_istore_n hΓ dX5_raceIn_9 (by decide) ?_
  refine qa_iload_n hΓ dX5_raceIn_10 rfl ?_
  refine qa_aload_n hΓ dX5_raceIn_11 rfl ?_
  refine qa_aload_n hΓ dX5_raceIn_12 rfl ?_
  refine qa_sipush (v := nI 200) hΓ dX5_raceIn_13 sp_200 ?_
  refine qa_iconst (v := nI 1) hΓ dX5_raceIn_16 ic_1 ?_
  show Γ _ _ (aZ true.toNat :: _) _ _ _
  refine qc_V1q hΓ dX5_raceIn_17 lk_X5_209 vw_X5_endingOf (by omega) (c_X5_endingOf l (d - 1) (by omega) hZ hO (by omega) hR0 hS hW (by omega) 200 (by omega) true) rfl hZ.lt hZ.o rfl rfl (Nat.le_of_ble_eq_true rfl) (fun w hq => ?_)
  obtain ⟨⟨b', hB'⟩, hF⟩ := hq
  have hZ := hZ.putT hB' hF
  have hT0 := hT0.tr hF
  refine qz_icmp_eq (tgt := 27) hΓ dX5_raceIn_20 (by decide) (by have := ndE_le hW false 200; omega) (by have := ndE_le hW true 200; omega) (fun h_20 => ?_) (fun h_20 => ?_)
  · refine qa_iconst (v := nI 0) hΓ dX5_raceIn_27 ic_0 ?_
    exact qr_i hR dX5_raceIn_28 ⟨by unfold rcV; rw [if_pos h_20], ⟨_, hZ.tri⟩, hT0⟩
  · refine qa_iconst (v := nI 1) hΓ dX5_raceIn_23 ic_1 ?_
    refine qa_goto (tgt := 28) hΓ dX5_raceIn_24 (by decide) ?_
    exact qr_i hR dX5_raceIn_28 ⟨by unfold rcV; rw [if_neg h_20], ⟨_, hZ.tri⟩, hT0⟩

set_option maxRecDepth 100000 in
set_option maxHeartbeats 4000000 in
theorem c_X5_outcome (l : Launch) (d : Nat) (hd : 6 ≤ d) {n : Nat} {w : Nat → AC} {M : Bk} {B : Nat} {b : Bk} {ol : Nat} {p : Nat → Bk} {g : Nat → Nat} {z R q : Nat} {c1 c2 : Bk} (hZ : WX n w b ol (M 5 0) p (M 4) (M 5 1) g z R q c1 c2) (hX : SX M B b ol p) (hBd : B < 800000000) (rv0 ev : Int32) : Sq l yX5_outcome cX5_outcome 3 (some .int) d [aR 0, aI rv0, aI ev] n w (QC (spOut M rv0 ev) (B + 4100) n w) := by
  refine Sp.of (plainFor_of_name (by decide)) (Nat.le_of_ble_eq_true rfl) (fun Γ hΓ hR => ?_)
  show Γ 0 [aR 0, aI rv0, aI ev] [] (0, 0) n w
  have hF0 : Fr 0 70 w w := Fr.rf
  obtain ⟨hR0, hS, hC, hW, hp6, hG, hT60, hT256⟩ := id hX
  have h8 := hW.2.1
  refine qa_iload_n hΓ dX5_outcome_0 rfl ?_
  refine qa_iconst (v := nI 0) hΓ dX5_outcome_1 ic_0 ?_
  refine qa_iconst (v := nI 1) hΓ dX5_outcome_2 ic_1 ?_
  refine qc_S1 hΓ dX5_outcome_3 lk_X5_71 vw_X5_isWithin (by omega) (c_X5_isWithin l (d - 1) _ _ _) rfl rfl (Nat.le_of_ble_eq_true rfl) ?_
  refine qb_if_eq (tgt := 20) hΓ dX5_outcome_6 (by decide) (fun h_6 => ?_) (fun h_6 => ?_)
  · refine qa_iconst (v := (-1)) hΓ dX5_outcome_20 ic_m1 ?_
    exact qr_i hR dX5_outcome_21 ⟨_, rfl, hF0, fun r2 M' h => by unfold spOut at h; rw [if_neg (fun q => by first | exact of_decide_eq_false h_6 q.1 | exact of_decide_eq_false h_17 q.2)] at h; exact ⟨h.1, CW.sm hX hZ h.2⟩⟩
  · refine qa_iload_n hΓ dX5_outcome_9 rfl ?_
    refine qa_iconst (v := nI 1) hΓ dX5_outcome_10 ic_1 ?_
    refine qa_sipush (v := nI 200) hΓ dX5_outcome_11 sp_200 ?_
    refine qc_S1 hΓ dX5_outcome_14 lk_X5_71 vw_X5_isWithin (by omega) (c_X5_isWithin l (d - 1) _ _ _) rfl rfl (Nat.le_of_ble_eq_true rfl) ?_
    refine qb_if_ne (tgt := 22) hΓ dX5_outcome_17 (by decide) (fun h_17 => ?_) (fun h_17 => ?_)
    · obtain ⟨rv, hv1, hv2, rfl⟩ := rng (by decide) (of_decide_eq_true h_6) (by decide)
      obtain ⟨ev, he1, he2, rfl⟩ := rng (by decide) (of_decide_eq_true h_17) (by decide)
      refine qa_aload_n hΓ dX5_outcome_22 rfl ?_
      refine qa_aload_n hΓ dX5_outcome_23 rfl ?_
      refine qa_get hΓ dX5_outcome_24 fk_X5_12 hZ.lt hZ.o rfl ?_
      refine qa_iload_n hΓ dX5_outcome_27 rfl ?_
      refine qa_iload_n hΓ dX5_outcome_28 rfl ?_
      refine qa_iconst (v := nI 1) hΓ dX5_outcome_29 ic_1 ?_
      refine qz_icmp_ne (tgt := 37) hΓ dX5_outcome_30 (by decide) (by omega) (by decide) (fun h_30 => ?_) (fun h_30 => ?_)
      · refine qa_iconst (v := nI 0) hΓ dX5_outcome_37 ic_0 ?_
        show Γ _ _ (aZ false.toNat :: _) _ _ _
        refine qc_V1q hΓ dX5_outcome_38 lk_X5_209 vw_X5_endingOf (by omega) (c_X5_endingOf l (d - 1) (by omega) hZ hZ.now (by omega) hR0 hS hW (by omega) ev (by omega) false) rfl hZ.lt hZ.o rfl rfl (Nat.le_of_ble_eq_true rfl) (fun w hq => ?_)
        obtain ⟨⟨b', hB'⟩, hF⟩ := hq
        have hZ := hZ.putT hB' hF
        have hF0 := hF0.tr (hF.wide (by omega) (by omega))
        exact qr_i hR dX5_outcome_41 ⟨_, rfl, hF0, fun r2 M' h => by
          unfold spOut at h
          rw [if_pos ⟨of_decide_eq_true h_6, of_decide_eq_true h_17⟩, tn_nI (show rv < 2147483648 by omega), tn_nI (show ev < 2147483648 by omega), decide_eq_false h_30] at h
          exact ⟨h.1, CW.sm hX hZ h.2⟩⟩
      · refine qa_iconst (v := nI 1) hΓ dX5_outcome_33 ic_1 ?_
        refine qa_goto (tgt := 38) hΓ dX5_outcome_34 (by decide) ?_
        show Γ _ _ (aZ true.toNat :: _) _ _ _
        refine qc_V1q hΓ dX5_outcome_38 lk_X5_209 vw_X5_endingOf (by omega) (c_X5_endingOf l (d - 1) (by omega) hZ hZ.now (by omega) hR0 hS hW (by omega) ev (by omega) true) rfl hZ.lt hZ.o rfl rfl (Nat.le_of_ble_eq_true rfl) (fun w hq => ?_)
        obtain ⟨⟨b', hB'⟩, hF⟩ := hq
        have hZ := hZ.putT hB' hF
        have hF0 := hF0.tr (hF.wide (by omega) (by omega))
        exact qr_i hR dX5_outcome_41 ⟨_, rfl, hF0, fun r2 M' h => by
          unfold spOut at h
          rw [if_pos ⟨of_decide_eq_true h_6, of_decide_eq_true h_17⟩, tn_nI (show rv < 2147483648 by omega), tn_nI (show ev < 2147483648 by omega), decide_eq_true h_30] at h
          exact ⟨h.1, CW.sm hX hZ h.2⟩⟩
    · refine qa_iconst (v := (-1)) hΓ dX5_outcome_20 ic_m1 ?_
      exact qr_i hR dX5_outcome_21 ⟨_, rfl, hF0, fun r2 M' h => by unfold spOut at h; rw [if_neg (fun q => by first | exact of_decide_eq_false h_6 q.1 | exact of_decide_eq_false h_17 q.2)] at h; exact ⟨h.1, CW.sm hX hZ h.2⟩⟩

set_option maxRecDepth 100000 in
set_option maxHeartbeats 4000000 in
theorem c_X5_isRace (l : Launch) (d : Nat) (hd : 7 ≤ d) {n : Nat} {w : Nat → AC} {M : Bk} {B : Nat} {b : Bk} {ol : Nat} {p : Nat → Bk} {g : Nat → Nat} {z R q : Nat} {c1 c2 : Bk} (hZ : WX n w b ol (M 5 0) p (M 4) (M 5 1) g z R q c1 c2) (hX : SX M B b ol p) (hBd : B < 800000000) : Sq l yX5_isRace cX5_isRace 1 (some .int) d [aR 0] n w (QC (spRace M) (B + 4100) n w) := by
  refine Sp.of (plainFor_of_name (by decide)) (Nat.le_of_ble_eq_true rfl) (fun Γ hΓ hR => ?_)
  show Γ 0 [aR 0] [] (0, 0) n w
  have hF0 : Fr 0 70 w w := Fr.rf
  obtain ⟨hR0, hS, hC, hW, hp6, hG, hT60, hT256⟩ := id hX
  have h8 := hW.2.1
  refine qa_aload_n hΓ dX5_isRace_0 rfl ?_
  refine qa_aload_n hΓ dX5_isRace_1 rfl ?_
  refine qa_get hΓ dX5_isRace_2 fk_X5_12 hZ.lt hZ.o rfl ?_
  refine qc_V1q hΓ dX5_isRace_5 lk_X5_213 vw_X5_raceIn (by omega) (c_X5_raceIn l (d - 1) (by omega) hZ hZ.now (by decide) hR0 hS hW (by omega)) rfl hZ.lt hZ.o rfl rfl (Nat.le_of_ble_eq_true rfl) (fun w hq => ?_)
  obtain ⟨⟨b', hB'⟩, hF⟩ := hq
  have hZ := hZ.putT hB' hF
  have hF0 := hF0.tr (hF.wide (by omega) (by omega))
  exact qr_i hR dX5_isRace_8 ⟨_, rfl, hF0, fun r2 M' h => ⟨h.1, CW.sm hX hZ h.2⟩⟩

