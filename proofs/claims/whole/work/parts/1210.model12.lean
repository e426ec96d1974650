/-! The model: questions that are tried out -/
def spOut (M : Bk) (rv ev : Int32) (r : Int32) (M' : Bk) : Prop := (if (nI 0 ≤ rv ∧ rv ≤ nI 1) ∧ (nI 1 ≤ ev ∧ ev ≤ nI 200) then r = nI (ndE (M 0) (decide (tn rv = 1)) (tn ev)) else r = -1) ∧ Sm M M'
def rcV (s : Nat → Nat) : Nat := if ndE s false 200 = ndE s true 200 then 0 else 1
def spRace (M : Bk) (r : Int32) (M' : Bk) : Prop := r = nI (rcV (M 0)) ∧ Sm M M'
def spRaceBy (M : Bk) (ky : Int32) (r : Int32) (M' : Bk) : Prop := (if nI 0 ≤ ky ∧ ky ≤ nI 7 then r = nI (rcV (lks (prS (M 0) (tn ky))).2) else r = -1) ∧ Sm M M'
theorem keepR {M M1 M2 : Bk} {t : Nat → Nat} (h1 : M1 = rset M 2 (M 0)) (hU : Mup M1 t M2) : Sm M (rset M2 0 (M2 2)) := by
  have e2 : M2 2 = M 0 := by rw [hU.2.1 2 (by decide) (by decide), h1, rset_eq]
  refine ⟨by rw [rset_eq, e2], ?_, ?_, ?_, ?_⟩
  · rw [rset_ne _ _ (by decide), hU.2.1 1 (by decide) (by decide), h1, rset_ne _ _ (by decide)]
  · rw [rset_ne _ _ (by decide), hU.2.2.1, h1, rset_ne _ _ (by decide)]
  · rw [rset_ne _ _ (by decide), hU.2.1 4 (by decide) (by decide), h1, rset_ne _ _ (by decide)]
  · rw [rset_ne _ _ (by decide), hU.2.2.2.1, h1, rset_ne _ _ (by decide)]
theorem keepU {M M1 : Bk} (h1 : M1 = rset M 2 (M 0)) : Mup M1 (M 0) M1 := by
  have := Mup.rf M1
  rw [show M1 0 = M 0 by rw [h1, rset_ne _ _ (by decide)]] at this
  exact this
theorem Mup.row3 {M0 M1 : Bk} {s : Nat → Nat} (h : Mup M0 s M1) (f : Nat → Nat) : Mup (rset M0 3 f) s (rset M1 3 f) := by
  refine ⟨by rw [rset_ne _ _ (by decide)]; exact h.1, fun a h1 h2 => ?_, ?_, ?_, ?_⟩
  · by_cases e : a = 3
    · subst e; rw [rset_eq, rset_eq]
    · rw [rset_ne _ _ e, rset_ne _ _ e]; exact h.2.1 a h1 h2
  · rw [rset_ne _ _ (by decide), rset_ne _ _ (by decide)]; exact h.2.2.1
  · rw [rset_ne _ _ (by decide), rset_ne _ _ (by decide)]; exact h.2.2.2.1
  · rw [rset_ne _ _ (by decide), rset_ne _ _ (by decide)]; exact h.2.2.2.2
theorem keepR3 {M M1 M2 : Bk} {t f : Nat → Nat} (h1 : M1 = rset M 2 (M 0)) (hU : Mup (rset M1 3 f) t M2) : Sm M (rset M2 0 (M2 2)) := by
  have e2 : M2 2 = M 0 := by rw [hU.2.1 2 (by decide) (by decide), rset_ne _ _ (by decide), h1, rset_eq]
  refine ⟨by rw [rset_eq, e2], ?_, ?_, ?_, ?_⟩
  · rw [rset_ne _ _ (by decide), hU.2.1 1 (by decide) (by decide), rset_ne _ _ (by decide), h1, rset_ne _ _ (by decide)]
  · rw [rset_ne _ _ (by decide), hU.2.2.1, rset_ne _ _ (by decide), h1, rset_ne _ _ (by decide)]
  · rw [rset_ne _ _ (by decide), hU.2.1 4 (by decide) (by decide), rset_ne _ _ (by decide), h1, rset_ne _ _ (by decide)]
  · rw [rset_ne _ _ (by decide), hU.2.2.2.1, rset_ne _ _ (by decide), h1, rset_ne _ _ (by decide)]
set_option maxRecDepth 100000 in
set_option maxHeartbeats 4000000 in
theorem c_X6_outcome (l : Launch) (d : Nat) (hd : 6 ≤ d) {n k : Nat} {w : Nat → AC} {M : Bk} (hM : MdAt n w k M) {B : Nat} (hW : Wt (M 0) B) (hB : B < 900000000) (rv ev : Int32) : Sq l yX6_outcome cX6_outcome 4 (some .int) d [aR k, aI rv, aI ev] n w (QM (spOut M rv ev) n k w) := by
  refine Sp.of (plainFor_of_name (by decide)) (Nat.le_of_ble_eq_true rfl) (fun Γ hΓ hR => ?_)
  show Γ 0 [aR k, aI rv, aI ev, none] [] (0, 0) n w
  refine qa_iload_n hΓ dX6_outcome_0 rfl ?_
  refine qa_iconst (v := nI 0) hΓ dX6_outcome_1 ic_0 ?_
  refine qa_iconst (v := nI 1) hΓ dX6_outcome_2 ic_1 ?_
  refine qc_S1 hΓ dX6_outcome_3 lk_X6_33 vw_X6_in (by omega) (c_X6_in l (d - 1) _ _ _) rfl rfl (Nat.le_of_ble_eq_true rfl) ?_
  refine qb_if_eq (tgt := 20) hΓ dX6_outcome_6 (by decide) (fun h_6 => ?_) (fun h_6 => ?_)
  · refine qa_iconst (v := (-1)) hΓ dX6_outcome_20 ic_m1 ?_
    exact qr_i hR dX6_outcome_21 ⟨-1, M, rfl, hM, Fr.rf, by unfold spOut; rw [if_neg (fun q => by first | exact of_decide_eq_false h_6 q.1 | exact of_decide_eq_false h_17 q.2)]; exact ⟨rfl, Sm.rf M⟩⟩
  · refine qa_iload_n hΓ dX6_outcome_9 rfl ?_
    refine qa_iconst (v := nI 1) hΓ dX6_outcome_10 ic_1 ?_
    refine qa_sipush (v := nI 200) hΓ dX6_outcome_11 sp_200 ?_
    refine qc_S1 hΓ dX6_outcome_14 lk_X6_33 vw_X6_in (by omega) (c_X6_in l (d - 1) _ _ _) rfl rfl (Nat.le_of_ble_eq_true rfl) ?_
    refine qb_if_ne (tgt := 22) hΓ dX6_outcome_17 (by decide) (fun h_17 => ?_) (fun h_17 => ?_)
    · have hC : (nI 0 ≤ rv ∧ rv ≤ nI 1) ∧ (nI 1 ≤ ev ∧ ev ≤ nI 200) := ⟨of_decide_eq_true h_6, of_decide_eq_true h_17⟩
      obtain ⟨rv, hr1, hr2, rfl⟩ := rng (by decide) hC.1 (by decide)
      obtain ⟨ev, he1, he2, rfl⟩ := rng (by decide) hC.2 (by decide)
      refine qa_aload_n hΓ dX6_outcome_22 rfl ?_
      refine qc_V0q hΓ dX6_outcome_23 lk_X6_118 vw_X6_keeps (by omega) (c_X6_keeps l (d - 1) hM) rfl hM.lt hM.o rfl rfl (Nat.le_of_ble_eq_true rfl) (fun w hq => ?_)
      obtain ⟨hM, hF0⟩ := hq
      obtain ⟨M1, hM, hK⟩ : ∃ X, MdAt n w k X ∧ X = rset M 2 (M 0) := ⟨_, hM, rfl⟩
      have hU := keepU hK
      refine qa_aload_n hΓ dX6_outcome_26 rfl ?_
      refine qa_iload_n hΓ dX6_outcome_27 rfl ?_
      refine qa_iconst (v := nI 1) hΓ dX6_outcome_28 ic_1 ?_
      refine qz_icmp_ne (tgt := 36) hΓ dX6_outcome_29 (by decide) (by omega) (by decide) (fun h_29 => ?_) (fun h_29 => ?_)
      · refine qa_iconst (v := nI 0) hΓ dX6_outcome_36 ic_0 ?_
        refine qa_iload_n hΓ dX6_outcome_37 rfl ?_
        refine qc_V1q hΓ dX6_outcome_38 lk_X6_138 vw_X6_ends (by omega) (c_X6_ends l (d - 1) (by omega) hM (by rw [hU.1]; exact hW) false ev (by omega) (by omega)) rfl hM.lt hM.o rfl rfl (Nat.le_of_ble_eq_true rfl) (fun w hq => ?_)
        obtain ⟨M2, hM, hU2, hF⟩ := hq
        have hF0 := hF0.tr hF
        rw [hU.1] at hU2 ⊢
        have hU := hU.tr hU2
        refine qa_istore_n hΓ dX6_outcome_41 (by decide) ?_
        refine qa_aload_n hΓ dX6_outcome_42 rfl ?_
        refine qc_V0q hΓ dX6_outcome_43 lk_X6_141 vw_X6_restores (by omega) (c_X6_restores l (d - 1) hM) rfl hM.lt hM.o rfl rfl (Nat.le_of_ble_eq_true rfl) (fun w hq => ?_)
        obtain ⟨hM, hF⟩ := hq
        have hF0 := hF0.tr hF
        refine qa_iload_n hΓ dX6_outcome_46 rfl ?_
        exact qr_i hR dX6_outcome_47 ⟨_, _, rfl, hM, hF0, by
          unfold spOut
          rw [if_pos hC, tn_nI (by omega), tn_nI (by omega), show decide (rv = 1) = false from decide_eq_false h_29]
          exact ⟨rfl, keepR hK hU⟩⟩
      · refine qa_iconst (v := nI 1) hΓ dX6_outcome_32 ic_1 ?_
        refine qa_goto (tgt := 37) hΓ dX6_outcome_33 (by decide) ?_
        refine qa_iload_n hΓ dX6_outcome_37 rfl ?_
        refine qc_V1q hΓ dX6_outcome_38 lk_X6_138 vw_X6_ends (by omega) (c_X6_ends l (d - 1) (by omega) hM (by rw [hU.1]; exact hW) true ev (by omega) (by omega)) rfl hM.lt hM.o rfl rfl (Nat.le_of_ble_eq_true rfl) (fun w hq => ?_)
        obtain ⟨M2, hM, hU2, hF⟩ := hq
        have hF0 := hF0.tr hF
        rw [hU.1] at hU2 ⊢
        have hU := hU.tr hU2
        refine qa_istore_n hΓ dX6_outcome_41 (by decide) ?_
        refine qa_aload_n hΓ dX6_outcome_42 rfl ?_
        refine qc_V0q hΓ dX6_outcome_43 lk_X6_141 vw_X6_restores (by omega) (c_X6_restores l (d - 1) hM) rfl hM.lt hM.o rfl rfl (Nat.le_of_ble_eq_true rfl) (fun w hq => ?_)
        obtain ⟨hM, hF⟩ := hq
        have hF0 := hF0.tr hF
        refine qa_iload_n hΓ dX6_outcome_46 rfl ?_
        exact qr_i hR dX6_outcome_47 ⟨_, _, rfl, hM, hF0, by
          unfold spOut
          rw [if_pos hC, tn_nI (by omega), tn_nI (by omega), show decide (rv = 1) = true from decide_eq_true h_29]
          exact ⟨rfl, keepR hK hU⟩⟩
    · refine qa_iconst (v := (-1)) hΓ dX6_outcome_20 ic_m1 ?_
      exact qr_i hR dX6_outcome_21 ⟨-1, M, rfl, hM, Fr.rf, by unfold spOut; rw [if_neg (fun q => by first | exact of_decide_eq_false h_6 q.1 | exact of_decide_eq_false h_17 q.2)]; exact ⟨rfl, Sm.rf M⟩⟩

set_option maxRecDepth 100000 in
set_option maxHeartbeats 4000000 in
theorem c_X6_isRace (l : Launch) (d : Nat) (hd : 7 ≤ d) {n k : Nat} {w : Nat → AC} {M : Bk} (hM : MdAt n w k M) {B : Nat} (hW : Wt (M 0) B) (hB : B < 900000000) : Sq l yX6_isRace cX6_isRace 1 (some .int) d [aR k] n w (QM (spRace M) n k w) := by
  refine Sp.of (plainFor_of_name (by decide)) (Nat.le_of_ble_eq_true rfl) (fun Γ hΓ hR => ?_)
  show Γ 0 [aR k] [] (0, 0) n w
  refine qa_aload_n hΓ dX6_isRace_0 rfl ?_
  refine qc_V1q hΓ dX6_isRace_1 lk_X6_144 vw_X6_races (by omega) (c_X6_races l (d - 1) (by omega) hM hW (by omega)) rfl hM.lt hM.o rfl rfl (Nat.le_of_ble_eq_true rfl) (fun w hq => ?_)
  obtain ⟨M1, hM, hU, hF⟩ := hq
  exact qr_i hR dX6_isRace_4 ⟨_, M1, rfl, hM, hF, rfl, hU.1, (hU.2.1 1 (by decide) (by decide)).trans (rset_ne _ _ (by decide)), hU.2.2.1.trans (by rw [rset_ne _ _ (by decide)]), (hU.2.1 4 (by decide) (by decide)).trans (rset_ne _ _ (by decide)), hU.2.2.2.1.trans (by rw [rset_ne _ _ (by decide)])⟩

set_option maxRecDepth 100000 in
set_option maxHeartbeats 4000000 in
theorem c_X6_raceBy (l : Launch) (d : Nat) (hd : 7 ≤ d) {n k : Nat} {w : Nat → AC} {M : Bk} (hM : MdAt n w k M) {B : Nat} (hW : Wt (M 0) B) (hB : B < 900000000) (ky : Int32) : Sq l yX6_raceBy cX6_raceBy 3 (some .int) d [aR k, aI ky] n w (QM (spRaceBy M ky) n k w) := by
  refine Sp.of (plainFor_of_name (by decide)) (Nat.le_of_ble_eq_true rfl) (fun Γ hΓ hR => ?_)
  show Γ 0 [aR k, aI ky, none] [] (0, 0) n w
  refine qa_iload_n hΓ dX6_raceBy_0 rfl ?_
  refine qa_iconst (v := nI 0) hΓ dX6_raceBy_1 ic_0 ?_
  refine qa_bipush (v := nI 7) hΓ dX6_raceBy_2 bp_7 ?_
  refine qc_S1 hΓ dX6_raceBy_4 lk_X6_33 vw_X6_in (by omega) (c_X6_in l (d - 1) _ _ _) rfl rfl (Nat.le_of_ble_eq_true rfl) ?_
  refine qb_if_ne (tgt := 12) hΓ dX6_raceBy_7 (by decide) (fun h_7 => ?_) (fun h_7 => ?_)
  · have hC : nI 0 ≤ ky ∧ ky ≤ nI 7 := of_decide_eq_true h_7
    obtain ⟨ky, hk1, hk2, rfl⟩ := rng (by decide) hC (by decide)
    have hW1 : Wt (prS (M 0) ky) B := hW.pr (by omega)
    refine qa_aload_n hΓ dX6_raceBy_12 rfl ?_
    refine qc_V0q hΓ dX6_raceBy_13 lk_X6_118 vw_X6_keeps (by omega) (c_X6_keeps l (d - 1) hM) rfl hM.lt hM.o rfl rfl (Nat.le_of_ble_eq_true rfl) (fun w hq => ?_)
    obtain ⟨hM, hF0⟩ := hq
    obtain ⟨M1, hM, hK⟩ : ∃ X, MdAt n w k X ∧ X = rset M 2 (M 0) := ⟨_, hM, rfl⟩
    have hU := keepU hK
    obtain ⟨M9, hM9⟩ : ∃ X, X = M1 := ⟨_, rfl⟩
    have hU : Mup M9 (M 0) M1 := hM9 ▸ hU
    rw [← hM9] at hK
    refine qa_aload_n hΓ dX6_raceBy_16 rfl ?_
    refine qa_get hΓ dX6_raceBy_17 fk_X6_7 hM.lt hM.o rfl ?_
    refine qa_iconst (v := nI 0) hΓ dX6_raceBy_20 ic_0 ?_
    refine qa_dup2 hΓ dX6_raceBy_21 ?_
    refine qz_iald hΓ dX6_raceBy_22 (hM.lti (i := 1) (by decide)) hM.a0 (by omega) (by decide) ?_
    refine qa_iconst (v := nI 1) hΓ dX6_raceBy_23 ic_1 ?_
    refine qa_iload_n hΓ dX6_raceBy_24 rfl ?_
    refine qz_ishl hΓ dX6_raceBy_25 (by omega) ?_
    refine qz_ixor hΓ dX6_raceBy_26 ?_
    refine qM_ast hΓ (N := 203) 0 (by decide) rfl rfl dX6_raceBy_27 hM (by omega) (fun w hM hF => ?_)
    have hF0 := hF0.tr hF
    rw [hU.1] at hM
    obtain ⟨M1, hM, hU⟩ := Mup.setE hM hU
    refine qa_aload_n hΓ dX6_raceBy_28 rfl ?_
    refine qa_dup hΓ dX6_raceBy_29 ?_
    refine qa_get hΓ dX6_raceBy_30 fk_X6_65 hM.lt hM.o rfl ?_
    refine qa_aload_n hΓ dX6_raceBy_33 rfl ?_
    refine qc_V1q hΓ dX6_raceBy_34 lk_X6_68 vw_X6_looks (by omega) (c_X6_looks l (d - 1) (by omega) hM (by rw [hU.1]; exact hW1) (by omega)) rfl hM.lt hM.o rfl rfl (Nat.le_of_ble_eq_true rfl) (fun w hq => ?_)
    obtain ⟨M2, hM, hU2, hF⟩ := hq
    have hF0 := hF0.tr hF
    have hUo := hU
    have hU := hU.lookE hU2
    refine qz_iadd hΓ dX6_raceBy_37 ?_
    refine qM_put hΓ 2 dX6_raceBy_38 fk_X6_65 (by decide) hM (fun w hM hF => ?_)
    have hF0 := hF0.tr hF
    obtain ⟨M1, hM, hU⟩ := Mup.chgE hM hU
    refine qa_aload_n hΓ dX6_raceBy_41 rfl ?_
    refine qc_V1q hΓ dX6_raceBy_42 lk_X6_144 vw_X6_races (by omega) (c_X6_races l (d - 1) (by omega) hM (by rw [hU.1]; exact hW1.lks) (by omega)) rfl hM.lt hM.o rfl rfl (Nat.le_of_ble_eq_true rfl) (fun w hq => ?_)
    obtain ⟨M2, hM, hU2, hF⟩ := hq
    have hF0 := hF0.tr hF
    rw [hU.1] at hU2 ⊢
    have hU := (hU.row3 _).tr hU2
    refine qa_istore_n hΓ dX6_raceBy_45 (by decide) ?_
    refine qa_aload_n hΓ dX6_raceBy_46 rfl ?_
    refine qc_V0q hΓ dX6_raceBy_47 lk_X6_141 vw_X6_restores (by omega) (c_X6_restores l (d - 1) hM) rfl hM.lt hM.o rfl rfl (Nat.le_of_ble_eq_true rfl) (fun w hq => ?_)
    obtain ⟨hM, hF⟩ := hq
    have hF0 := hF0.tr hF
    refine qa_iload_n hΓ dX6_raceBy_50 rfl ?_
    exact qr_i hR dX6_raceBy_51 ⟨_, _, rfl, hM, hF0, by
      unfold spRaceBy
      rw [if_pos hC, tn_nI (by omega)]
      exact ⟨rfl, keepR3 hK hU⟩⟩
  · refine qa_iconst (v := (-1)) hΓ dX6_raceBy_10 ic_m1 ?_
    exact qr_i hR dX6_raceBy_11 ⟨-1, M, rfl, hM, Fr.rf, by unfold spRaceBy; rw [if_neg (fun q => of_decide_eq_false h_7 q)]; exact ⟨rfl, Sm.rf M⟩⟩

