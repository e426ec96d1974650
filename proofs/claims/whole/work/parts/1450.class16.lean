/-! The class: a text read -/
set_option maxRecDepth 100000 in
set_option maxHeartbeats 4000000 in
theorem c_X2_take (l : Launch) (d : Nat) (hd : 5 ≤ d) {n k : Nat} {w : Nat → AC} {g : Nat → Nat} {z R p : Nat} (hQ : RdAt n w k g z R p) (hR8 : R ≤ 8) (hz6 : z ≤ 6) (hg : ∀ j, j < 6 → g j < 4294967296) (hp5 : p ≤ 5) (hz1 : p = 2 ∨ p = 3 → 1 ≤ z) (c : Nat) (hc : c < 65536) : Sq l yX2_take cX2_take 2 (some .boolean) d [aR k, aZ c] n w (Qb (RT n k R (tk R (p, z, g) c) w)) := by
  refine Sp.of (plainFor_of_name (by decide)) (Nat.le_of_ble_eq_true rfl) (fun Γ hΓ hR => ?_)
  show Γ 0 [aR k, aZ c] [] (0, 0) n w
  rcases (show p = 0 ∨ p = 1 ∨ p = 2 ∨ p = 3 ∨ p = 4 ∨ p = 5 by omega) with rfl | rfl | rfl | rfl | rfl | rfl
  · refine qa_aload_n hΓ dX2_take_0 rfl ?_
    refine qa_get hΓ dX2_take_1 fk_X2_22 hQ.lt hQ.o rfl ?_
    refine qa_tabIn (tgt := 40) (off := 36) hΓ dX2_take_4 (by decide) (by decide) (by decide) (by decide) ?_
    refine qa_iload_n hΓ dX2_take_40 rfl ?_
    refine qa_bipush (v := nI 48) hΓ dX2_take_41 bp_48 ?_
    refine qz_icmp_ne (tgt := 54) hΓ dX2_take_43 (by decide) (by omega) (by decide) (fun h_43 => ?_) (fun h_43 => ?_)
    · refine qa_aload_n hΓ dX2_take_54 rfl ?_
      refine qa_iload_n hΓ dX2_take_55 rfl ?_
      refine qc_V1b hΓ dX2_take_56 lk_X2_42 vw_X2_beginBranch (by omega) (c_X2_beginBranch l (d - 1) (by omega) hQ hR8 hz6 hg c hc) rfl hQ.lt hQ.o rfl rfl (Nat.le_of_ble_eq_true rfl) (fun b w hq => ?_)
      have e9 : tk R (0, z, g) c = tkB R z g c := by show (if c = 48 then _ else _) = _; rw [if_neg h_43]
      exact qr_b hR dX2_take_59 ⟨b, rfl, by rw [e9]; exact hq⟩
    · refine qa_aload_n hΓ dX2_take_46 rfl ?_
      refine qa_iconst (v := nI 5) hΓ dX2_take_47 ic_5 ?_
      refine qc_V1q hΓ dX2_take_48 lk_X2_38 vw_X2_goTo (by omega) (c_X2_goTo l (d - 1) hQ 5) rfl hQ.lt hQ.o rfl rfl (Nat.le_of_ble_eq_true rfl) (fun w hq => ?_)
      obtain ⟨hQ, hF⟩ := hq
      refine qa_goto (tgt := 59) hΓ dX2_take_51 (by decide) ?_
      have e9 : tk R (0, z, g) c = some (5, z, g) := by show (if c = 48 then _ else _) = _; rw [if_pos h_43]
      refine qr_b (p := true) hR dX2_take_59 ⟨true, rfl, g, z, 5, hQ, hF, hz6, hg, by rw [e9]; rfl, fun st hst => ?_⟩
      rw [e9] at hst
      cases hst
      rfl
  · refine qa_aload_n hΓ dX2_take_0 rfl ?_
    refine qa_get hΓ dX2_take_1 fk_X2_22 hQ.lt hQ.o rfl ?_
    refine qa_tabIn (tgt := 60) (off := 56) hΓ dX2_take_4 (by decide) (by decide) (by decide) (by decide) ?_
    refine qa_aload_n hΓ dX2_take_60 rfl ?_
    refine qa_iload_n hΓ dX2_take_61 rfl ?_
    refine qc_V1b hΓ dX2_take_62 lk_X2_42 vw_X2_beginBranch (by omega) (c_X2_beginBranch l (d - 1) (by omega) hQ hR8 hz6 hg c hc) rfl hQ.lt hQ.o rfl rfl (Nat.le_of_ble_eq_true rfl) (fun b w hq => ?_)
    have e9 : tk R (1, z, g) c = tkB R z g c := rfl
    exact qr_b hR dX2_take_65 ⟨b, rfl, by rw [e9]; exact hq⟩
  · refine qa_aload_n hΓ dX2_take_0 rfl ?_
    refine qa_get hΓ dX2_take_1 fk_X2_22 hQ.lt hQ.o rfl ?_
    refine qa_tabIn (tgt := 66) (off := 62) hΓ dX2_take_4 (by decide) (by decide) (by decide) (by decide) ?_
    refine qa_iload_n hΓ dX2_take_66 rfl ?_
    refine qa_bipush (v := nI 43) hΓ dX2_take_67 bp_43 ?_
    refine qz_icmp_ne (tgt := 80) hΓ dX2_take_69 (by decide) (by omega) (by decide) (fun h_69 => ?_) (fun h_69 => ?_)
    · refine qa_aload_n hΓ dX2_take_80 rfl ?_
      refine qa_iload_n hΓ dX2_take_81 rfl ?_
      refine qc_V1b hΓ dX2_take_82 lk_X2_45 vw_X2_beginCondition (by omega) (c_X2_beginCondition l (d - 1) (by omega) hQ hR8 hz6 hg (hz1 (by omega)) c hc) rfl hQ.lt hQ.o rfl rfl (Nat.le_of_ble_eq_true rfl) (fun b w hq => ?_)
      have e9 : tk R (2, z, g) c = tkC R z g c := by show (if c = 43 then _ else _) = _; rw [if_neg h_69]
      exact qr_b hR dX2_take_85 ⟨b, rfl, by rw [e9]; exact hq⟩
    · refine qa_aload_n hΓ dX2_take_72 rfl ?_
      refine qa_iconst (v := nI 1) hΓ dX2_take_73 ic_1 ?_
      refine qc_V1q hΓ dX2_take_74 lk_X2_38 vw_X2_goTo (by omega) (c_X2_goTo l (d - 1) hQ 1) rfl hQ.lt hQ.o rfl rfl (Nat.le_of_ble_eq_true rfl) (fun w hq => ?_)
      obtain ⟨hQ, hF⟩ := hq
      refine qa_goto (tgt := 85) hΓ dX2_take_77 (by decide) ?_
      have e9 : tk R (2, z, g) c = some (1, z, g) := by show (if c = 43 then _ else _) = _; rw [if_pos h_69]
      refine qr_b (p := true) hR dX2_take_85 ⟨true, rfl, g, z, 1, hQ, hF, hz6, hg, by rw [e9]; rfl, fun st hst => ?_⟩
      rw [e9] at hst
      cases hst
      rfl
  · refine qa_aload_n hΓ dX2_take_0 rfl ?_
    refine qa_get hΓ dX2_take_1 fk_X2_22 hQ.lt hQ.o rfl ?_
    refine qa_tabIn (tgt := 86) (off := 82) hΓ dX2_take_4 (by decide) (by decide) (by decide) (by decide) ?_
    refine qa_aload_n hΓ dX2_take_86 rfl ?_
    refine qa_iload_n hΓ dX2_take_87 rfl ?_
    refine qa_iconst (v := nI 2) hΓ dX2_take_88 ic_2 ?_
    refine qc_V1b hΓ dX2_take_89 lk_X2_48 vw_X2_takeLetter (by omega) (c_X2_takeLetter l (d - 1) (by omega) hQ hR8 hz6 hg (hz1 (by omega)) c 2 hc (by omega)) rfl hQ.lt hQ.o rfl rfl (Nat.le_of_ble_eq_true rfl) (fun b w hq => ?_)
    have e9 : tk R (3, z, g) c = tkL R z g c 2 := rfl
    exact qr_b hR dX2_take_92 ⟨b, rfl, by rw [e9]; exact hq⟩
  · refine qa_aload_n hΓ dX2_take_0 rfl ?_
    refine qa_get hΓ dX2_take_1 fk_X2_22 hQ.lt hQ.o rfl ?_
    refine qa_tabIn (tgt := 93) (off := 89) hΓ dX2_take_4 (by decide) (by decide) (by decide) (by decide) ?_
    refine qa_iload_n hΓ dX2_take_93 rfl ?_
    refine qa_bipush (v := nI 43) hΓ dX2_take_94 bp_43 ?_
    refine qz_icmp_ne (tgt := 111) hΓ dX2_take_96 (by decide) (by omega) (by decide) (fun h_96 => ?_) (fun h_96 => ?_)
    · refine qa_iconst (v := nI 0) hΓ dX2_take_111 ic_0 ?_
      have e9 : tk R (4, z, g) c = none := by show (if c = 43 then _ else _) = _; rw [if_neg h_96]
      exact qr_b (p := false) hR dX2_take_112 ⟨false, rfl, g, z, _, hQ, Fr.rf, hz6, hg, by rw [e9]; rfl, fun st hst => by rw [e9] at hst; cases hst⟩
    · refine qa_aload_n hΓ dX2_take_99 rfl ?_
      refine qa_iconst (v := nI 1) hΓ dX2_take_100 ic_1 ?_
      refine qc_V1q hΓ dX2_take_101 lk_X2_38 vw_X2_goTo (by omega) (c_X2_goTo l (d - 1) hQ 1) rfl hQ.lt hQ.o rfl rfl (Nat.le_of_ble_eq_true rfl) (fun w hq => ?_)
      obtain ⟨hQ, hF⟩ := hq
      refine qb_if_eq (tgt := 111) hΓ dX2_take_104 (by decide) (fun h => absurd h (by decide)) (fun _ => ?_)
      refine qa_iconst (v := nI 1) hΓ dX2_take_107 ic_1 ?_
      refine qa_goto (tgt := 112) hΓ dX2_take_108 (by decide) ?_
      have e9 : tk R (4, z, g) c = some (1, z, g) := by show (if c = 43 then _ else _) = _; rw [if_pos h_96]
      refine qr_b (p := true) hR dX2_take_112 ⟨true, rfl, g, z, 1, hQ, hF, hz6, hg, by rw [e9]; rfl, fun st hst => ?_⟩
      rw [e9] at hst
      cases hst
      rfl
  · refine qa_aload_n hΓ dX2_take_0 rfl ?_
    refine qa_get hΓ dX2_take_1 fk_X2_22 hQ.lt hQ.o rfl ?_
    refine qa_tabOut (tgt := 113) hΓ dX2_take_4 (by decide) (by decide) ?_
    refine qa_iconst (v := nI 0) hΓ dX2_take_113 ic_0 ?_
    have e9 : tk R (5, z, g) c = none := rfl
    exact qr_b (p := false) hR dX2_take_114 ⟨false, rfl, g, z, _, hQ, Fr.rf, hz6, hg, by rw [e9]; rfl, fun st hst => by rw [e9] at hst; cases hst⟩

