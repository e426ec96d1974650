/-! The class: copies of banks, and the rest of a bank -/
theorem BkAt.setR {n k : Nat} {w : Nat → AC} {b : Bk} (h : BkAt n w k b) (i : Nat) (f : Nat → Nat) (hi : i < 6) {k1 N : Nat} (hk : k1 = k + 1 + i) (hN : N = bkL i) : BkAt n (upw w k1 (zA N f)) k (rset b i f) ∧ Fr k 7 w (upw w k1 (zA N f)) := by
  subst hk hN
  refine ⟨⟨h.1, ?_, fun i' hi' => ?_⟩, Fr.up (by omega) (by omega)⟩
  · rw [upw_ne _ _ _ (by omega), h.2.1]
    have e : rset b i f 6 = b 6 := rset_ne _ _ (by omega)
    unfold bkObj
    rw [e]
  · by_cases e : i' = i
    · subst e
      rw [upw_self, rset_eq]
    · rw [upw_ne _ _ _ (by omega), h.2.2 i' hi', rset_ne _ _ e]
theorem RepC.of {s : Nat → Nat} {b c : Bk} (h : RepC s c) (h1 : ∀ i, i < 6 → b i = c i) (h2 : ∀ j, j < 9 → b 6 j = c 6 j) : RepC s b := by
  unfold RepC
  rw [h1 0 (by decide), h1 1 (by decide), h1 2 (by decide), h1 3 (by decide), h1 4 (by decide), h1 5 (by decide), h2 0 (by decide), h2 1 (by decide), h2 2 (by decide), h2 3 (by decide), h2 4 (by decide), h2 5 (by decide), h2 6 (by decide), h2 7 (by decide), h2 8 (by decide)]
  exact h
set_option maxRecDepth 100000 in
set_option maxHeartbeats 4000000 in
theorem c_X0_copy (l : Launch) (d : Nat) (hd : 1 ≤ d) {n kb : Nat} {w : Nat → AC} {b : Bk} (hB : BkAt n w kb b) {ko : Nat} {c : Bk} (hO : BkAt n w ko c) (hdj : ko + 7 ≤ kb ∨ kb + 7 ≤ ko) : Sq l yX0_copy cX0_copy 2 none d [aR kb, aR ko] n w (Qn (fun w' => ∃ b', BkAt n w' kb b' ∧ Fr kb 7 w w' ∧ (∀ i, i < 6 → b' i = c i) ∧ ∀ j, j < 9 → b' 6 j = c 6 j)) := by
  refine Sp.of (plainFor_of_name (by decide)) (Nat.le_of_ble_eq_true rfl) (fun Γ hΓ hR => ?_)
  show Γ 0 [aR kb, aR ko] [] (0, 0) n w
  have hF0 : Fr kb 7 w w := Fr.rf
  refine qa_aload_n hΓ dX0_copy_0 rfl ?_
  refine qa_get hΓ dX0_copy_1 fk_X0_9 hO.lt hO.o rfl ?_
  refine qa_iconst (v := nI 0) hΓ dX0_copy_4 ic_0 ?_
  refine qa_aload_n hΓ dX0_copy_5 rfl ?_
  refine qa_get hΓ dX0_copy_6 fk_X0_9 hB.lt hB.o rfl ?_
  refine qa_iconst (v := nI 0) hΓ dX0_copy_9 ic_0 ?_
  refine qa_bipush (v := nI 8) hΓ dX0_copy_10 bp_8 ?_
  refine qa_copy hΓ dX0_copy_12 lk_X0_31 (hO.lti (i := 1) (by decide)) hO.a0 (hB.lti (i := 1) (by decide)) hB.a0 rfl rfl rfl (by decide) hd rfl ?_
  obtain ⟨hB9, hF⟩ := hB.setR 0 (c 0) (by decide) (k1 := kb + 1) (N := 8) rfl rfl
  obtain ⟨w, hw9⟩ : ∃ X, X = upw w (kb + 1) (zA 8 (c 0)) := ⟨_, rfl⟩
  rw [← hw9] at hB9 hF
  refine (show Γ 15 [aR kb, aR ko] [] (0, 0) n w → _ from fun h => by rw [hw9] at h; exact h) ?_
  have hF0 := hF0.tr hF
  have hO := hO.ofFr hF hdj
  have hB := hB9
  refine qa_aload_n hΓ dX0_copy_15 rfl ?_
  refine qa_get hΓ dX0_copy_16 fk_X0_15 hO.lt hO.o rfl ?_
  refine qa_iconst (v := nI 0) hΓ dX0_copy_19 ic_0 ?_
  refine qa_aload_n hΓ dX0_copy_20 rfl ?_
  refine qa_get hΓ dX0_copy_21 fk_X0_15 hB.lt hB.o rfl ?_
  refine qa_iconst (v := nI 0) hΓ dX0_copy_24 ic_0 ?_
  refine qa_bipush (v := nI 8) hΓ dX0_copy_25 bp_8 ?_
  refine qa_copy hΓ dX0_copy_27 lk_X0_31 (hO.lti (i := 2) (by decide)) hO.a1 (hB.lti (i := 2) (by decide)) hB.a1 rfl rfl rfl (by decide) hd rfl ?_
  obtain ⟨hB9, hF⟩ := hB.setR 1 (c 1) (by decide) (k1 := kb + 2) (N := 8) rfl rfl
  obtain ⟨w, hw9⟩ : ∃ X, X = upw w (kb + 2) (zA 8 (c 1)) := ⟨_, rfl⟩
  rw [← hw9] at hB9 hF
  refine (show Γ 30 [aR kb, aR ko] [] (0, 0) n w → _ from fun h => by rw [hw9] at h; exact h) ?_
  have hF0 := hF0.tr hF
  have hO := hO.ofFr hF hdj
  have hB := hB9
  refine qa_aload_n hΓ dX0_copy_30 rfl ?_
  refine qa_get hΓ dX0_copy_31 fk_X0_18 hO.lt hO.o rfl ?_
  refine qa_iconst (v := nI 0) hΓ dX0_copy_34 ic_0 ?_
  refine qa_aload_n hΓ dX0_copy_35 rfl ?_
  refine qa_get hΓ dX0_copy_36 fk_X0_18 hB.lt hB.o rfl ?_
  refine qa_iconst (v := nI 0) hΓ dX0_copy_39 ic_0 ?_
  refine qa_bipush (v := nI 8) hΓ dX0_copy_40 bp_8 ?_
  refine qa_copy hΓ dX0_copy_42 lk_X0_31 (hO.lti (i := 3) (by decide)) hO.a2 (hB.lti (i := 3) (by decide)) hB.a2 rfl rfl rfl (by decide) hd rfl ?_
  obtain ⟨hB9, hF⟩ := hB.setR 2 (c 2) (by decide) (k1 := kb + 3) (N := 8) rfl rfl
  obtain ⟨w, hw9⟩ : ∃ X, X = upw w (kb + 3) (zA 8 (c 2)) := ⟨_, rfl⟩
  rw [← hw9] at hB9 hF
  refine (show Γ 45 [aR kb, aR ko] [] (0, 0) n w → _ from fun h => by rw [hw9] at h; exact h) ?_
  have hF0 := hF0.tr hF
  have hO := hO.ofFr hF hdj
  have hB := hB9
  refine qa_aload_n hΓ dX0_copy_45 rfl ?_
  refine qa_get hΓ dX0_copy_46 fk_X0_21 hO.lt hO.o rfl ?_
  refine qa_iconst (v := nI 0) hΓ dX0_copy_49 ic_0 ?_
  refine qa_aload_n hΓ dX0_copy_50 rfl ?_
  refine qa_get hΓ dX0_copy_51 fk_X0_21 hB.lt hB.o rfl ?_
  refine qa_iconst (v := nI 0) hΓ dX0_copy_54 ic_0 ?_
  refine qa_bipush (v := nI 8) hΓ dX0_copy_55 bp_8 ?_
  refine qa_copy hΓ dX0_copy_57 lk_X0_31 (hO.lti (i := 4) (by decide)) hO.a3 (hB.lti (i := 4) (by decide)) hB.a3 rfl rfl rfl (by decide) hd rfl ?_
  obtain ⟨hB9, hF⟩ := hB.setR 3 (c 3) (by decide) (k1 := kb + 4) (N := 8) rfl rfl
  obtain ⟨w, hw9⟩ : ∃ X, X = upw w (kb + 4) (zA 8 (c 3)) := ⟨_, rfl⟩
  rw [← hw9] at hB9 hF
  refine (show Γ 60 [aR kb, aR ko] [] (0, 0) n w → _ from fun h => by rw [hw9] at h; exact h) ?_
  have hF0 := hF0.tr hF
  have hO := hO.ofFr hF hdj
  have hB := hB9
  refine qa_aload_n hΓ dX0_copy_60 rfl ?_
  refine qa_get hΓ dX0_copy_61 fk_X0_24 hO.lt hO.o rfl ?_
  refine qa_iconst (v := nI 0) hΓ dX0_copy_64 ic_0 ?_
  refine qa_aload_n hΓ dX0_copy_65 rfl ?_
  refine qa_get hΓ dX0_copy_66 fk_X0_24 hB.lt hB.o rfl ?_
  refine qa_iconst (v := nI 0) hΓ dX0_copy_69 ic_0 ?_
  refine qa_bipush (v := nI 48) hΓ dX0_copy_70 bp_48 ?_
  refine qa_copy hΓ dX0_copy_72 lk_X0_31 (hO.lti (i := 5) (by decide)) hO.a4 (hB.lti (i := 5) (by decide)) hB.a4 rfl rfl rfl (by decide) hd rfl ?_
  obtain ⟨hB9, hF⟩ := hB.setR 4 (c 4) (by decide) (k1 := kb + 5) (N := 48) rfl rfl
  obtain ⟨w, hw9⟩ : ∃ X, X = upw w (kb + 5) (zA 48 (c 4)) := ⟨_, rfl⟩
  rw [← hw9] at hB9 hF
  refine (show Γ 75 [aR kb, aR ko] [] (0, 0) n w → _ from fun h => by rw [hw9] at h; exact h) ?_
  have hF0 := hF0.tr hF
  have hO := hO.ofFr hF hdj
  have hB := hB9
  refine qa_aload_n hΓ dX0_copy_75 rfl ?_
  refine qa_get hΓ dX0_copy_76 fk_X0_27 hO.lt hO.o rfl ?_
  refine qa_iconst (v := nI 0) hΓ dX0_copy_79 ic_0 ?_
  refine qa_aload_n hΓ dX0_copy_80 rfl ?_
  refine qa_get hΓ dX0_copy_81 fk_X0_27 hB.lt hB.o rfl ?_
  refine qa_iconst (v := nI 0) hΓ dX0_copy_84 ic_0 ?_
  refine qa_bipush (v := nI 16) hΓ dX0_copy_85 bp_16 ?_
  refine qa_copy hΓ dX0_copy_87 lk_X0_31 (hO.lti (i := 6) (by decide)) hO.a5 (hB.lti (i := 6) (by decide)) hB.a5 rfl rfl rfl (by decide) hd rfl ?_
  obtain ⟨hB9, hF⟩ := hB.setR 5 (c 5) (by decide) (k1 := kb + 6) (N := 16) rfl rfl
  obtain ⟨w, hw9⟩ : ∃ X, X = upw w (kb + 6) (zA 16 (c 5)) := ⟨_, rfl⟩
  rw [← hw9] at hB9 hF
  refine (show Γ 90 [aR kb, aR ko] [] (0, 0) n w → _ from fun h => by rw [hw9] at h; exact h) ?_
  have hF0 := hF0.tr hF
  have hO := hO.ofFr hF hdj
  have hB := hB9
  refine qa_aload_n hΓ dX0_copy_90 rfl ?_
  refine qa_aload_n hΓ dX0_copy_91 rfl ?_
  refine qa_get hΓ dX0_copy_92 fk_X0_37 hO.lt hO.o rfl ?_
  refine qB_put hΓ 0 dX0_copy_95 fk_X0_37 (by decide) hB (fun w hB hF => ?_)
  have hF0 := hF0.tr hF
  have hO := hO.ofFr hF hdj
  refine qa_aload_n hΓ dX0_copy_98 rfl ?_
  refine qa_aload_n hΓ dX0_copy_99 rfl ?_
  refine qa_get hΓ dX0_copy_100 fk_X0_41 hO.lt hO.o rfl ?_
  refine qB_put hΓ 1 dX0_copy_103 fk_X0_41 (by decide) hB (fun w hB hF => ?_)
  have hF0 := hF0.tr hF
  have hO := hO.ofFr hF hdj
  refine qa_aload_n hΓ dX0_copy_106 rfl ?_
  refine qa_aload_n hΓ dX0_copy_107 rfl ?_
  refine qa_get hΓ dX0_copy_108 fk_X0_44 hO.lt hO.o rfl ?_
  refine qB_put hΓ 2 dX0_copy_111 fk_X0_44 (by decide) hB (fun w hB hF => ?_)
  have hF0 := hF0.tr hF
  have hO := hO.ofFr hF hdj
  refine qa_aload_n hΓ dX0_copy_114 rfl ?_
  refine qa_aload_n hΓ dX0_copy_115 rfl ?_
  refine qa_get hΓ dX0_copy_116 fk_X0_47 hO.lt hO.o rfl ?_
  refine qB_put hΓ 3 dX0_copy_119 fk_X0_47 (by decide) hB (fun w hB hF => ?_)
  have hF0 := hF0.tr hF
  have hO := hO.ofFr hF hdj
  refine qa_aload_n hΓ dX0_copy_122 rfl ?_
  refine qa_aload_n hΓ dX0_copy_123 rfl ?_
  refine qa_get hΓ dX0_copy_124 fk_X0_50 hO.lt hO.o rfl ?_
  refine qB_put hΓ 4 dX0_copy_127 fk_X0_50 (by decide) hB (fun w hB hF => ?_)
  have hF0 := hF0.tr hF
  have hO := hO.ofFr hF hdj
  refine qa_aload_n hΓ dX0_copy_130 rfl ?_
  refine qa_aload_n hΓ dX0_copy_131 rfl ?_
  refine qa_get hΓ dX0_copy_132 fk_X0_53 hO.lt hO.o rfl ?_
  refine qB_put hΓ 5 dX0_copy_135 fk_X0_53 (by decide) hB (fun w hB hF => ?_)
  have hF0 := hF0.tr hF
  have hO := hO.ofFr hF hdj
  refine qa_aload_n hΓ dX0_copy_138 rfl ?_
  refine qa_aload_n hΓ dX0_copy_139 rfl ?_
  refine qa_get hΓ dX0_copy_140 fk_X0_56 hO.lt hO.o rfl ?_
  refine qB_put hΓ 6 dX0_copy_143 fk_X0_56 (by decide) hB (fun w hB hF => ?_)
  have hF0 := hF0.tr hF
  have hO := hO.ofFr hF hdj
  refine qa_aload_n hΓ dX0_copy_146 rfl ?_
  refine qa_aload_n hΓ dX0_copy_147 rfl ?_
  refine qa_get hΓ dX0_copy_148 fk_X0_59 hO.lt hO.o rfl ?_
  refine qB_put hΓ 7 dX0_copy_151 fk_X0_59 (by decide) hB (fun w hB hF => ?_)
  have hF0 := hF0.tr hF
  have hO := hO.ofFr hF hdj
  refine qa_aload_n hΓ dX0_copy_154 rfl ?_
  refine qa_aload_n hΓ dX0_copy_155 rfl ?_
  refine qa_get hΓ dX0_copy_156 fk_X0_62 hO.lt hO.o rfl ?_
  refine qB_put hΓ 8 dX0_copy_159 fk_X0_62 (by decide) hB (fun w hB hF => ?_)
  have hF0 := hF0.tr hF
  have hO := hO.ofFr hF hdj
  refine qr_v hR dX0_copy_162 ⟨rfl, _, hB, hF0, fun i hi => ?_, fun j hj => ?_⟩
  · rw [bset_ne _ _ _ (by omega), bset_ne _ _ _ (by omega), bset_ne _ _ _ (by omega), bset_ne _ _ _ (by omega), bset_ne _ _ _ (by omega), bset_ne _ _ _ (by omega), bset_ne _ _ _ (by omega), bset_ne _ _ _ (by omega), bset_ne _ _ _ (by omega)]
    rcases (show i = 0 ∨ i = 1 ∨ i = 2 ∨ i = 3 ∨ i = 4 ∨ i = 5 by omega) with rfl | rfl | rfl | rfl | rfl | rfl
    · rw [rset_ne _ _ (by decide), rset_ne _ _ (by decide), rset_ne _ _ (by decide), rset_ne _ _ (by decide), rset_ne _ _ (by decide), rset_eq]
    · rw [rset_ne _ _ (by decide), rset_ne _ _ (by decide), rset_ne _ _ (by decide), rset_ne _ _ (by decide), rset_eq]
    · rw [rset_ne _ _ (by decide), rset_ne _ _ (by decide), rset_ne _ _ (by decide), rset_eq]
    · rw [rset_ne _ _ (by decide), rset_ne _ _ (by decide), rset_eq]
    · rw [rset_ne _ _ (by decide), rset_eq]
    · rw [rset_eq]
  · simp only [bset_eq]
    rcases (show j = 0 ∨ j = 1 ∨ j = 2 ∨ j = 3 ∨ j = 4 ∨ j = 5 ∨ j = 6 ∨ j = 7 ∨ j = 8 by omega) with rfl | rfl | rfl | rfl | rfl | rfl | rfl | rfl | rfl
    · rw [upN_ne _ _ _ (by decide), upN_ne _ _ _ (by decide), upN_ne _ _ _ (by decide), upN_ne _ _ _ (by decide), upN_ne _ _ _ (by decide), upN_ne _ _ _ (by decide), upN_ne _ _ _ (by decide), upN_ne _ _ _ (by decide), upN_self]
    · rw [upN_ne _ _ _ (by decide), upN_ne _ _ _ (by decide), upN_ne _ _ _ (by decide), upN_ne _ _ _ (by decide), upN_ne _ _ _ (by decide), upN_ne _ _ _ (by decide), upN_ne _ _ _ (by decide), upN_self]
    · rw [upN_ne _ _ _ (by decide), upN_ne _ _ _ (by decide), upN_ne _ _ _ (by decide), upN_ne _ _ _ (by decide), upN_ne _ _ _ (by decide), upN_ne _ _ _ (by decide), upN_self]
    · rw [upN_ne _ _ _ (by decide), upN_ne _ _ _ (by decide), upN_ne _ _ _ (by decide), upN_ne _ _ _ (by decide), upN_ne _ _ _ (by decide), upN_self]
    · rw [upN_ne _ _ _ (by decide), upN_ne _ _ _ (by decide), upN_ne _ _ _ (by decide), upN_ne _ _ _ (by decide), upN_self]
    · rw [upN_ne _ _ _ (by decide), upN_ne _ _ _ (by decide), upN_ne _ _ _ (by decide), upN_self]
    · rw [upN_ne _ _ _ (by decide), upN_ne _ _ _ (by decide), upN_self]
    · rw [upN_ne _ _ _ (by decide), upN_self]
    · rw [upN_self]
