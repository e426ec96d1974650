/-! The model: questions -/
def cn2 (s : Nat → Nat) : Nat → Nat
  | 0 => 0
  | r + 1 => cn2 s r + ((if 0 < vv s r 8 then 1 else 0) + vv s r 10)
def cnV (M : Bk) (k : Nat) : Nat := if k = 0 then M 0 1 else if k = 1 then M 0 2 else if k = 2 then cn2 (M 0) (M 0 1) else if k = 3 then M 0 0 else if k = 4 then mk (stB (M 0) 4) (M 0 1) else if k = 5 then mk (stB (M 0) 3) (M 0 1) else if k = 6 then mk (clB (M 0)) (M 0 1) else if k = 7 then mk (stB (M 0) 5) (M 0 1) else if k = 8 then M 5 1 else M 5 0
def spCount (M : Bk) (wh : Int32) (r : Int32) (M' : Bk) : Prop := (if nI 0 ≤ wh ∧ wh ≤ nI 9 then r = nI (cnV M (tn wh)) else r = -1) ∧ Sm M M'
def itB (s : Nat → Nat) (rl : Nat) : Nat → Nat
  | 0 => 0
  | b + 1 => if 0 < how3 s rl b (8 + rl) then 1 else itB s rl b
def reV (s : Nat → Nat) (rl k : Nat) : Nat := if k = 3 then vv s rl 12 else if k = 4 then vv s rl 6 else if k = 5 then vv s rl 7 else if k = 6 then itB s rl (vv s rl 12) else if k = 7 then (cnd s rl (onS s)).toNat else vv s rl k
def spRelay (M : Bk) (rl wh : Int32) (r : Int32) (M' : Bk) : Prop := (if isR (M 0 1) rl ∧ (nI 0 ≤ wh ∧ wh ≤ nI 7) then r = nI (reV (M 0) (tn rl) (tn wh)) else r = -1) ∧ Sm M M'
def spCond (M : Bk) (rl br su : Int32) (r : Int32) (M' : Bk) : Prop := (if isR (M 0 1) rl ∧ (nI 0 ≤ br ∧ br ≤ nI (vv (M 0) (tn rl) 12) - nI 1) ∧ (nI 0 ≤ su ∧ su ≤ nI 15) then r = nI (how3 (M 0) (tn rl) (tn br) (tn su)) else r = -1) ∧ Sm M M'
theorem toInt_out {lo hi : Nat} {x : Int32} (h : ¬ (nI lo ≤ x ∧ x ≤ nI hi)) (hl : lo < 2147483648) (hh : hi < 2147483648) : x.toInt < (lo : Int) ∨ (hi : Int) < x.toInt := by
  rw [Int32.le_iff_toInt_le, Int32.le_iff_toInt_le, nI_toInt hl, nI_toInt hh] at h
  omega
theorem how3_le (s : Nat → Nat) (r b x : Nat) : how3 s r b x ≤ 2 := by
  unfold how3
  split
  · omega
  · split <;> omega
theorem sml (M : Bk) (r : Int32) (P : Prop) (h : P) : P ∧ Sm M M := ⟨h, Sm.rf M⟩
set_option maxRecDepth 100000 in
set_option maxHeartbeats 4000000 in
theorem c_X6_count (l : Launch) (d : Nat) (hd : 2 ≤ d) {n k : Nat} {w : Nat → AC} {M : Bk} (hM : MdAt n w k M) {B : Nat} (hW : Wt (M 0) B) (hB : B < 900000000) (wh : Int32) : Sq l yX6_count cX6_count 4 (some .int) d [aR k, aI wh] n w (QM (spCount M wh) n k w) := by
  refine Sp.of (plainFor_of_name (by decide)) (Nat.le_of_ble_eq_true rfl) (fun Γ hΓ hR => ?_)
  show Γ 0 [aR k, aI wh, none, none] [] (0, 0) n w
  have h8 := hW.2.1
  refine qa_iconst (v := nI 0) hΓ dX6_count_0 ic_0 ?_
  refine qa_istore_n hΓ dX6_count_1 (by decide) ?_
  refine qa_iload_n hΓ dX6_count_2 rfl ?_
  by_cases hT : nI 0 ≤ wh ∧ wh ≤ nI 9
  · obtain ⟨j, hj1, hj2, rfl⟩ := rng (by decide) hT (by decide)
    rcases (show j = 0 ∨ j = 1 ∨ j = 2 ∨ j = 3 ∨ j = 4 ∨ j = 5 ∨ j = 6 ∨ j = 7 ∨ j = 8 ∨ j = 9 by omega) with rfl | rfl | rfl | rfl | rfl | rfl | rfl | rfl | rfl | rfl
    · refine qa_tabIn (off := 53) (tgt := 56) hΓ dX6_count_3 (by decide +kernel) (by decide +kernel) (by decide +kernel) (by decide) ?_
      refine qa_aload_n hΓ dX6_count_56 rfl ?_
      refine qa_get hΓ dX6_count_57 fk_X6_7 hM.lt hM.o rfl ?_
      refine qa_iconst (v := nI 1) hΓ dX6_count_60 ic_1 ?_
      refine qz_iald hΓ dX6_count_61 (hM.lti (i := 1) (by decide)) hM.a0 (by omega) (by decide) ?_
      exact qr_i hR dX6_count_62 ⟨_, M, rfl, hM, Fr.rf, by unfold spCount; rw [if_pos hT]; exact ⟨rfl, Sm.rf M⟩⟩
    · refine qa_tabIn (off := 60) (tgt := 63) hΓ dX6_count_3 (by decide +kernel) (by decide +kernel) (by decide +kernel) (by decide) ?_
      refine qa_aload_n hΓ dX6_count_63 rfl ?_
      refine qa_get hΓ dX6_count_64 fk_X6_7 hM.lt hM.o rfl ?_
      refine qa_iconst (v := nI 2) hΓ dX6_count_67 ic_2 ?_
      refine qz_iald hΓ dX6_count_68 (hM.lti (i := 1) (by decide)) hM.a0 (by omega) (by decide) ?_
      exact qr_i hR dX6_count_69 ⟨_, M, rfl, hM, Fr.rf, by unfold spCount; rw [if_pos hT]; exact ⟨rfl, Sm.rf M⟩⟩
    · refine qa_tabIn (off := 67) (tgt := 70) hΓ dX6_count_3 (by decide +kernel) (by decide +kernel) (by decide +kernel) (by decide) ?_
      refine qa_iconst (v := nI 0) hΓ dX6_count_70 ic_0 ?_
      refine qa_istore_n hΓ dX6_count_71 (by decide) ?_
      have loop : ∀ (m i : Nat), i ≤ M 0 1 → M 0 1 < i + m → Γ 72 [aR k, aZ 2, aZ (cn2 (M 0) i), aZ i] [] (0, 0) n w := by
        intro m
        induction m with
        | zero => intro i h1 h2; exact absurd h2 (by omega)
        | succ m ih =>
          intro i hi hm
          refine qa_iload_n hΓ dX6_count_72 rfl ?_
          refine qa_aload_n hΓ dX6_count_73 rfl ?_
          refine qa_get hΓ dX6_count_74 fk_X6_7 hM.lt hM.o rfl ?_
          refine qa_iconst (v := nI 1) hΓ dX6_count_77 ic_1 ?_
          refine qz_iald hΓ dX6_count_78 (hM.lti (i := 1) (by decide)) hM.a0 (by omega) (by decide) ?_
          refine qz_icmp_ge (tgt := 114) hΓ dX6_count_79 (by decide) (by omega) (by omega) (fun h_79 => ?_) (fun h_79 => ?_)
          · refine qa_iload_n hΓ dX6_count_114 rfl ?_
            exact qr_i hR dX6_count_115 ⟨_, M, rfl, hM, Fr.rf, by unfold spCount; rw [if_pos hT]; exact ⟨by rw [show i = M 0 1 by omega]; rfl, Sm.rf M⟩⟩
          · have hb8 := hW.b (r := i) (x := 8) (by omega) (by decide)
            have hb10 := hW.b (r := i) (x := 10) (by omega) (by decide)
            refine qa_iload_n hΓ dX6_count_82 rfl ?_
            refine qa_aload_n hΓ dX6_count_83 rfl ?_
            refine qa_iload_n hΓ dX6_count_84 rfl ?_
            refine qa_bipush (v := nI 8) hΓ dX6_count_85 bp_8 ?_
            refine qc_V1 hΓ dX6_count_87 lk_X6_37 vw_X6_of (by omega) (c_X6_of l (d - 1) hM _ _ (by omega) (by omega)) rfl hM.lt hM.o rfl rfl (Nat.le_of_ble_eq_true rfl) ?_
            refine qz_if_le (tgt := 97) hΓ dX6_count_90 (by decide) (by omega) (fun h_90 => ?_) (fun h_90 => ?_)
            · refine qa_iconst (v := nI 0) hΓ dX6_count_97 ic_0 ?_
              refine qa_aload_n hΓ dX6_count_98 rfl ?_
              refine qa_iload_n hΓ dX6_count_99 rfl ?_
              refine qa_bipush (v := nI 10) hΓ dX6_count_100 bp_10 ?_
              refine qc_V1 hΓ dX6_count_102 lk_X6_37 vw_X6_of (by omega) (c_X6_of l (d - 1) hM _ _ (by omega) (by omega)) rfl hM.lt hM.o rfl rfl (Nat.le_of_ble_eq_true rfl) ?_
              refine qz_iadd hΓ dX6_count_105 ?_
              refine qz_iadd hΓ dX6_count_106 ?_
              refine qa_istore_n hΓ dX6_count_107 (by decide) ?_
              refine qz_iinc hΓ dX6_count_108 ii_1 rfl (by decide) ?_
              refine qa_goto (tgt := 72) hΓ dX6_count_111 (by decide) ?_
              have e : cn2 (M 0) (i + 1) = cn2 (M 0) i + (0 + vv (M 0) i 10) := by
                show cn2 (M 0) i + ((if 0 < vv (M 0) i 8 then 1 else 0) + vv (M 0) i 10) = _
                rw [if_neg (by omega)]
              have h9 := ih (i + 1) (by omega) (by omega)
              rw [e] at h9
              exact h9
            · refine qa_iconst (v := nI 1) hΓ dX6_count_93 ic_1 ?_
              refine qa_goto (tgt := 98) hΓ dX6_count_94 (by decide) ?_
              refine qa_aload_n hΓ dX6_count_98 rfl ?_
              refine qa_iload_n hΓ dX6_count_99 rfl ?_
              refine qa_bipush (v := nI 10) hΓ dX6_count_100 bp_10 ?_
              refine qc_V1 hΓ dX6_count_102 lk_X6_37 vw_X6_of (by omega) (c_X6_of l (d - 1) hM _ _ (by omega) (by omega)) rfl hM.lt hM.o rfl rfl (Nat.le_of_ble_eq_true rfl) ?_
              refine qz_iadd hΓ dX6_count_105 ?_
              refine qz_iadd hΓ dX6_count_106 ?_
              refine qa_istore_n hΓ dX6_count_107 (by decide) ?_
              refine qz_iinc hΓ dX6_count_108 ii_1 rfl (by decide) ?_
              refine qa_goto (tgt := 72) hΓ dX6_count_111 (by decide) ?_
              have e : cn2 (M 0) (i + 1) = cn2 (M 0) i + (1 + vv (M 0) i 10) := by
                show cn2 (M 0) i + ((if 0 < vv (M 0) i 8 then 1 else 0) + vv (M 0) i 10) = _
                rw [if_pos h_90]
              have h9 := ih (i + 1) (by omega) (by omega)
              rw [e] at h9
              exact h9
      exact loop (M 0 1 + 1) 0 (Nat.zero_le _) (by omega)
    · refine qa_tabIn (off := 113) (tgt := 116) hΓ dX6_count_3 (by decide +kernel) (by decide +kernel) (by decide +kernel) (by decide) ?_
      refine qa_aload_n hΓ dX6_count_116 rfl ?_
      refine qa_get hΓ dX6_count_117 fk_X6_7 hM.lt hM.o rfl ?_
      refine qa_iconst (v := nI 0) hΓ dX6_count_120 ic_0 ?_
      refine qz_iald hΓ dX6_count_121 (hM.lti (i := 1) (by decide)) hM.a0 (by omega) (by decide) ?_
      exact qr_i hR dX6_count_122 ⟨_, M, rfl, hM, Fr.rf, by unfold spCount; rw [if_pos hT]; exact ⟨rfl, Sm.rf M⟩⟩
    · refine qa_tabIn (off := 120) (tgt := 123) hΓ dX6_count_3 (by decide +kernel) (by decide +kernel) (by decide +kernel) (by decide) ?_
      refine qa_aload_n hΓ dX6_count_123 rfl ?_
      refine qa_iconst (v := nI 4) hΓ dX6_count_124 ic_4 ?_
      refine qc_V1 hΓ dX6_count_125 lk_X6_132 vw_X6_set (by omega) (c_X6_set l (d - 1) (by omega) hM _ (by decide) h8 (fun r hr => by have := hW.b (x := 4) hr (by decide); omega)) rfl hM.lt hM.o rfl rfl (Nat.le_of_ble_eq_true rfl) ?_
      exact qr_i hR dX6_count_128 ⟨_, M, rfl, hM, Fr.rf, by unfold spCount; rw [if_pos hT]; exact ⟨rfl, Sm.rf M⟩⟩
    · refine qa_tabIn (off := 126) (tgt := 129) hΓ dX6_count_3 (by decide +kernel) (by decide +kernel) (by decide +kernel) (by decide) ?_
      refine qa_aload_n hΓ dX6_count_129 rfl ?_
      refine qa_iconst (v := nI 3) hΓ dX6_count_130 ic_3 ?_
      refine qc_V1 hΓ dX6_count_131 lk_X6_132 vw_X6_set (by omega) (c_X6_set l (d - 1) (by omega) hM _ (by decide) h8 (fun r hr => by have := hW.b (x := 3) hr (by decide); omega)) rfl hM.lt hM.o rfl rfl (Nat.le_of_ble_eq_true rfl) ?_
      exact qr_i hR dX6_count_134 ⟨_, M, rfl, hM, Fr.rf, by unfold spCount; rw [if_pos hT]; exact ⟨rfl, Sm.rf M⟩⟩
    · refine qa_tabIn (off := 132) (tgt := 135) hΓ dX6_count_3 (by decide +kernel) (by decide +kernel) (by decide +kernel) (by decide) ?_
      refine qa_aload_n hΓ dX6_count_135 rfl ?_
      refine qc_V1 hΓ dX6_count_136 lk_X6_41 vw_X6_closed (by omega) (c_X6_closed l (d - 1) (by omega) hM h8 (fun r hr x hx => by have := hW.b hr hx; omega)) rfl hM.lt hM.o rfl rfl (Nat.le_of_ble_eq_true rfl) ?_
      exact qr_i hR dX6_count_139 ⟨_, M, rfl, hM, Fr.rf, by unfold spCount; rw [if_pos hT]; exact ⟨rfl, Sm.rf M⟩⟩
    · refine qa_tabIn (off := 137) (tgt := 140) hΓ dX6_count_3 (by decide +kernel) (by decide +kernel) (by decide +kernel) (by decide) ?_
      refine qa_aload_n hΓ dX6_count_140 rfl ?_
      refine qa_iconst (v := nI 5) hΓ dX6_count_141 ic_5 ?_
      refine qc_V1 hΓ dX6_count_142 lk_X6_132 vw_X6_set (by omega) (c_X6_set l (d - 1) (by omega) hM _ (by decide) h8 (fun r hr => by have := hW.b (x := 5) hr (by decide); omega)) rfl hM.lt hM.o rfl rfl (Nat.le_of_ble_eq_true rfl) ?_
      exact qr_i hR dX6_count_145 ⟨_, M, rfl, hM, Fr.rf, by unfold spCount; rw [if_pos hT]; exact ⟨rfl, Sm.rf M⟩⟩
    · refine qa_tabIn (off := 143) (tgt := 146) hΓ dX6_count_3 (by decide +kernel) (by decide +kernel) (by decide +kernel) (by decide) ?_
      refine qa_aload_n hΓ dX6_count_146 rfl ?_
      refine qa_get hΓ dX6_count_147 fk_X6_26 hM.lt hM.o rfl ?_
      exact qr_i hR dX6_count_150 ⟨_, M, rfl, hM, Fr.rf, by unfold spCount; rw [if_pos hT]; exact ⟨rfl, Sm.rf M⟩⟩
    · refine qa_tabIn (off := 148) (tgt := 151) hΓ dX6_count_3 (by decide +kernel) (by decide +kernel) (by decide +kernel) (by decide) ?_
      refine qa_aload_n hΓ dX6_count_151 rfl ?_
      refine qa_get hΓ dX6_count_152 fk_X6_30 hM.lt hM.o rfl ?_
      exact qr_i hR dX6_count_155 ⟨_, M, rfl, hM, Fr.rf, by unfold spCount; rw [if_pos hT]; exact ⟨rfl, Sm.rf M⟩⟩
  · refine qa_tabOut (tgt := 156) hΓ dX6_count_3 (toInt_out hT (by decide) (by decide)) (by decide) ?_
    refine qa_iconst (v := (-1)) hΓ dX6_count_156 ic_m1 ?_
    exact qr_i hR dX6_count_157 ⟨-1, M, rfl, hM, Fr.rf, by unfold spCount; rw [if_neg hT]; exact ⟨rfl, Sm.rf M⟩⟩

set_option maxRecDepth 100000 in
set_option maxHeartbeats 4000000 in
theorem c_X6_ofItself (l : Launch) (d : Nat) (hd : 2 ≤ d) {n k : Nat} {w : Nat → AC} {M : Bk} (hM : MdAt n w k M) {B : Nat} (hW : Wt (M 0) B) (hB : B < 900000000) (r : Nat) (hr : r < M 0 1) : Sq l yX6_ofItself cX6_ofItself 4 (some .int) d [aR k, aZ r] n w (Rs (some (aZ (itB (M 0) r (vv (M 0) r 12)))) w) := by
  refine Sp.of (plainFor_of_name (by decide)) (Nat.le_of_ble_eq_true rfl) (fun Γ hΓ hR => ?_)
  show Γ 0 [aR k, aZ r, none, none] [] (0, 0) n w
  have h8 := hW.2.1
  have hm6 : vv (M 0) r 12 ≤ 6 := by have := hW.2.2.2 r hr 12 (by decide); simpa [bdF] using this
  have loop : ∀ (m i : Nat), i ≤ vv (M 0) r 12 → vv (M 0) r 12 < i + m → Γ 4 [aR k, aZ r, aZ (itB (M 0) r i), aZ i] [] (0, 0) n w := by
    intro m
    induction m with
    | zero => intro i h1 h2; exact absurd h2 (by omega)
    | succ m ih =>
      intro i hi hm
      refine qa_iload_n hΓ dX6_ofItself_4 rfl ?_
      refine qa_aload_n hΓ dX6_ofItself_5 rfl ?_
      refine qa_iload_n hΓ dX6_ofItself_6 rfl ?_
      refine qa_bipush (v := nI 12) hΓ dX6_ofItself_7 bp_12 ?_
      refine qc_V1 hΓ dX6_ofItself_9 lk_X6_37 vw_X6_of (by omega) (c_X6_of l (d - 1) hM _ _ (by omega) (by omega)) rfl hM.lt hM.o rfl rfl (Nat.le_of_ble_eq_true rfl) ?_
      refine qz_icmp_ge (tgt := 40) hΓ dX6_ofItself_12 (by decide) (by omega) (by omega) (fun h_12 => ?_) (fun h_12 => ?_)
      · refine qa_iload_n hΓ dX6_ofItself_40 rfl ?_
        exact qr_i hR dX6_ofItself_41 ⟨by rw [show i = vv (M 0) r 12 by omega], rfl⟩
      · refine qa_aload_n hΓ dX6_ofItself_15 rfl ?_
        refine qa_iload_n hΓ dX6_ofItself_16 rfl ?_
        refine qa_iload_n hΓ dX6_ofItself_17 rfl ?_
        refine qa_bipush (v := nI 8) hΓ dX6_ofItself_18 bp_8 ?_
        refine qa_iload_n hΓ dX6_ofItself_20 rfl ?_
        refine qz_iadd hΓ dX6_ofItself_21 ?_
        refine qc_V1 hΓ dX6_ofItself_22 lk_X6_91 vw_X6_how (by omega) (c_X6_how l (d - 1) (by omega) hM _ _ _ (by omega) (by omega) (by omega) (fun y hy => by have := hW.b hr hy; omega)) rfl hM.lt hM.o rfl rfl (Nat.le_of_ble_eq_true rfl) ?_
        have hh3 := how3_le (M 0) r i (8 + r)
        refine qz_if_le (tgt := 32) hΓ dX6_ofItself_25 (by decide) (by omega) (fun h_25 => ?_) (fun h_25 => ?_)
        · refine qa_iload_n hΓ dX6_ofItself_32 rfl ?_
          refine qa_istore_n hΓ dX6_ofItself_33 (by decide) ?_
          refine qz_iinc hΓ dX6_ofItself_34 ii_1 rfl (by decide) ?_
          refine qa_goto (tgt := 4) hΓ dX6_ofItself_37 (by decide) ?_
          have e : itB (M 0) r (i + 1) = itB (M 0) r i := by
            show (if 0 < how3 (M 0) r i (8 + r) then 1 else itB (M 0) r i) = _
            rw [if_neg (by omega)]
          have h9 := ih (i + 1) (by omega) (by omega)
          rw [e] at h9
          exact h9
        · refine qa_iconst (v := nI 1) hΓ dX6_ofItself_28 ic_1 ?_
          refine qa_goto (tgt := 33) hΓ dX6_ofItself_29 (by decide) ?_
          refine qa_istore_n hΓ dX6_ofItself_33 (by decide) ?_
          refine qz_iinc hΓ dX6_ofItself_34 ii_1 rfl (by decide) ?_
          refine qa_goto (tgt := 4) hΓ dX6_ofItself_37 (by decide) ?_
          have e : itB (M 0) r (i + 1) = 1 := by
            show (if 0 < how3 (M 0) r i (8 + r) then 1 else itB (M 0) r i) = _
            rw [if_pos h_25]
          have h9 := ih (i + 1) (by omega) (by omega)
          rw [e] at h9
          exact h9
  refine qa_iconst (v := nI 0) hΓ dX6_ofItself_0 ic_0 ?_
  refine qa_istore_n hΓ dX6_ofItself_1 (by decide) ?_
  refine qa_iconst (v := nI 0) hΓ dX6_ofItself_2 ic_0 ?_
  refine qa_istore_n hΓ dX6_ofItself_3 (by decide) ?_
  have h8 := hW.2.1
  have hm6 : vv (M 0) r 12 ≤ 6 := by have := hW.2.2.2 r hr 12 (by decide); simpa [bdF] using this
  exact loop (vv (M 0) r 12 + 1) 0 (Nat.zero_le _) (by omega)

set_option maxRecDepth 100000 in
set_option maxHeartbeats 4000000 in
theorem c_X6_relay (l : Launch) (d : Nat) (hd : 3 ≤ d) {n k : Nat} {w : Nat → AC} {M : Bk} (hM : MdAt n w k M) {B : Nat} (hW : Wt (M 0) B) (hB : B < 900000000) (rl wh : Int32) : Sq l yX6_relay cX6_relay 3 (some .int) d [aR k, aI rl, aI wh] n w (QM (spRelay M rl wh) n k w) := by
  refine Sp.of (plainFor_of_name (by decide)) (Nat.le_of_ble_eq_true rfl) (fun Γ hΓ hR => ?_)
  show Γ 0 [aR k, aI rl, aI wh] [] (0, 0) n w
  refine qa_aload_n hΓ dX6_relay_0 rfl ?_
  refine qa_iload_n hΓ dX6_relay_1 rfl ?_
  refine qc_V1 hΓ dX6_relay_2 lk_X6_82 vw_X6_isRelay (by omega) (c_X6_isRelay l (d - 1) (by omega) hM _) rfl hM.lt hM.o rfl rfl (Nat.le_of_ble_eq_true rfl) ?_
  refine qb_if_eq (tgt := 18) hΓ dX6_relay_5 (by decide) (fun h_5 => ?_) (fun h_5 => ?_)
  · refine qa_iconst (v := (-1)) hΓ dX6_relay_18 ic_m1 ?_
    exact qr_i hR dX6_relay_19 ⟨-1, M, rfl, hM, Fr.rf, by unfold spRelay; rw [if_neg (fun q => by first | exact of_decide_eq_false h_5 q.1 | exact of_decide_eq_false h_15 q.2)]; exact ⟨rfl, Sm.rf M⟩⟩
  · refine qa_iload_n hΓ dX6_relay_8 rfl ?_
    refine qa_iconst (v := nI 0) hΓ dX6_relay_9 ic_0 ?_
    refine qa_bipush (v := nI 7) hΓ dX6_relay_10 bp_7 ?_
    refine qc_S1 hΓ dX6_relay_12 lk_X6_33 vw_X6_in (by omega) (c_X6_in l (d - 1) _ _ _) rfl rfl (Nat.le_of_ble_eq_true rfl) ?_
    refine qb_if_ne (tgt := 20) hΓ dX6_relay_15 (by decide) (fun h_15 => ?_) (fun h_15 => ?_)
    · have hC : isR (M 0 1) rl ∧ (nI 0 ≤ wh ∧ wh ≤ nI 7) := ⟨of_decide_eq_true h_5, of_decide_eq_true h_15⟩
      obtain ⟨r, hr, rfl⟩ := isR_of (by have := hW.2.1; omega) hC.1
      obtain ⟨wh, hw1, hw2, rfl⟩ := rng (by decide) hC.2 (by decide)
      have h8 := hW.2.1
      refine qa_iload_n hΓ dX6_relay_20 rfl ?_
      rcases Nat.lt_or_ge wh 3 with h3 | h3
      · refine qa_tabOut (tgt := 114) hΓ dX6_relay_21 (by rw [nI_toInt (by omega)]; omega) (by decide) ?_
        refine qa_aload_n hΓ dX6_relay_114 rfl ?_
        refine qa_iload_n hΓ dX6_relay_115 rfl ?_
        refine qa_iload_n hΓ dX6_relay_116 rfl ?_
        refine qc_V1 hΓ dX6_relay_117 lk_X6_37 vw_X6_of (by omega) (c_X6_of l (d - 1) hM r _ (by omega) (by omega)) rfl hM.lt hM.o rfl rfl (Nat.le_of_ble_eq_true rfl) ?_
        exact qr_i hR dX6_relay_120 ⟨_, M, rfl, hM, Fr.rf, by
          unfold spRelay
          rw [if_pos hC, tn_nI (by omega), tn_nI (by omega)]
          refine ⟨?_, Sm.rf M⟩
          unfold reV
          rw [if_neg (by omega), if_neg (by omega), if_neg (by omega), if_neg (by omega), if_neg (by omega)]⟩
      · rcases (show wh = 3 ∨ wh = 4 ∨ wh = 5 ∨ wh = 6 ∨ wh = 7 by omega) with rfl | rfl | rfl | rfl | rfl
        · refine qa_tabIn (off := 35) (tgt := 56) hΓ dX6_relay_21 (by decide +kernel) (by decide +kernel) (by decide +kernel) (by decide) ?_
          refine qa_aload_n hΓ dX6_relay_56 rfl ?_
          refine qa_iload_n hΓ dX6_relay_57 rfl ?_
          refine qa_bipush (v := nI 12) hΓ dX6_relay_58 bp_12 ?_
          refine qc_V1 hΓ dX6_relay_60 lk_X6_37 vw_X6_of (by omega) (c_X6_of l (d - 1) hM r _ (by omega) (by omega)) rfl hM.lt hM.o rfl rfl (Nat.le_of_ble_eq_true rfl) ?_
          exact qr_i hR dX6_relay_63 ⟨_, M, rfl, hM, Fr.rf, by
            unfold spRelay
            rw [if_pos hC, tn_nI (by omega)]
            exact ⟨rfl, Sm.rf M⟩⟩
        · refine qa_tabIn (off := 43) (tgt := 64) hΓ dX6_relay_21 (by decide +kernel) (by decide +kernel) (by decide +kernel) (by decide) ?_
          refine qa_aload_n hΓ dX6_relay_64 rfl ?_
          refine qa_iload_n hΓ dX6_relay_65 rfl ?_
          refine qa_bipush (v := nI 6) hΓ dX6_relay_66 bp_6 ?_
          refine qc_V1 hΓ dX6_relay_68 lk_X6_37 vw_X6_of (by omega) (c_X6_of l (d - 1) hM r _ (by omega) (by omega)) rfl hM.lt hM.o rfl rfl (Nat.le_of_ble_eq_true rfl) ?_
          exact qr_i hR dX6_relay_71 ⟨_, M, rfl, hM, Fr.rf, by
            unfold spRelay
            rw [if_pos hC, tn_nI (by omega)]
            exact ⟨rfl, Sm.rf M⟩⟩
        · refine qa_tabIn (off := 51) (tgt := 72) hΓ dX6_relay_21 (by decide +kernel) (by decide +kernel) (by decide +kernel) (by decide) ?_
          refine qa_aload_n hΓ dX6_relay_72 rfl ?_
          refine qa_iload_n hΓ dX6_relay_73 rfl ?_
          refine qa_bipush (v := nI 7) hΓ dX6_relay_74 bp_7 ?_
          refine qc_V1 hΓ dX6_relay_76 lk_X6_37 vw_X6_of (by omega) (c_X6_of l (d - 1) hM r _ (by omega) (by omega)) rfl hM.lt hM.o rfl rfl (Nat.le_of_ble_eq_true rfl) ?_
          exact qr_i hR dX6_relay_79 ⟨_, M, rfl, hM, Fr.rf, by
            unfold spRelay
            rw [if_pos hC, tn_nI (by omega)]
            exact ⟨rfl, Sm.rf M⟩⟩
        · refine qa_tabIn (off := 59) (tgt := 80) hΓ dX6_relay_21 (by decide +kernel) (by decide +kernel) (by decide +kernel) (by decide) ?_
          refine qa_aload_n hΓ dX6_relay_80 rfl ?_
          refine qa_iload_n hΓ dX6_relay_81 rfl ?_
          refine qc_V1 hΓ dX6_relay_82 lk_X6_135 vw_X6_ofItself (by omega) (c_X6_ofItself l (d - 1) (by omega) hM hW (by omega) r hr) rfl hM.lt hM.o rfl rfl (Nat.le_of_ble_eq_true rfl) ?_
          exact qr_i hR dX6_relay_85 ⟨_, M, rfl, hM, Fr.rf, by
            unfold spRelay
            rw [if_pos hC, tn_nI (by omega)]
            exact ⟨rfl, Sm.rf M⟩⟩
        · refine qa_tabIn (off := 65) (tgt := 86) hΓ dX6_relay_21 (by decide +kernel) (by decide +kernel) (by decide +kernel) (by decide) ?_
          refine qa_aload_n hΓ dX6_relay_86 rfl ?_
          refine qa_iload_n hΓ dX6_relay_87 rfl ?_
          refine qa_aload_n hΓ dX6_relay_88 rfl ?_
          refine qa_get hΓ dX6_relay_89 fk_X6_7 hM.lt hM.o rfl ?_
          refine qa_iconst (v := nI 0) hΓ dX6_relay_92 ic_0 ?_
          refine qz_iald hΓ dX6_relay_93 (hM.lti (i := 1) (by decide)) hM.a0 (by omega) (by decide) ?_
          refine qa_aload_n hΓ dX6_relay_94 rfl ?_
          refine qc_V1 hΓ dX6_relay_95 lk_X6_41 vw_X6_closed (by omega) (c_X6_closed l (d - 1) (by omega) hM h8 (fun r hr x hx => by have := hW.b hr hx; omega)) rfl hM.lt hM.o rfl rfl (Nat.le_of_ble_eq_true rfl) ?_
          refine qa_bipush (v := nI 8) hΓ dX6_relay_98 bp_8 ?_
          refine qz_ishl hΓ dX6_relay_100 (by omega) ?_
          refine qz_ior hΓ dX6_relay_101 ?_
          refine qc_V1 hΓ dX6_relay_102 lk_X6_45 vw_X6_conducts (by omega) (c_X6_conducts l (d - 1) (by omega) hM r (onS (M 0)) (by omega) (by have := hW.2.2.2 r hr 12 (by decide); simpa [bdF] using this) (fun x hx => by have := hW.b hr hx; omega)) rfl hM.lt hM.o rfl rfl (Nat.le_of_ble_eq_true rfl) ?_
          refine qb_if_eq (tgt := 112) hΓ dX6_relay_105 (by decide) (fun h_105 => ?_) (fun h_105 => ?_)
          · refine qa_iconst (v := nI 0) hΓ dX6_relay_112 ic_0 ?_
            exact qr_i hR dX6_relay_113 ⟨_, M, rfl, hM, Fr.rf, by
              unfold spRelay
              rw [if_pos hC, tn_nI (by omega)]
              exact ⟨by rw [tn_nI (by decide)]; show nI 0 = nI (cnd (M 0) r (onS (M 0))).toNat; rw [show cnd (M 0) r (onS (M 0)) = false from h_105]; rfl, Sm.rf M⟩⟩
          · refine qa_iconst (v := nI 1) hΓ dX6_relay_108 ic_1 ?_
            refine qa_goto (tgt := 113) hΓ dX6_relay_109 (by decide) ?_
            exact qr_i hR dX6_relay_113 ⟨_, M, rfl, hM, Fr.rf, by
              unfold spRelay
              rw [if_pos hC, tn_nI (by omega)]
              exact ⟨by rw [tn_nI (by decide)]; show nI 1 = nI (cnd (M 0) r (onS (M 0))).toNat; rw [show cnd (M 0) r (onS (M 0)) = true from h_105]; rfl, Sm.rf M⟩⟩
    · refine qa_iconst (v := (-1)) hΓ dX6_relay_18 ic_m1 ?_
      exact qr_i hR dX6_relay_19 ⟨-1, M, rfl, hM, Fr.rf, by unfold spRelay; rw [if_neg (fun q => by first | exact of_decide_eq_false h_5 q.1 | exact of_decide_eq_false h_15 q.2)]; exact ⟨rfl, Sm.rf M⟩⟩

set_option maxRecDepth 100000 in
set_option maxHeartbeats 4000000 in
theorem c_X6_condition (l : Launch) (d : Nat) (hd : 2 ≤ d) {n k : Nat} {w : Nat → AC} {M : Bk} (hM : MdAt n w k M) {B : Nat} (hW : Wt (M 0) B) (hB : B < 900000000) (rl br su : Int32) : Sq l yX6_condition cX6_condition 4 (some .int) d [aR k, aI rl, aI br, aI su] n w (QM (spCond M rl br su) n k w) := by
  refine Sp.of (plainFor_of_name (by decide)) (Nat.le_of_ble_eq_true rfl) (fun Γ hΓ hR => ?_)
  show Γ 0 [aR k, aI rl, aI br, aI su] [] (0, 0) n w
  refine qa_aload_n hΓ dX6_condition_0 rfl ?_
  refine qa_iload_n hΓ dX6_condition_1 rfl ?_
  refine qc_V1 hΓ dX6_condition_2 lk_X6_82 vw_X6_isRelay (by omega) (c_X6_isRelay l (d - 1) (by omega) hM _) rfl hM.lt hM.o rfl rfl (Nat.le_of_ble_eq_true rfl) ?_
  refine qb_if_eq (tgt := 35) hΓ dX6_condition_5 (by decide) (fun h_5 => ?_) (fun h_5 => ?_)
  · refine qa_iconst (v := (-1)) hΓ dX6_condition_35 ic_m1 ?_
    refine qa_goto (tgt := 46) hΓ dX6_condition_36 (by decide) ?_
    exact qr_i hR dX6_condition_46 ⟨-1, M, rfl, hM, Fr.rf, by unfold spCond; rw [if_neg (fun q => of_decide_eq_false h_5 q.1)]; exact ⟨rfl, Sm.rf M⟩⟩
  · obtain ⟨r, hr, rfl⟩ := isR_of (by have := hW.2.1; omega) (of_decide_eq_true h_5)
    have h8 := hW.2.1
    have hm6 : vv (M 0) r 12 ≤ 6 := by have := hW.2.2.2 r hr 12 (by decide); simpa [bdF] using this
    refine qa_iload_n hΓ dX6_condition_8 rfl ?_
    refine qa_iconst (v := nI 0) hΓ dX6_condition_9 ic_0 ?_
    refine qa_aload_n hΓ dX6_condition_10 rfl ?_
    refine qa_iload_n hΓ dX6_condition_11 rfl ?_
    refine qa_bipush (v := nI 12) hΓ dX6_condition_12 bp_12 ?_
    refine qc_V1 hΓ dX6_condition_14 lk_X6_37 vw_X6_of (by omega) (c_X6_of l (d - 1) hM r _ (by omega) (by decide)) rfl hM.lt hM.o rfl rfl (Nat.le_of_ble_eq_true rfl) ?_
    refine qa_iconst (v := nI 1) hΓ dX6_condition_17 ic_1 ?_
    refine qa_isub hΓ dX6_condition_18 ?_
    refine qc_S1 hΓ dX6_condition_19 lk_X6_33 vw_X6_in (by omega) (c_X6_in l (d - 1) _ _ _) rfl rfl (Nat.le_of_ble_eq_true rfl) ?_
    refine qb_if_eq (tgt := 35) hΓ dX6_condition_22 (by decide) (fun h_22 => ?_) (fun h_22 => ?_)
    · refine qa_iconst (v := (-1)) hΓ dX6_condition_35 ic_m1 ?_
      refine qa_goto (tgt := 46) hΓ dX6_condition_36 (by decide) ?_
      exact qr_i hR dX6_condition_46 ⟨-1, M, rfl, hM, Fr.rf, by unfold spCond; rw [tn_nI (by omega), if_neg (fun q => by first | exact of_decide_eq_false h_22 q.2.1 | exact of_decide_eq_false h_32 q.2.2)]; exact ⟨rfl, Sm.rf M⟩⟩
    · refine qa_iload_n hΓ dX6_condition_25 rfl ?_
      refine qa_iconst (v := nI 0) hΓ dX6_condition_26 ic_0 ?_
      refine qa_bipush (v := nI 15) hΓ dX6_condition_27 bp_15 ?_
      refine qc_S1 hΓ dX6_condition_29 lk_X6_33 vw_X6_in (by omega) (c_X6_in l (d - 1) _ _ _) rfl rfl (Nat.le_of_ble_eq_true rfl) ?_
      refine qb_if_ne (tgt := 39) hΓ dX6_condition_32 (by decide) (fun h_32 => ?_) (fun h_32 => ?_)
      · have hC := And.intro (of_decide_eq_true h_5) (And.intro (of_decide_eq_true h_22) (of_decide_eq_true h_32))
        obtain ⟨b, hb, rfl⟩ := isR_of (by omega) hC.2.1
        obtain ⟨x, hx1, hx2, rfl⟩ := rng (by decide) hC.2.2 (by decide)
        refine qa_aload_n hΓ dX6_condition_39 rfl ?_
        refine qa_iload_n hΓ dX6_condition_40 rfl ?_
        refine qa_iload_n hΓ dX6_condition_41 rfl ?_
        refine qa_iload_n hΓ dX6_condition_42 rfl ?_
        refine qc_V1 hΓ dX6_condition_43 lk_X6_91 vw_X6_how (by omega) (c_X6_how l (d - 1) (by omega) hM r b x (by omega) (by omega) (by omega) (fun y hy => by have := hW.b hr hy; omega)) rfl hM.lt hM.o rfl rfl (Nat.le_of_ble_eq_true rfl) ?_
        exact qr_i hR dX6_condition_46 ⟨_, M, rfl, hM, Fr.rf, by unfold spCond; rw [tn_nI (by omega), if_pos hC, tn_nI (by omega), tn_nI (by omega)]; exact ⟨rfl, Sm.rf M⟩⟩
      · refine qa_iconst (v := (-1)) hΓ dX6_condition_35 ic_m1 ?_
        refine qa_goto (tgt := 46) hΓ dX6_condition_36 (by decide) ?_
        exact qr_i hR dX6_condition_46 ⟨-1, M, rfl, hM, Fr.rf, by unfold spCond; rw [tn_nI (by omega), if_neg (fun q => by first | exact of_decide_eq_false h_22 q.2.1 | exact of_decide_eq_false h_32 q.2.2)]; exact ⟨rfl, Sm.rf M⟩⟩

