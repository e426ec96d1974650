/-! The model: what each call answers and leaves (sp..), and that it does -/
def sdS (s : Nat → Nat) (r a b c : Nat) : Nat → Nat := upN (upN (upN s (ix r 0) a) (ix r 1) b) (ix r 2) c
def zrS (s : Nat → Nat) (r m : Nat) : Nat → Nat := fun j => if 3 + 25 * r ≤ j ∧ j < 3 + 25 * r + m then 0 else s j
def addS (s : Nat → Nat) (a b c : Nat) : Nat → Nat := sdS (zrS (upN s 1 (s 1 + 1)) (s 1) 25) (s 1) a b c
def spAdd (M : Bk) (u v x : Int32) (r : Int32) (M' : Bk) : Prop := if okD u v x then (if M 0 1 = 8 then r = -3 ∧ Sm M M' else r = nI (M 0 1) ∧ Op M (addS (M 0) (tn u) (tn v) (tn x)) M') else r = -1 ∧ Sm M M'
def sameD (s : Nat → Nat) (r a b c : Nat) : Prop := vv s r 0 = a ∧ vv s r 1 = b ∧ vv s r 2 = c
def spSD (M : Bk) (rl u v x : Int32) (r : Int32) (M' : Bk) : Prop := if isR (M 0 1) rl ∧ okD u v x then ((sameD (M 0) (tn rl) (tn u) (tn v) (tn x) → r = nI 0) ∧ (¬ sameD (M 0) (tn rl) (tn u) (tn v) (tn x) → r = nI 1)) ∧ Op M (sdS (M 0) (tn rl) (tn u) (tn v) (tn x)) M' else r = -1 ∧ Sm M M'
def scS (s : Nat → Nat) (r b : Nat) : Nat → Nat := if b = vv s r 12 then opS s r else s
def spSC (M : Bk) (rl br su hw : Int32) (r : Int32) (M' : Bk) : Prop := if isR (M 0 1) rl ∧ (nI 0 ≤ br ∧ br ≤ nI (vv (M 0) (tn rl) 12)) ∧ isS (M 0 1) su ∧ (nI 0 ≤ hw ∧ hw ≤ nI 2) then (if tn br = 6 then r = -3 ∧ Sm M M' else r = nI (how3 (scS (M 0) (tn rl) (tn br)) (tn rl) (tn br) (tn su)) ∧ Op M (lks (cnS (scS (M 0) (tn rl) (tn br)) (tn rl) (tn br) (tn su) (tn hw))).2 M') else r = -1 ∧ Sm M M'
def shS (s : Nat → Nat) (r lo hi : Nat) : Nat → Nat := fun j => if 3 + 25 * r + lo ≤ j ∧ j < 3 + 25 * r + hi then s (j + 2) else s j
def rmS (s : Nat → Nat) (r b : Nat) : Nat → Nat := shS (upN s (ix r 12) (vv s r 12 - 1)) r (13 + 2 * b) (13 + 2 * (vv s r 12 - 1))
def spRB (M : Bk) (rl br : Int32) (r : Int32) (M' : Bk) : Prop := if isR (M 0 1) rl ∧ (nI 0 ≤ br ∧ br ≤ nI (vv (M 0) (tn rl) 12) - nI 1) then r = nI (vv (M 0) (tn rl) 12 - 1) ∧ Op M (lks (rmS (M 0) (tn rl) (tn br))).2 M' else r = -1 ∧ Sm M M'
def prS (s : Nat → Nat) (key : Nat) : Nat → Nat := upN s 0 (s 0 ^^^ (1 <<< key))
def spPr (M : Bk) (ky on : Int32) (r : Int32) (M' : Bk) : Prop := if (nI 0 ≤ ky ∧ ky ≤ nI 7) ∧ (nI 0 ≤ on ∧ on ≤ nI 1) then (if ((M 0 0).testBit (tn ky)).toNat = tn on then r = -2 ∧ Sm M M' else r = nI (lks (prS (M 0) (tn ky))).1 ∧ Op M (lks (prS (M 0) (tn ky))).2 M') else r = -1 ∧ Sm M M'
def spPut (x hi : Nat) (M : Bk) (rl v : Int32) (r : Int32) (M' : Bk) : Prop := if isR (M 0 1) rl ∧ (nI 0 ≤ v ∧ v ≤ nI hi) then r = nI (vv (M 0) (tn rl) x) ∧ Op M (lks (upN (M 0) (ix (tn rl) x) (tn v))).2 M' else r = -1 ∧ Sm M M'
def spStep (M : Bk) (r : Int32) (M' : Bk) : Prop := match nx (M 0) false with
  | none => r = -2 ∧ Sm M M'
  | some e => r = nI (10 * (e / 4) + e % 4) ∧ Op M (hap (M 0) e) M'
def spSettle (M : Bk) (ev : Int32) (r : Int32) (M' : Bk) : Prop := if nI 1 ≤ ev ∧ ev ≤ nI 200 then r = nI (stl (M 0) false (tn ev)).1 ∧ Op M (stl (M 0) false (tn ev)).2 M' else r = -1 ∧ Sm M M'
theorem key_lt {a k : Nat} (ha : a < 256) (hk : k < 8) : a ^^^ (1 <<< k) < 256 := by
  apply Nat.xor_lt_two_pow (n := 8) ha
  rw [Nat.one_shiftLeft]
  exact Nat.pow_lt_pow_right (by decide) hk
theorem Wt.pr {s : Nat → Nat} {B k : Nat} (h : Wt s B) (hk : k < 8) : Wt (prS s k) B := by
  unfold prS
  refine ⟨by rw [upN_self]; exact key_lt h.1 hk, by rw [upN_ne _ _ _ (by decide)]; exact h.2.1, by rw [upN_ne _ _ _ (by decide)]; exact h.2.2.1, fun r hr x hx => ?_⟩
  rw [upN_ne _ _ _ (by decide)] at hr
  rw [vv_hd _ _ _ _ _ (by decide)]
  exact h.2.2.2 r hr x hx
theorem Wt.scS {s : Nat → Nat} {B r b : Nat} (h : Wt s B) (hb : b < 6) : Wt (scS s r b) B := by
  unfold Jvm.Pilot.@@N@@.scS
  split
  · exact h.opS (by omega)
  · exact h
theorem scS_hd (s : Nat → Nat) (r b : Nat) {j : Nat} (hj : j < 3) : scS s r b j = s j := by
  unfold scS opS
  split
  · rw [hd_up _ _ _ _ hj, hd_up _ _ _ _ hj, hd_up _ _ _ _ hj]
  · rfl
theorem Wt.rmS {s : Nat → Nat} {B r b : Nat} (h : Wt s B) (hm : vv s r 12 ≤ 6) : Wt (rmS s r b) B := by
  have h0 : Wt (upN s (ix r 12) (vv s r 12 - 1)) B := h.up (by decide) (by simp [bdF]; omega)
  have e : ∀ j, j < 3 → Jvm.Pilot.@@N@@.rmS s r b j = upN s (ix r 12) (vv s r 12 - 1) j := fun j hj => by
    unfold Jvm.Pilot.@@N@@.rmS shS
    rw [if_neg (by omega)]
  obtain ⟨g0, g1, g2, g3⟩ := h0
  refine ⟨by rw [e 0 (by decide)]; exact g0, by rw [e 1 (by decide)]; exact g1, by rw [e 2 (by decide)]; exact g2, fun r' hr' x hx => ?_⟩
  rw [e 1 (by decide)] at hr'
  unfold vv Jvm.Pilot.@@N@@.rmS shS
  split
  · rename_i q
    have e : r' = r := by omega
    subst e
    have := g3 r' hr' (x + 2) (by omega)
    unfold vv at this
    rw [show 3 + 25 * r' + (x + 2) = 3 + 25 * r' + x + 2 by omega] at this
    refine Nat.le_trans this ?_
    unfold bdF
    repeat' split
    all_goals omega
  · exact g3 r' hr' x hx
set_option maxRecDepth 100000 in
set_option maxHeartbeats 4000000 in
theorem c_X6_addRelay (l : Launch) (d : Nat) (hd : 1 ≤ d) {n k : Nat} {w : Nat → AC} {M : Bk} (hM : MdAt n w k M) {B : Nat} (hW : Wt (M 0) B) (hB : B < 900000000) (hp : M 5 0 ≤ 6) (u v x : Int32) : Sq l yX6_addRelay cX6_addRelay 6 (some .int) d [aR k, aI u, aI v, aI x] n w (QM (spAdd M u v x) n k w) := by
  refine Sp.of (plainFor_of_name (by decide)) (Nat.le_of_ble_eq_true rfl) (fun Γ hΓ hR => ?_)
  show Γ 0 [aR k, aI u, aI v, aI x, none, none] [] (0, 0) n w
  refine qa_iload_n hΓ dX6_addRelay_0 rfl ?_
  refine qa_iconst (v := nI 1) hΓ dX6_addRelay_1 ic_1 ?_
  refine qa_bipush (v := nI 20) hΓ dX6_addRelay_2 bp_20 ?_
  refine qc_S1 hΓ dX6_addRelay_4 lk_X6_33 vw_X6_in (by omega) (c_X6_in l (d - 1) _ _ _) rfl rfl (Nat.le_of_ble_eq_true rfl) ?_
  refine qb_if_eq (tgt := 29) hΓ dX6_addRelay_7 (by decide) (fun h_7 => ?_) (fun h_7 => ?_)
  · refine qa_iconst (v := (-1)) hΓ dX6_addRelay_29 ic_m1 ?_
    exact qr_i hR dX6_addRelay_30 ⟨-1, M, rfl, hM, Fr.rf, by unfold spAdd; rw [if_neg (fun q => by first | exact of_decide_eq_false h_7 (q.1) | exact of_decide_eq_false h_17 (q.2.1) | exact of_decide_eq_false h_26 (q.2.2))]; exact ⟨rfl, Sm.rf M⟩⟩
  · refine qa_iload_n hΓ dX6_addRelay_10 rfl ?_
    refine qa_iconst (v := nI 1) hΓ dX6_addRelay_11 ic_1 ?_
    refine qa_bipush (v := nI 20) hΓ dX6_addRelay_12 bp_20 ?_
    refine qc_S1 hΓ dX6_addRelay_14 lk_X6_33 vw_X6_in (by omega) (c_X6_in l (d - 1) _ _ _) rfl rfl (Nat.le_of_ble_eq_true rfl) ?_
    refine qb_if_eq (tgt := 29) hΓ dX6_addRelay_17 (by decide) (fun h_17 => ?_) (fun h_17 => ?_)
    · refine qa_iconst (v := (-1)) hΓ dX6_addRelay_29 ic_m1 ?_
      exact qr_i hR dX6_addRelay_30 ⟨-1, M, rfl, hM, Fr.rf, by unfold spAdd; rw [if_neg (fun q => by first | exact of_decide_eq_false h_7 (q.1) | exact of_decide_eq_false h_17 (q.2.1) | exact of_decide_eq_false h_26 (q.2.2))]; exact ⟨rfl, Sm.rf M⟩⟩
    · refine qa_iload_n hΓ dX6_addRelay_20 rfl ?_
      refine qa_iconst (v := nI 0) hΓ dX6_addRelay_21 ic_0 ?_
      refine qa_iconst (v := nI 5) hΓ dX6_addRelay_22 ic_5 ?_
      refine qc_S1 hΓ dX6_addRelay_23 lk_X6_33 vw_X6_in (by omega) (c_X6_in l (d - 1) _ _ _) rfl rfl (Nat.le_of_ble_eq_true rfl) ?_
      refine qb_if_ne (tgt := 31) hΓ dX6_addRelay_26 (by decide) (fun h_26 => ?_) (fun h_26 => ?_)
      · have hC : okD u v x := ⟨of_decide_eq_true h_7, of_decide_eq_true h_17, of_decide_eq_true h_26⟩
        obtain ⟨a, ha1, ha2, rfl⟩ := rng (by decide) hC.1 (by decide)
        obtain ⟨b, hb1, hb2, rfl⟩ := rng (by decide) hC.2.1 (by decide)
        obtain ⟨c, hc1, hc2, rfl⟩ := rng (by decide) hC.2.2 (by decide)
        have h8 := hW.2.1
        refine qa_aload_n hΓ dX6_addRelay_31 rfl ?_
        refine qa_get hΓ dX6_addRelay_32 fk_X6_7 hM.lt hM.o rfl ?_
        refine qa_iconst (v := nI 1) hΓ dX6_addRelay_35 ic_1 ?_
        refine qz_iald hΓ dX6_addRelay_36 (hM.lti (i := 1) (by decide)) hM.a0 (by omega) (by decide) ?_
        refine qa_bipush (v := nI 8) hΓ dX6_addRelay_37 bp_8 ?_
        refine qz_icmp_ne (tgt := 45) hΓ dX6_addRelay_39 (by decide) (by omega) (by omega) (fun h_39 => ?_) (fun h_39 => ?_)
        · obtain ⟨w0, hw0⟩ : ∃ X, X = w := ⟨_, rfl⟩
          refine qa_aload_n hΓ dX6_addRelay_45 rfl ?_
          refine qc_V0q hΓ dX6_addRelay_46 lk_X6_79 vw_X6_notes (by omega) (c_X6_notes l (d - 1) hM hp) rfl hM.lt hM.o rfl rfl (Nat.le_of_ble_eq_true rfl) (fun w hq => ?_)
          obtain ⟨M1, hM, hN, hF0⟩ := hq
          have hU := hN.mup
          have hU0 : M1 0 1 = M 0 1 := by rw [hU.1]
          rw [hw0.symm] at hF0
          refine qa_aload_n hΓ dX6_addRelay_49 rfl ?_
          refine qa_get hΓ dX6_addRelay_50 fk_X6_7 hM.lt hM.o rfl ?_
          refine qa_iconst (v := nI 1) hΓ dX6_addRelay_53 ic_1 ?_
          refine qz_iald hΓ dX6_addRelay_54 (hM.lti (i := 1) (by decide)) hM.a0 (by omega) (by decide) ?_
          refine qa_istore hΓ dX6_addRelay_55 (by decide) ?_
          refine qa_aload_n hΓ dX6_addRelay_57 rfl ?_
          refine qa_get hΓ dX6_addRelay_58 fk_X6_7 hM.lt hM.o rfl ?_
          refine qa_iconst (v := nI 1) hΓ dX6_addRelay_61 ic_1 ?_
          refine qa_dup2 hΓ dX6_addRelay_62 ?_
          refine qz_iald hΓ dX6_addRelay_63 (hM.lti (i := 1) (by decide)) hM.a0 (by omega) (by decide) ?_
          refine qa_iconst (v := nI 1) hΓ dX6_addRelay_64 ic_1 ?_
          refine qz_iadd hΓ dX6_addRelay_65 ?_
          refine qM_ast hΓ (N := 203) 0 (by decide) rfl rfl dX6_addRelay_66 hM (by omega) (fun w hM hF => ?_)
          have hF0 := hF0.tr hF
          rw [hU.1]
          obtain ⟨M2, hM, hU⟩ := Mup.setE hM hU
          rw [hU0] at hU
          obtain ⟨M0, hM0⟩ : ∃ X, X = M1 := ⟨_, rfl⟩
          rw [← hM0] at hU hN
          obtain ⟨M1, hM1⟩ : ∃ X, X = M2 := ⟨_, rfl⟩
          rw [← hM1] at hU hM
          refine qa_iconst (v := nI 0) hΓ dX6_addRelay_67 ic_0 ?_
          refine qa_istore hΓ dX6_addRelay_68 (by decide) ?_
          have hn1 : M1 0 1 = M 0 1 + 1 := by rw [hU.1]; exact upN_self _ _ _
          have loop : ∀ (m i : Nat) (w1 : Nat → AC) (M2 : Bk), i ≤ 25 → 25 < i + m → MdAt n w1 k M2 → Mup M0 (zrS (upN (M 0) 1 (M 0 1 + 1)) (M 0 1) i) M2 → Fr k 6 w0 w1 → Γ 70 [aR k, aZ a, aZ b, aZ c, aZ (M 0 1), aZ i] [] (0, 0) n w1 := by
            intro m
            induction m with
            | zero => intro i w1 M2 h1 h2; exact absurd h2 (by omega)
            | succ m ih =>
              intro i w M1 hi hm hM hU hF0
              refine qa_iload hΓ dX6_addRelay_70 rfl ?_
              refine qa_bipush (v := nI 25) hΓ dX6_addRelay_72 bp_25 ?_
              refine qz_icmp_ge (tgt := 92) hΓ dX6_addRelay_74 (by decide) (by omega) (by omega) (fun h_74 => ?_) (fun h_74 => ?_)
              · refine qa_aload_n hΓ dX6_addRelay_92 rfl ?_
                refine qa_iload hΓ dX6_addRelay_93 rfl ?_
                refine qa_iconst (v := nI 0) hΓ dX6_addRelay_95 ic_0 ?_
                refine qa_iload_n hΓ dX6_addRelay_96 rfl ?_
                refine qc_V0q hΓ dX6_addRelay_97 lk_X6_49 vw_X6_puts (by omega) (c_X6_puts l (d - 1) hM _ _ _ (by omega) (by omega)) rfl hM.lt hM.o rfl rfl (Nat.le_of_ble_eq_true rfl) (fun w hq => ?_)
                obtain ⟨hM, hF⟩ := hq
                have hF0 := hF0.tr hF
                obtain ⟨M1, hM, hU⟩ := Mup.putE hM hU
                refine qa_aload_n hΓ dX6_addRelay_100 rfl ?_
                refine qa_iload hΓ dX6_addRelay_101 rfl ?_
                refine qa_iconst (v := nI 1) hΓ dX6_addRelay_103 ic_1 ?_
                refine qa_iload_n hΓ dX6_addRelay_104 rfl ?_
                refine qc_V0q hΓ dX6_addRelay_105 lk_X6_49 vw_X6_puts (by omega) (c_X6_puts l (d - 1) hM _ _ _ (by omega) (by omega)) rfl hM.lt hM.o rfl rfl (Nat.le_of_ble_eq_true rfl) (fun w hq => ?_)
                obtain ⟨hM, hF⟩ := hq
                have hF0 := hF0.tr hF
                obtain ⟨M1, hM, hU⟩ := Mup.putE hM hU
                refine qa_aload_n hΓ dX6_addRelay_108 rfl ?_
                refine qa_iload hΓ dX6_addRelay_109 rfl ?_
                refine qa_iconst (v := nI 2) hΓ dX6_addRelay_111 ic_2 ?_
                refine qa_iload_n hΓ dX6_addRelay_112 rfl ?_
                refine qc_V0q hΓ dX6_addRelay_113 lk_X6_49 vw_X6_puts (by omega) (c_X6_puts l (d - 1) hM _ _ _ (by omega) (by omega)) rfl hM.lt hM.o rfl rfl (Nat.le_of_ble_eq_true rfl) (fun w hq => ?_)
                obtain ⟨hM, hF⟩ := hq
                have hF0 := hF0.tr hF
                obtain ⟨M1, hM, hU⟩ := Mup.putE hM hU
                refine qa_iload hΓ dX6_addRelay_116 rfl ?_
                exact qr_i hR dX6_addRelay_118 ⟨_, M1, rfl, hM, hw0 ▸ hF0, by
                  unfold spAdd
                  rw [if_pos hC, if_neg h_39, tn_nI (by omega), tn_nI (by omega), tn_nI (by omega)]
                  exact ⟨rfl, Op.of hN (by rw [show i = 25 by omega] at hU; exact hU)⟩⟩
              · refine qa_aload_n hΓ dX6_addRelay_77 rfl ?_
                refine qa_iload hΓ dX6_addRelay_78 rfl ?_
                refine qa_iload hΓ dX6_addRelay_80 rfl ?_
                refine qa_iconst (v := nI 0) hΓ dX6_addRelay_82 ic_0 ?_
                refine qc_V0q hΓ dX6_addRelay_83 lk_X6_49 vw_X6_puts (by omega) (c_X6_puts l (d - 1) hM _ _ _ (by omega) (by omega)) rfl hM.lt hM.o rfl rfl (Nat.le_of_ble_eq_true rfl) (fun w hq => ?_)
                obtain ⟨hM, hF⟩ := hq
                have hF0 := hF0.tr hF
                obtain ⟨M1, hM, hU⟩ := Mup.putE hM hU
                refine qz_iinc hΓ dX6_addRelay_86 ii_1 rfl (by decide) ?_
                refine qa_goto (tgt := 70) hΓ dX6_addRelay_89 (by decide) ?_
                refine ih (i + 1) w M1 (by omega) (by omega) hM ?_ hF0
                refine (?_ : zrS _ _ (i + 1) = _) ▸ hU
                funext j
                unfold zrS upN ix
                dsimp only
                by_cases q : j = 3 + 25 * M 0 1 + i
                · rw [if_pos q, if_pos (by omega)]
                · rw [if_neg q]
                  by_cases q2 : 3 + 25 * M 0 1 ≤ j ∧ j < 3 + 25 * M 0 1 + i
                  · rw [if_pos q2, if_pos (by omega)]
                  · rw [if_neg q2, if_neg (by omega)]
          exact loop 26 0 w M1 (by omega) (by omega) hM (by refine (?_ : zrS _ _ 0 = _) ▸ hU; funext j; unfold zrS; rw [if_neg (by omega)]) hF0
        · refine qa_bipush (v := (-3)) hΓ dX6_addRelay_42 bp_m3 ?_
          exact qr_i hR dX6_addRelay_44 ⟨-3, M, rfl, hM, Fr.rf, by unfold spAdd; rw [if_pos hC, if_pos h_39]; exact ⟨rfl, Sm.rf M⟩⟩
      · refine qa_iconst (v := (-1)) hΓ dX6_addRelay_29 ic_m1 ?_
        exact qr_i hR dX6_addRelay_30 ⟨-1, M, rfl, hM, Fr.rf, by unfold spAdd; rw [if_neg (fun q => by first | exact of_decide_eq_false h_7 (q.1) | exact of_decide_eq_false h_17 (q.2.1) | exact of_decide_eq_false h_26 (q.2.2))]; exact ⟨rfl, Sm.rf M⟩⟩

set_option maxRecDepth 100000 in
set_option maxHeartbeats 4000000 in
theorem c_X6_setDelays (l : Launch) (d : Nat) (hd : 2 ≤ d) {n k : Nat} {w : Nat → AC} {M : Bk} (hM : MdAt n w k M) {B : Nat} (hW : Wt (M 0) B) (hB : B < 900000000) (hp : M 5 0 ≤ 6) (rl u v x : Int32) : Sq l yX6_setDelays cX6_setDelays 6 (some .int) d [aR k, aI rl, aI u, aI v, aI x] n w (QM (spSD M rl u v x) n k w) := by
  refine Sp.of (plainFor_of_name (by decide)) (Nat.le_of_ble_eq_true rfl) (fun Γ hΓ hR => ?_)
  show Γ 0 [aR k, aI rl, aI u, aI v, aI x, none] [] (0, 0) n w
  refine qa_aload_n hΓ dX6_setDelays_0 rfl ?_
  refine qa_iload_n hΓ dX6_setDelays_1 rfl ?_
  refine qc_V1 hΓ dX6_setDelays_2 lk_X6_82 vw_X6_isRelay (by omega) (c_X6_isRelay l (d - 1) (by omega) hM _) rfl hM.lt hM.o rfl rfl (Nat.le_of_ble_eq_true rfl) ?_
  refine qb_if_eq (tgt := 38) hΓ dX6_setDelays_5 (by decide) (fun h_5 => ?_) (fun h_5 => ?_)
  · refine qa_iconst (v := (-1)) hΓ dX6_setDelays_38 ic_m1 ?_
    exact qr_i hR dX6_setDelays_39 ⟨-1, M, rfl, hM, Fr.rf, by unfold spSD; rw [if_neg (fun q => by first | exact of_decide_eq_false h_5 (q.1) | exact of_decide_eq_false h_15 (q.2.1) | exact of_decide_eq_false h_25 (q.2.2.1) | exact of_decide_eq_false h_35 (q.2.2.2))]; exact ⟨rfl, Sm.rf M⟩⟩
  · refine qa_iload_n hΓ dX6_setDelays_8 rfl ?_
    refine qa_iconst (v := nI 1) hΓ dX6_setDelays_9 ic_1 ?_
    refine qa_bipush (v := nI 20) hΓ dX6_setDelays_10 bp_20 ?_
    refine qc_S1 hΓ dX6_setDelays_12 lk_X6_33 vw_X6_in (by omega) (c_X6_in l (d - 1) _ _ _) rfl rfl (Nat.le_of_ble_eq_true rfl) ?_
    refine qb_if_eq (tgt := 38) hΓ dX6_setDelays_15 (by decide) (fun h_15 => ?_) (fun h_15 => ?_)
    · refine qa_iconst (v := (-1)) hΓ dX6_setDelays_38 ic_m1 ?_
      exact qr_i hR dX6_setDelays_39 ⟨-1, M, rfl, hM, Fr.rf, by unfold spSD; rw [if_neg (fun q => by first | exact of_decide_eq_false h_5 (q.1) | exact of_decide_eq_false h_15 (q.2.1) | exact of_decide_eq_false h_25 (q.2.2.1) | exact of_decide_eq_false h_35 (q.2.2.2))]; exact ⟨rfl, Sm.rf M⟩⟩
    · refine qa_iload_n hΓ dX6_setDelays_18 rfl ?_
      refine qa_iconst (v := nI 1) hΓ dX6_setDelays_19 ic_1 ?_
      refine qa_bipush (v := nI 20) hΓ dX6_setDelays_20 bp_20 ?_
      refine qc_S1 hΓ dX6_setDelays_22 lk_X6_33 vw_X6_in (by omega) (c_X6_in l (d - 1) _ _ _) rfl rfl (Nat.le_of_ble_eq_true rfl) ?_
      refine qb_if_eq (tgt := 38) hΓ dX6_setDelays_25 (by decide) (fun h_25 => ?_) (fun h_25 => ?_)
      · refine qa_iconst (v := (-1)) hΓ dX6_setDelays_38 ic_m1 ?_
        exact qr_i hR dX6_setDelays_39 ⟨-1, M, rfl, hM, Fr.rf, by unfold spSD; rw [if_neg (fun q => by first | exact of_decide_eq_false h_5 (q.1) | exact of_decide_eq_false h_15 (q.2.1) | exact of_decide_eq_false h_25 (q.2.2.1) | exact of_decide_eq_false h_35 (q.2.2.2))]; exact ⟨rfl, Sm.rf M⟩⟩
      · refine qa_iload hΓ dX6_setDelays_28 rfl ?_
        refine qa_iconst (v := nI 0) hΓ dX6_setDelays_30 ic_0 ?_
        refine qa_iconst (v := nI 5) hΓ dX6_setDelays_31 ic_5 ?_
        refine qc_S1 hΓ dX6_setDelays_32 lk_X6_33 vw_X6_in (by omega) (c_X6_in l (d - 1) _ _ _) rfl rfl (Nat.le_of_ble_eq_true rfl) ?_
        refine qb_if_ne (tgt := 40) hΓ dX6_setDelays_35 (by decide) (fun h_35 => ?_) (fun h_35 => ?_)
        · have hC : isR (M 0 1) rl ∧ okD u v x := ⟨of_decide_eq_true h_5, of_decide_eq_true h_15, of_decide_eq_true h_25, of_decide_eq_true h_35⟩
          obtain ⟨r, hr, rfl⟩ := isR_of (by have := hW.2.1; omega) hC.1
          obtain ⟨a, ha1, ha2, rfl⟩ := rng (by decide) hC.2.1 (by decide)
          obtain ⟨b, hb1, hb2, rfl⟩ := rng (by decide) hC.2.2.1 (by decide)
          obtain ⟨c, hc1, hc2, rfl⟩ := rng (by decide) hC.2.2.2 (by decide)
          have h8 := hW.2.1
          have q0 := hW.b hr (x := 0) (by decide)
          have q1 := hW.b hr (x := 1) (by decide)
          have q2 := hW.b hr (x := 2) (by decide)
          refine qa_aload_n hΓ dX6_setDelays_40 rfl ?_
          refine qc_V0q hΓ dX6_setDelays_41 lk_X6_79 vw_X6_notes (by omega) (c_X6_notes l (d - 1) hM hp) rfl hM.lt hM.o rfl rfl (Nat.le_of_ble_eq_true rfl) (fun w hq => ?_)
          obtain ⟨M1, hM, hN, hF0⟩ := hq
          have hU := hN.mup
          refine qa_aload_n hΓ dX6_setDelays_44 rfl ?_
          refine qa_iload_n hΓ dX6_setDelays_45 rfl ?_
          refine qa_iconst (v := nI 0) hΓ dX6_setDelays_46 ic_0 ?_
          refine qc_V1 hΓ dX6_setDelays_47 lk_X6_37 vw_X6_of (by omega) (c_X6_ofU l (d - 1) hM hU _ _ (by omega) (by omega)) rfl hM.lt hM.o rfl rfl (Nat.le_of_ble_eq_true rfl) ?_
          refine qa_iload_n hΓ dX6_setDelays_50 rfl ?_
          refine qz_icmp_ne (tgt := 79) hΓ dX6_setDelays_51 (by decide) (by omega) (by omega) (fun h_51 => ?_) (fun h_51 => ?_)
          · refine qa_iconst (v := nI 0) hΓ dX6_setDelays_79 ic_0 ?_
            refine qa_istore hΓ dX6_setDelays_80 (by decide) ?_
            refine qa_aload_n hΓ dX6_setDelays_82 rfl ?_
            refine qa_iload_n hΓ dX6_setDelays_83 rfl ?_
            refine qa_iconst (v := nI 0) hΓ dX6_setDelays_84 ic_0 ?_
            refine qa_iload_n hΓ dX6_setDelays_85 rfl ?_
            refine qc_V0q hΓ dX6_setDelays_86 lk_X6_49 vw_X6_puts (by omega) (c_X6_puts l (d - 1) hM _ _ _ (by omega) (by omega)) rfl hM.lt hM.o rfl rfl (Nat.le_of_ble_eq_true rfl) (fun w hq => ?_)
            obtain ⟨hM, hF⟩ := hq
            have hF0 := hF0.tr hF
            obtain ⟨M1, hM, hU⟩ := Mup.putE hM hU
            refine qa_aload_n hΓ dX6_setDelays_89 rfl ?_
            refine qa_iload_n hΓ dX6_setDelays_90 rfl ?_
            refine qa_iconst (v := nI 1) hΓ dX6_setDelays_91 ic_1 ?_
            refine qa_iload_n hΓ dX6_setDelays_92 rfl ?_
            refine qc_V0q hΓ dX6_setDelays_93 lk_X6_49 vw_X6_puts (by omega) (c_X6_puts l (d - 1) hM _ _ _ (by omega) (by omega)) rfl hM.lt hM.o rfl rfl (Nat.le_of_ble_eq_true rfl) (fun w hq => ?_)
            obtain ⟨hM, hF⟩ := hq
            have hF0 := hF0.tr hF
            obtain ⟨M1, hM, hU⟩ := Mup.putE hM hU
            refine qa_aload_n hΓ dX6_setDelays_96 rfl ?_
            refine qa_iload_n hΓ dX6_setDelays_97 rfl ?_
            refine qa_iconst (v := nI 2) hΓ dX6_setDelays_98 ic_2 ?_
            refine qa_iload hΓ dX6_setDelays_99 rfl ?_
            refine qc_V0q hΓ dX6_setDelays_101 lk_X6_49 vw_X6_puts (by omega) (c_X6_puts l (d - 1) hM _ _ _ (by omega) (by omega)) rfl hM.lt hM.o rfl rfl (Nat.le_of_ble_eq_true rfl) (fun w hq => ?_)
            obtain ⟨hM, hF⟩ := hq
            have hF0 := hF0.tr hF
            obtain ⟨M1, hM, hU⟩ := Mup.putE hM hU
            refine qa_iload hΓ dX6_setDelays_104 rfl ?_
            refine qz_if_eq (tgt := 113) hΓ dX6_setDelays_106 (by decide) (by decide) (fun _ => ?_) (fun h => absurd h (by decide))
            refine qa_iconst (v := nI 1) hΓ dX6_setDelays_113 ic_1 ?_
            exact qr_i hR dX6_setDelays_114 ⟨_, M1, rfl, hM, hF0, by
              unfold spSD
              rw [if_pos hC, tn_nI (by omega), tn_nI (by omega), tn_nI (by omega), tn_nI (by omega)]
              exact ⟨⟨fun q => absurd q (show ¬ sameD _ _ _ _ _ from (fun q => by first | exact h_51 q.1 | exact h_61 q.2.1 | exact h_72 q.2.2)), fun _ => rfl⟩, Op.of hN hU⟩⟩
          · refine qa_aload_n hΓ dX6_setDelays_54 rfl ?_
            refine qa_iload_n hΓ dX6_setDelays_55 rfl ?_
            refine qa_iconst (v := nI 1) hΓ dX6_setDelays_56 ic_1 ?_
            refine qc_V1 hΓ dX6_setDelays_57 lk_X6_37 vw_X6_of (by omega) (c_X6_ofU l (d - 1) hM hU _ _ (by omega) (by omega)) rfl hM.lt hM.o rfl rfl (Nat.le_of_ble_eq_true rfl) ?_
            refine qa_iload_n hΓ dX6_setDelays_60 rfl ?_
            refine qz_icmp_ne (tgt := 79) hΓ dX6_setDelays_61 (by decide) (by omega) (by omega) (fun h_61 => ?_) (fun h_61 => ?_)
            · refine qa_iconst (v := nI 0) hΓ dX6_setDelays_79 ic_0 ?_
              refine qa_istore hΓ dX6_setDelays_80 (by decide) ?_
              refine qa_aload_n hΓ dX6_setDelays_82 rfl ?_
              refine qa_iload_n hΓ dX6_setDelays_83 rfl ?_
              refine qa_iconst (v := nI 0) hΓ dX6_setDelays_84 ic_0 ?_
              refine qa_iload_n hΓ dX6_setDelays_85 rfl ?_
              refine qc_V0q hΓ dX6_setDelays_86 lk_X6_49 vw_X6_puts (by omega) (c_X6_puts l (d - 1) hM _ _ _ (by omega) (by omega)) rfl hM.lt hM.o rfl rfl (Nat.le_of_ble_eq_true rfl) (fun w hq => ?_)
              obtain ⟨hM, hF⟩ := hq
              have hF0 := hF0.tr hF
              obtain ⟨M1, hM, hU⟩ := Mup.putE hM hU
              refine qa_aload_n hΓ dX6_setDelays_89 rfl ?_
              refine qa_iload_n hΓ dX6_setDelays_90 rfl ?_
              refine qa_iconst (v := nI 1) hΓ dX6_setDelays_91 ic_1 ?_
              refine qa_iload_n hΓ dX6_setDelays_92 rfl ?_
              refine qc_V0q hΓ dX6_setDelays_93 lk_X6_49 vw_X6_puts (by omega) (c_X6_puts l (d - 1) hM _ _ _ (by omega) (by omega)) rfl hM.lt hM.o rfl rfl (Nat.le_of_ble_eq_true rfl) (fun w hq => ?_)
              obtain ⟨hM, hF⟩ := hq
              have hF0 := hF0.tr hF
              obtain ⟨M1, hM, hU⟩ := Mup.putE hM hU
              refine qa_aload_n hΓ dX6_setDelays_96 rfl ?_
              refine qa_iload_n hΓ dX6_setDelays_97 rfl ?_
              refine qa_iconst (v := nI 2) hΓ dX6_setDelays_98 ic_2 ?_
              refine qa_iload hΓ dX6_setDelays_99 rfl ?_
              refine qc_V0q hΓ dX6_setDelays_101 lk_X6_49 vw_X6_puts (by omega) (c_X6_puts l (d - 1) hM _ _ _ (by omega) (by omega)) rfl hM.lt hM.o rfl rfl (Nat.le_of_ble_eq_true rfl) (fun w hq => ?_)
              obtain ⟨hM, hF⟩ := hq
              have hF0 := hF0.tr hF
              obtain ⟨M1, hM, hU⟩ := Mup.putE hM hU
              refine qa_iload hΓ dX6_setDelays_104 rfl ?_
              refine qz_if_eq (tgt := 113) hΓ dX6_setDelays_106 (by decide) (by decide) (fun _ => ?_) (fun h => absurd h (by decide))
              refine qa_iconst (v := nI 1) hΓ dX6_setDelays_113 ic_1 ?_
              exact qr_i hR dX6_setDelays_114 ⟨_, M1, rfl, hM, hF0, by
                unfold spSD
                rw [if_pos hC, tn_nI (by omega), tn_nI (by omega), tn_nI (by omega), tn_nI (by omega)]
                exact ⟨⟨fun q => absurd q (show ¬ sameD _ _ _ _ _ from (fun q => by first | exact h_51 q.1 | exact h_61 q.2.1 | exact h_72 q.2.2)), fun _ => rfl⟩, Op.of hN hU⟩⟩
            · refine qa_aload_n hΓ dX6_setDelays_64 rfl ?_
              refine qa_iload_n hΓ dX6_setDelays_65 rfl ?_
              refine qa_iconst (v := nI 2) hΓ dX6_setDelays_66 ic_2 ?_
              refine qc_V1 hΓ dX6_setDelays_67 lk_X6_37 vw_X6_of (by omega) (c_X6_ofU l (d - 1) hM hU _ _ (by omega) (by omega)) rfl hM.lt hM.o rfl rfl (Nat.le_of_ble_eq_true rfl) ?_
              refine qa_iload hΓ dX6_setDelays_70 rfl ?_
              refine qz_icmp_ne (tgt := 79) hΓ dX6_setDelays_72 (by decide) (by omega) (by omega) (fun h_72 => ?_) (fun h_72 => ?_)
              · refine qa_iconst (v := nI 0) hΓ dX6_setDelays_79 ic_0 ?_
                refine qa_istore hΓ dX6_setDelays_80 (by decide) ?_
                refine qa_aload_n hΓ dX6_setDelays_82 rfl ?_
                refine qa_iload_n hΓ dX6_setDelays_83 rfl ?_
                refine qa_iconst (v := nI 0) hΓ dX6_setDelays_84 ic_0 ?_
                refine qa_iload_n hΓ dX6_setDelays_85 rfl ?_
                refine qc_V0q hΓ dX6_setDelays_86 lk_X6_49 vw_X6_puts (by omega) (c_X6_puts l (d - 1) hM _ _ _ (by omega) (by omega)) rfl hM.lt hM.o rfl rfl (Nat.le_of_ble_eq_true rfl) (fun w hq => ?_)
                obtain ⟨hM, hF⟩ := hq
                have hF0 := hF0.tr hF
                obtain ⟨M1, hM, hU⟩ := Mup.putE hM hU
                refine qa_aload_n hΓ dX6_setDelays_89 rfl ?_
                refine qa_iload_n hΓ dX6_setDelays_90 rfl ?_
                refine qa_iconst (v := nI 1) hΓ dX6_setDelays_91 ic_1 ?_
                refine qa_iload_n hΓ dX6_setDelays_92 rfl ?_
                refine qc_V0q hΓ dX6_setDelays_93 lk_X6_49 vw_X6_puts (by omega) (c_X6_puts l (d - 1) hM _ _ _ (by omega) (by omega)) rfl hM.lt hM.o rfl rfl (Nat.le_of_ble_eq_true rfl) (fun w hq => ?_)
                obtain ⟨hM, hF⟩ := hq
                have hF0 := hF0.tr hF
                obtain ⟨M1, hM, hU⟩ := Mup.putE hM hU
                refine qa_aload_n hΓ dX6_setDelays_96 rfl ?_
                refine qa_iload_n hΓ dX6_setDelays_97 rfl ?_
                refine qa_iconst (v := nI 2) hΓ dX6_setDelays_98 ic_2 ?_
                refine qa_iload hΓ dX6_setDelays_99 rfl ?_
                refine qc_V0q hΓ dX6_setDelays_101 lk_X6_49 vw_X6_puts (by omega) (c_X6_puts l (d - 1) hM _ _ _ (by omega) (by omega)) rfl hM.lt hM.o rfl rfl (Nat.le_of_ble_eq_true rfl) (fun w hq => ?_)
                obtain ⟨hM, hF⟩ := hq
                have hF0 := hF0.tr hF
                obtain ⟨M1, hM, hU⟩ := Mup.putE hM hU
                refine qa_iload hΓ dX6_setDelays_104 rfl ?_
                refine qz_if_eq (tgt := 113) hΓ dX6_setDelays_106 (by decide) (by decide) (fun _ => ?_) (fun h => absurd h (by decide))
                refine qa_iconst (v := nI 1) hΓ dX6_setDelays_113 ic_1 ?_
                exact qr_i hR dX6_setDelays_114 ⟨_, M1, rfl, hM, hF0, by
                  unfold spSD
                  rw [if_pos hC, tn_nI (by omega), tn_nI (by omega), tn_nI (by omega), tn_nI (by omega)]
                  exact ⟨⟨fun q => absurd q (show ¬ sameD _ _ _ _ _ from (fun q => by first | exact h_51 q.1 | exact h_61 q.2.1 | exact h_72 q.2.2)), fun _ => rfl⟩, Op.of hN hU⟩⟩
              · refine qa_iconst (v := nI 1) hΓ dX6_setDelays_75 ic_1 ?_
                refine qa_goto (tgt := 80) hΓ dX6_setDelays_76 (by decide) ?_
                refine qa_istore hΓ dX6_setDelays_80 (by decide) ?_
                refine qa_aload_n hΓ dX6_setDelays_82 rfl ?_
                refine qa_iload_n hΓ dX6_setDelays_83 rfl ?_
                refine qa_iconst (v := nI 0) hΓ dX6_setDelays_84 ic_0 ?_
                refine qa_iload_n hΓ dX6_setDelays_85 rfl ?_
                refine qc_V0q hΓ dX6_setDelays_86 lk_X6_49 vw_X6_puts (by omega) (c_X6_puts l (d - 1) hM _ _ _ (by omega) (by omega)) rfl hM.lt hM.o rfl rfl (Nat.le_of_ble_eq_true rfl) (fun w hq => ?_)
                obtain ⟨hM, hF⟩ := hq
                have hF0 := hF0.tr hF
                obtain ⟨M1, hM, hU⟩ := Mup.putE hM hU
                refine qa_aload_n hΓ dX6_setDelays_89 rfl ?_
                refine qa_iload_n hΓ dX6_setDelays_90 rfl ?_
                refine qa_iconst (v := nI 1) hΓ dX6_setDelays_91 ic_1 ?_
                refine qa_iload_n hΓ dX6_setDelays_92 rfl ?_
                refine qc_V0q hΓ dX6_setDelays_93 lk_X6_49 vw_X6_puts (by omega) (c_X6_puts l (d - 1) hM _ _ _ (by omega) (by omega)) rfl hM.lt hM.o rfl rfl (Nat.le_of_ble_eq_true rfl) (fun w hq => ?_)
                obtain ⟨hM, hF⟩ := hq
                have hF0 := hF0.tr hF
                obtain ⟨M1, hM, hU⟩ := Mup.putE hM hU
                refine qa_aload_n hΓ dX6_setDelays_96 rfl ?_
                refine qa_iload_n hΓ dX6_setDelays_97 rfl ?_
                refine qa_iconst (v := nI 2) hΓ dX6_setDelays_98 ic_2 ?_
                refine qa_iload hΓ dX6_setDelays_99 rfl ?_
                refine qc_V0q hΓ dX6_setDelays_101 lk_X6_49 vw_X6_puts (by omega) (c_X6_puts l (d - 1) hM _ _ _ (by omega) (by omega)) rfl hM.lt hM.o rfl rfl (Nat.le_of_ble_eq_true rfl) (fun w hq => ?_)
                obtain ⟨hM, hF⟩ := hq
                have hF0 := hF0.tr hF
                obtain ⟨M1, hM, hU⟩ := Mup.putE hM hU
                refine qa_iload hΓ dX6_setDelays_104 rfl ?_
                refine qz_if_eq (tgt := 113) hΓ dX6_setDelays_106 (by decide) (by decide) (fun h => absurd h (by decide)) (fun _ => ?_)
                refine qa_iconst (v := nI 0) hΓ dX6_setDelays_109 ic_0 ?_
                refine qa_goto (tgt := 114) hΓ dX6_setDelays_110 (by decide) ?_
                exact qr_i hR dX6_setDelays_114 ⟨_, M1, rfl, hM, hF0, by
                  unfold spSD
                  rw [if_pos hC, tn_nI (by omega), tn_nI (by omega), tn_nI (by omega), tn_nI (by omega)]
                  exact ⟨⟨fun _ => rfl, fun q => absurd (show sameD _ _ _ _ _ from ⟨h_51, h_61, h_72⟩) q⟩, Op.of hN hU⟩⟩
        · refine qa_iconst (v := (-1)) hΓ dX6_setDelays_38 ic_m1 ?_
          exact qr_i hR dX6_setDelays_39 ⟨-1, M, rfl, hM, Fr.rf, by unfold spSD; rw [if_neg (fun q => by first | exact of_decide_eq_false h_5 (q.1) | exact of_decide_eq_false h_15 (q.2.1) | exact of_decide_eq_false h_25 (q.2.2.1) | exact of_decide_eq_false h_35 (q.2.2.2))]; exact ⟨rfl, Sm.rf M⟩⟩

set_option maxRecDepth 100000 in
set_option maxHeartbeats 4000000 in
theorem c_X6_setFault (l : Launch) (d : Nat) (hd : 3 ≤ d) {n k : Nat} {w : Nat → AC} {M : Bk} (hM : MdAt n w k M) {B : Nat} (hW : Wt (M 0) B) (hB : B < 900000000) (hp : M 5 0 ≤ 6) (rl v : Int32) : Sq l yX6_setFault cX6_setFault 4 (some .int) d [aR k, aI rl, aI v] n w (QM (spPut 6 2 M rl v) n k w) := by
  refine Sp.of (plainFor_of_name (by decide)) (Nat.le_of_ble_eq_true rfl) (fun Γ hΓ hR => ?_)
  show Γ 0 [aR k, aI rl, aI v, none] [] (0, 0) n w
  refine qa_aload_n hΓ dX6_setFault_0 rfl ?_
  refine qa_iload_n hΓ dX6_setFault_1 rfl ?_
  refine qc_V1 hΓ dX6_setFault_2 lk_X6_82 vw_X6_isRelay (by omega) (c_X6_isRelay l (d - 1) (by omega) hM _) rfl hM.lt hM.o rfl rfl (Nat.le_of_ble_eq_true rfl) ?_
  refine qb_if_eq (tgt := 17) hΓ dX6_setFault_5 (by decide) (fun h_5 => ?_) (fun h_5 => ?_)
  · refine qa_iconst (v := (-1)) hΓ dX6_setFault_17 ic_m1 ?_
    exact qr_i hR dX6_setFault_18 ⟨-1, M, rfl, hM, Fr.rf, by unfold spPut; rw [if_neg (fun q => by first | exact of_decide_eq_false h_5 (q.1) | exact of_decide_eq_false h_14 (q.2))]; exact ⟨rfl, Sm.rf M⟩⟩
  · refine qa_iload_n hΓ dX6_setFault_8 rfl ?_
    refine qa_iconst (v := nI 0) hΓ dX6_setFault_9 ic_0 ?_
    refine qa_iconst (v := nI 2) hΓ dX6_setFault_10 ic_2 ?_
    refine qc_S1 hΓ dX6_setFault_11 lk_X6_33 vw_X6_in (by omega) (c_X6_in l (d - 1) _ _ _) rfl rfl (Nat.le_of_ble_eq_true rfl) ?_
    refine qb_if_ne (tgt := 19) hΓ dX6_setFault_14 (by decide) (fun h_14 => ?_) (fun h_14 => ?_)
    · have hC : isR (M 0 1) rl ∧ (nI 0 ≤ v ∧ v ≤ nI 2) := ⟨of_decide_eq_true h_5, of_decide_eq_true h_14⟩
      obtain ⟨r, hr, rfl⟩ := isR_of (by have := hW.2.1; omega) hC.1
      obtain ⟨f, hf1, hf2, rfl⟩ := rng (by decide) hC.2 (by decide)
      have h8 := hW.2.1
      have hW1 : Wt (upN (M 0) (ix r 6) f) B := hW.up (by decide) (by simpa [bdF] using hf2)
      refine qa_aload_n hΓ dX6_setFault_19 rfl ?_
      refine qc_V0q hΓ dX6_setFault_20 lk_X6_79 vw_X6_notes (by omega) (c_X6_notes l (d - 1) hM hp) rfl hM.lt hM.o rfl rfl (Nat.le_of_ble_eq_true rfl) (fun w hq => ?_)
      obtain ⟨M1, hM, hN, hF0⟩ := hq
      have hU := hN.mup
      refine qa_aload_n hΓ dX6_setFault_23 rfl ?_
      refine qa_iload_n hΓ dX6_setFault_24 rfl ?_
      refine qa_bipush (v := nI 6) hΓ dX6_setFault_25 bp_6 ?_
      refine qc_V1 hΓ dX6_setFault_27 lk_X6_37 vw_X6_of (by omega) (c_X6_ofU l (d - 1) hM hU _ _ (by omega) (by omega)) rfl hM.lt hM.o rfl rfl (Nat.le_of_ble_eq_true rfl) ?_
      refine qa_istore_n hΓ dX6_setFault_30 (by decide) ?_
      refine qa_aload_n hΓ dX6_setFault_31 rfl ?_
      refine qa_iload_n hΓ dX6_setFault_32 rfl ?_
      refine qa_bipush (v := nI 6) hΓ dX6_setFault_33 bp_6 ?_
      refine qa_iload_n hΓ dX6_setFault_35 rfl ?_
      refine qc_V0q hΓ dX6_setFault_36 lk_X6_49 vw_X6_puts (by omega) (c_X6_puts l (d - 1) hM _ _ _ (by omega) (by omega)) rfl hM.lt hM.o rfl rfl (Nat.le_of_ble_eq_true rfl) (fun w hq => ?_)
      obtain ⟨hM, hF⟩ := hq
      have hF0 := hF0.tr hF
      obtain ⟨M1, hM, hU⟩ := Mup.putE hM hU
      refine qa_aload_n hΓ dX6_setFault_39 rfl ?_
      refine qa_dup hΓ dX6_setFault_40 ?_
      refine qa_get hΓ dX6_setFault_41 fk_X6_65 hM.lt hM.o rfl ?_
      refine qa_aload_n hΓ dX6_setFault_44 rfl ?_
      refine qc_V1q hΓ dX6_setFault_45 lk_X6_68 vw_X6_looks (by omega) (c_X6_looks l (d - 1) (by omega) hM (by rw [hU.1]; exact hW1) (by omega)) rfl hM.lt hM.o rfl rfl (Nat.le_of_ble_eq_true rfl) (fun w hq => ?_)
      obtain ⟨M2, hM, hU2, hF⟩ := hq
      have hF0 := hF0.tr hF
      have hUo := hU
      have hU := hU.lookE hU2
      refine qz_iadd hΓ dX6_setFault_48 ?_
      refine qM_put hΓ 2 dX6_setFault_49 fk_X6_65 (by decide) hM (fun w hM hF => ?_)
      have hF0 := hF0.tr hF
      obtain ⟨M1, hM, hU⟩ := Mup.chgE hM hU
      refine qa_iload_n hΓ dX6_setFault_52 rfl ?_
      exact qr_i hR dX6_setFault_53 ⟨_, M1, rfl, hM, hF0, by
        unfold spPut
        rw [if_pos hC, tn_nI (by omega), tn_nI (by omega)]
        exact ⟨rfl, Op.of hN hU⟩⟩
    · refine qa_iconst (v := (-1)) hΓ dX6_setFault_17 ic_m1 ?_
      exact qr_i hR dX6_setFault_18 ⟨-1, M, rfl, hM, Fr.rf, by unfold spPut; rw [if_neg (fun q => by first | exact of_decide_eq_false h_5 (q.1) | exact of_decide_eq_false h_14 (q.2))]; exact ⟨rfl, Sm.rf M⟩⟩

set_option maxRecDepth 100000 in
set_option maxHeartbeats 4000000 in
theorem c_X6_stick (l : Launch) (d : Nat) (hd : 3 ≤ d) {n k : Nat} {w : Nat → AC} {M : Bk} (hM : MdAt n w k M) {B : Nat} (hW : Wt (M 0) B) (hB : B < 900000000) (hp : M 5 0 ≤ 6) (rl v : Int32) : Sq l yX6_stick cX6_stick 4 (some .int) d [aR k, aI rl, aI v] n w (QM (spPut 7 1 M rl v) n k w) := by
  refine Sp.of (plainFor_of_name (by decide)) (Nat.le_of_ble_eq_true rfl) (fun Γ hΓ hR => ?_)
  show Γ 0 [aR k, aI rl, aI v, none] [] (0, 0) n w
  refine qa_aload_n hΓ dX6_stick_0 rfl ?_
  refine qa_iload_n hΓ dX6_stick_1 rfl ?_
  refine qc_V1 hΓ dX6_stick_2 lk_X6_82 vw_X6_isRelay (by omega) (c_X6_isRelay l (d - 1) (by omega) hM _) rfl hM.lt hM.o rfl rfl (Nat.le_of_ble_eq_true rfl) ?_
  refine qb_if_eq (tgt := 17) hΓ dX6_stick_5 (by decide) (fun h_5 => ?_) (fun h_5 => ?_)
  · refine qa_iconst (v := (-1)) hΓ dX6_stick_17 ic_m1 ?_
    exact qr_i hR dX6_stick_18 ⟨-1, M, rfl, hM, Fr.rf, by unfold spPut; rw [if_neg (fun q => by first | exact of_decide_eq_false h_5 (q.1) | exact of_decide_eq_false h_14 (q.2))]; exact ⟨rfl, Sm.rf M⟩⟩
  · refine qa_iload_n hΓ dX6_stick_8 rfl ?_
    refine qa_iconst (v := nI 0) hΓ dX6_stick_9 ic_0 ?_
    refine qa_iconst (v := nI 1) hΓ dX6_stick_10 ic_1 ?_
    refine qc_S1 hΓ dX6_stick_11 lk_X6_33 vw_X6_in (by omega) (c_X6_in l (d - 1) _ _ _) rfl rfl (Nat.le_of_ble_eq_true rfl) ?_
    refine qb_if_ne (tgt := 19) hΓ dX6_stick_14 (by decide) (fun h_14 => ?_) (fun h_14 => ?_)
    · have hC : isR (M 0 1) rl ∧ (nI 0 ≤ v ∧ v ≤ nI 1) := ⟨of_decide_eq_true h_5, of_decide_eq_true h_14⟩
      obtain ⟨r, hr, rfl⟩ := isR_of (by have := hW.2.1; omega) hC.1
      obtain ⟨f, hf1, hf2, rfl⟩ := rng (by decide) hC.2 (by decide)
      have h8 := hW.2.1
      have hW1 : Wt (upN (M 0) (ix r 7) f) B := hW.up (by decide) (by simpa [bdF] using hf2)
      refine qa_aload_n hΓ dX6_stick_19 rfl ?_
      refine qc_V0q hΓ dX6_stick_20 lk_X6_79 vw_X6_notes (by omega) (c_X6_notes l (d - 1) hM hp) rfl hM.lt hM.o rfl rfl (Nat.le_of_ble_eq_true rfl) (fun w hq => ?_)
      obtain ⟨M1, hM, hN, hF0⟩ := hq
      have hU := hN.mup
      refine qa_aload_n hΓ dX6_stick_23 rfl ?_
      refine qa_iload_n hΓ dX6_stick_24 rfl ?_
      refine qa_bipush (v := nI 7) hΓ dX6_stick_25 bp_7 ?_
      refine qc_V1 hΓ dX6_stick_27 lk_X6_37 vw_X6_of (by omega) (c_X6_ofU l (d - 1) hM hU _ _ (by omega) (by omega)) rfl hM.lt hM.o rfl rfl (Nat.le_of_ble_eq_true rfl) ?_
      refine qa_istore_n hΓ dX6_stick_30 (by decide) ?_
      refine qa_aload_n hΓ dX6_stick_31 rfl ?_
      refine qa_iload_n hΓ dX6_stick_32 rfl ?_
      refine qa_bipush (v := nI 7) hΓ dX6_stick_33 bp_7 ?_
      refine qa_iload_n hΓ dX6_stick_35 rfl ?_
      refine qc_V0q hΓ dX6_stick_36 lk_X6_49 vw_X6_puts (by omega) (c_X6_puts l (d - 1) hM _ _ _ (by omega) (by omega)) rfl hM.lt hM.o rfl rfl (Nat.le_of_ble_eq_true rfl) (fun w hq => ?_)
      obtain ⟨hM, hF⟩ := hq
      have hF0 := hF0.tr hF
      obtain ⟨M1, hM, hU⟩ := Mup.putE hM hU
      refine qa_aload_n hΓ dX6_stick_39 rfl ?_
      refine qa_dup hΓ dX6_stick_40 ?_
      refine qa_get hΓ dX6_stick_41 fk_X6_65 hM.lt hM.o rfl ?_
      refine qa_aload_n hΓ dX6_stick_44 rfl ?_
      refine qc_V1q hΓ dX6_stick_45 lk_X6_68 vw_X6_looks (by omega) (c_X6_looks l (d - 1) (by omega) hM (by rw [hU.1]; exact hW1) (by omega)) rfl hM.lt hM.o rfl rfl (Nat.le_of_ble_eq_true rfl) (fun w hq => ?_)
      obtain ⟨M2, hM, hU2, hF⟩ := hq
      have hF0 := hF0.tr hF
      have hUo := hU
      have hU := hU.lookE hU2
      refine qz_iadd hΓ dX6_stick_48 ?_
      refine qM_put hΓ 2 dX6_stick_49 fk_X6_65 (by decide) hM (fun w hM hF => ?_)
      have hF0 := hF0.tr hF
      obtain ⟨M1, hM, hU⟩ := Mup.chgE hM hU
      refine qa_iload_n hΓ dX6_stick_52 rfl ?_
      exact qr_i hR dX6_stick_53 ⟨_, M1, rfl, hM, hF0, by
        unfold spPut
        rw [if_pos hC, tn_nI (by omega), tn_nI (by omega)]
        exact ⟨rfl, Op.of hN hU⟩⟩
    · refine qa_iconst (v := (-1)) hΓ dX6_stick_17 ic_m1 ?_
      exact qr_i hR dX6_stick_18 ⟨-1, M, rfl, hM, Fr.rf, by unfold spPut; rw [if_neg (fun q => by first | exact of_decide_eq_false h_5 (q.1) | exact of_decide_eq_false h_14 (q.2))]; exact ⟨rfl, Sm.rf M⟩⟩

set_option maxRecDepth 100000 in
set_option maxHeartbeats 4000000 in
theorem c_X6_press (l : Launch) (d : Nat) (hd : 3 ≤ d) {n k : Nat} {w : Nat → AC} {M : Bk} (hM : MdAt n w k M) {B : Nat} (hW : Wt (M 0) B) (hB : B < 900000000) (hp : M 5 0 ≤ 6) (ky on : Int32) : Sq l yX6_press cX6_press 3 (some .int) d [aR k, aI ky, aI on] n w (QM (spPr M ky on) n k w) := by
  refine Sp.of (plainFor_of_name (by decide)) (Nat.le_of_ble_eq_true rfl) (fun Γ hΓ hR => ?_)
  show Γ 0 [aR k, aI ky, aI on] [] (0, 0) n w
  refine qa_iload_n hΓ dX6_press_0 rfl ?_
  refine qa_iconst (v := nI 0) hΓ dX6_press_1 ic_0 ?_
  refine qa_bipush (v := nI 7) hΓ dX6_press_2 bp_7 ?_
  refine qc_S1 hΓ dX6_press_4 lk_X6_33 vw_X6_in (by omega) (c_X6_in l (d - 1) _ _ _) rfl rfl (Nat.le_of_ble_eq_true rfl) ?_
  refine qb_if_eq (tgt := 19) hΓ dX6_press_7 (by decide) (fun h_7 => ?_) (fun h_7 => ?_)
  · refine qa_iconst (v := (-1)) hΓ dX6_press_19 ic_m1 ?_
    exact qr_i hR dX6_press_20 ⟨-1, M, rfl, hM, Fr.rf, by unfold spPr; rw [if_neg (fun q => by first | exact of_decide_eq_false h_7 (q.1) | exact of_decide_eq_false h_16 (q.2))]; exact ⟨rfl, Sm.rf M⟩⟩
  · refine qa_iload_n hΓ dX6_press_10 rfl ?_
    refine qa_iconst (v := nI 0) hΓ dX6_press_11 ic_0 ?_
    refine qa_iconst (v := nI 1) hΓ dX6_press_12 ic_1 ?_
    refine qc_S1 hΓ dX6_press_13 lk_X6_33 vw_X6_in (by omega) (c_X6_in l (d - 1) _ _ _) rfl rfl (Nat.le_of_ble_eq_true rfl) ?_
    refine qb_if_ne (tgt := 21) hΓ dX6_press_16 (by decide) (fun h_16 => ?_) (fun h_16 => ?_)
    · have hC : (nI 0 ≤ ky ∧ ky ≤ nI 7) ∧ (nI 0 ≤ on ∧ on ≤ nI 1) := ⟨of_decide_eq_true h_7, of_decide_eq_true h_16⟩
      obtain ⟨ky, hk1, hk2, rfl⟩ := rng (by decide) hC.1 (by decide)
      obtain ⟨on, ho1, ho2, rfl⟩ := rng (by decide) hC.2 (by decide)
      have h256 := hW.1
      have hW1 : Wt (prS (M 0) ky) B := hW.pr (by omega)
      refine qa_aload_n hΓ dX6_press_21 rfl ?_
      refine qa_get hΓ dX6_press_22 fk_X6_7 hM.lt hM.o rfl ?_
      refine qa_iconst (v := nI 0) hΓ dX6_press_25 ic_0 ?_
      refine qz_iald hΓ dX6_press_26 (hM.lti (i := 1) (by decide)) hM.a0 (by omega) (by decide) ?_
      refine qa_iload_n hΓ dX6_press_27 rfl ?_
      refine qz_ishr hΓ dX6_press_28 (by omega) (by omega) ?_
      refine qa_iconst (v := nI 1) hΓ dX6_press_29 ic_1 ?_
      refine qz_iand hΓ dX6_press_30 ?_
      refine qa_iload_n hΓ dX6_press_31 rfl ?_
      rw [bt1]
      have hbt := Bool.toNat_le1 ((M 0 0).testBit ky)
      refine qz_icmp_ne (tgt := 38) hΓ dX6_press_32 (by decide) (by omega) (by omega) (fun h_32 => ?_) (fun h_32 => ?_)
      · refine qa_aload_n hΓ dX6_press_38 rfl ?_
        refine qc_V0q hΓ dX6_press_39 lk_X6_79 vw_X6_notes (by omega) (c_X6_notes l (d - 1) hM hp) rfl hM.lt hM.o rfl rfl (Nat.le_of_ble_eq_true rfl) (fun w hq => ?_)
        obtain ⟨M1, hM, hN, hF0⟩ := hq
        have hU := hN.mup
        refine qa_aload_n hΓ dX6_press_42 rfl ?_
        refine qa_get hΓ dX6_press_43 fk_X6_7 hM.lt hM.o rfl ?_
        refine qa_iconst (v := nI 0) hΓ dX6_press_46 ic_0 ?_
        refine qa_dup2 hΓ dX6_press_47 ?_
        refine qz_iald hΓ dX6_press_48 (hM.lti (i := 1) (by decide)) hM.a0 (by omega) (by decide) ?_
        refine qa_iconst (v := nI 1) hΓ dX6_press_49 ic_1 ?_
        refine qa_iload_n hΓ dX6_press_50 rfl ?_
        refine qz_ishl hΓ dX6_press_51 (by omega) ?_
        refine qz_ixor hΓ dX6_press_52 ?_
        refine qM_ast hΓ (N := 203) 0 (by decide) rfl rfl dX6_press_53 hM (by omega) (fun w hM hF => ?_)
        have hF0 := hF0.tr hF
        rw [hU.1] at hM
        obtain ⟨M1, hM, hU⟩ := Mup.setE hM hU
        refine qa_aload_n hΓ dX6_press_54 rfl ?_
        refine qc_V1q hΓ dX6_press_55 lk_X6_68 vw_X6_looks (by omega) (c_X6_looks l (d - 1) (by omega) hM (by rw [hU.1]; exact hW1) (by omega)) rfl hM.lt hM.o rfl rfl (Nat.le_of_ble_eq_true rfl) (fun w hq => ?_)
        obtain ⟨M2, hM, hU2, hF⟩ := hq
        have hF0 := hF0.tr hF
        have hUo := hU
        have hU := hU.lookE hU2
        exact qr_i hR dX6_press_58 ⟨_, M2, rfl, hM, hF0, by
          unfold spPr
          rw [if_pos hC, tn_nI (by omega), tn_nI (by omega), if_neg h_32]
          rw [hUo.1]
          exact ⟨rfl, Op.of hN hU⟩⟩
      · refine qa_bipush (v := (-2)) hΓ dX6_press_35 bp_m2 ?_
        exact qr_i hR dX6_press_37 ⟨-2, M, rfl, hM, Fr.rf, by
          unfold spPr
          rw [if_pos hC, tn_nI (by omega), tn_nI (by omega), if_pos h_32]
          exact ⟨rfl, Sm.rf M⟩⟩
    · refine qa_iconst (v := (-1)) hΓ dX6_press_19 ic_m1 ?_
      exact qr_i hR dX6_press_20 ⟨-1, M, rfl, hM, Fr.rf, by unfold spPr; rw [if_neg (fun q => by first | exact of_decide_eq_false h_7 (q.1) | exact of_decide_eq_false h_16 (q.2))]; exact ⟨rfl, Sm.rf M⟩⟩

set_option maxRecDepth 100000 in
set_option maxHeartbeats 4000000 in
theorem c_X6_step (l : Launch) (d : Nat) (hd : 4 ≤ d) {n k : Nat} {w : Nat → AC} {M : Bk} (hM : MdAt n w k M) {B : Nat} (hW : Wt (M 0) B) (hB : B < 900000000) (hp : M 5 0 ≤ 6) : Sq l yX6_step cX6_step 2 (some .int) d [aR k] n w (QM (spStep M) n k w) := by
  refine Sp.of (plainFor_of_name (by decide)) (Nat.le_of_ble_eq_true rfl) (fun Γ hΓ hR => ?_)
  show Γ 0 [aR k, none] [] (0, 0) n w
  refine qa_aload_n hΓ dX6_step_0 rfl ?_
  refine qa_iconst (v := nI 0) hΓ dX6_step_1 ic_0 ?_
  refine qc_V1 hΓ dX6_step_2 lk_X6_71 vw_X6_next (by omega) (c_X6_next l (d - 1) (by omega) hM hW (by omega) false) rfl hM.lt hM.o rfl rfl (Nat.le_of_ble_eq_true rfl) ?_
  refine qa_istore_n hΓ dX6_step_5 (by decide) ?_
  refine qa_iload_n hΓ dX6_step_6 rfl ?_
  refine qa_bipush (v := (-9)) hΓ dX6_step_7 bp_m9 ?_
  cases ho : nx (M 0) false with
  | none =>
    refine qa_icmp_ne (tgt := 15) hΓ dX6_step_9 (by decide) (fun h => absurd rfl h) (fun _ => ?_)
    refine qa_bipush (v := (-2)) hΓ dX6_step_12 bp_m2 ?_
    exact qr_i hR dX6_step_14 ⟨-2, M, rfl, hM, Fr.rf, by
      unfold spStep
      rw [ho]
      exact ⟨rfl, Sm.rf M⟩⟩
  | some q =>
    have hq9 := nx_lt ho
    have h8 := hW.2.1
    refine qa_icmp_ne (tgt := 15) hΓ dX6_step_9 (by decide) (fun _ => ?_) (fun h => absurd h (nI_m9 q (by omega)))
    show Γ 15 [aR k, aZ q] [] (0, 0) n w
    refine qa_aload_n hΓ dX6_step_15 rfl ?_
    refine qc_V0q hΓ dX6_step_16 lk_X6_79 vw_X6_notes (by omega) (c_X6_notes l (d - 1) hM hp) rfl hM.lt hM.o rfl rfl (Nat.le_of_ble_eq_true rfl) (fun w hq => ?_)
    obtain ⟨M1, hM, hN, hF0⟩ := hq
    have hU := hN.mup
    refine qa_aload_n hΓ dX6_step_19 rfl ?_
    refine qa_iload_n hΓ dX6_step_20 rfl ?_
    refine qc_V0q hΓ dX6_step_21 lk_X6_75 vw_X6_happens (by omega) (c_X6_happens l (d - 1) (by omega) hM (by rw [hU.1]; exact hW) (by omega) q (by rw [hU.1]; exact hq9) (nx_kind ho)) rfl hM.lt hM.o rfl rfl (Nat.le_of_ble_eq_true rfl) (fun w hq => ?_)
    obtain ⟨M2, hM, hU2, hF⟩ := hq
    have hF0 := hF0.tr hF
    rw [hU.1] at hU2
    have hU := hU.tr hU2
    refine qa_bipush (v := nI 10) hΓ dX6_step_24 bp_10 ?_
    refine qa_iload_n hΓ dX6_step_26 rfl ?_
    refine qa_iconst (v := nI 4) hΓ dX6_step_27 ic_4 ?_
    refine qz_idiv hΓ dX6_step_28 (by omega) (by decide) (by decide) ?_
    refine qz_imul hΓ dX6_step_29 ?_
    refine qa_iload_n hΓ dX6_step_30 rfl ?_
    refine qa_iconst (v := nI 4) hΓ dX6_step_31 ic_4 ?_
    refine qz_irem hΓ dX6_step_32 (by omega) (by decide) (by decide) ?_
    refine qz_iadd hΓ dX6_step_33 ?_
    exact qr_i hR dX6_step_34 ⟨_, M2, rfl, hM, hF0, by
      unfold spStep
      rw [ho]
      exact ⟨rfl, Op.of hN hU⟩⟩

set_option maxRecDepth 100000 in
set_option maxHeartbeats 4000000 in
theorem c_X6_settle (l : Launch) (d : Nat) (hd : 5 ≤ d) {n k : Nat} {w : Nat → AC} {M : Bk} (hM : MdAt n w k M) {B : Nat} (hW : Wt (M 0) B) (hB : B < 900000000) (hp : M 5 0 ≤ 6) (ev : Int32) : Sq l yX6_settle cX6_settle 2 (some .int) d [aR k, aI ev] n w (QM (spSettle M ev) n k w) := by
  refine Sp.of (plainFor_of_name (by decide)) (Nat.le_of_ble_eq_true rfl) (fun Γ hΓ hR => ?_)
  show Γ 0 [aR k, aI ev] [] (0, 0) n w
  refine qa_iload_n hΓ dX6_settle_0 rfl ?_
  refine qa_iconst (v := nI 1) hΓ dX6_settle_1 ic_1 ?_
  refine qa_sipush (v := nI 200) hΓ dX6_settle_2 sp_200 ?_
  refine qc_S1 hΓ dX6_settle_5 lk_X6_33 vw_X6_in (by omega) (c_X6_in l (d - 1) _ _ _) rfl rfl (Nat.le_of_ble_eq_true rfl) ?_
  refine qb_if_ne (tgt := 13) hΓ dX6_settle_8 (by decide) (fun h_8 => ?_) (fun h_8 => ?_)
  · have hC : nI 1 ≤ ev ∧ ev ≤ nI 200 := of_decide_eq_true h_8
    obtain ⟨ev, he1, he2, rfl⟩ := rng (by decide) hC (by decide)
    refine qa_aload_n hΓ dX6_settle_13 rfl ?_
    refine qc_V0q hΓ dX6_settle_14 lk_X6_79 vw_X6_notes (by omega) (c_X6_notes l (d - 1) hM hp) rfl hM.lt hM.o rfl rfl (Nat.le_of_ble_eq_true rfl) (fun w hq => ?_)
    obtain ⟨M1, hM, hN, hF0⟩ := hq
    have hU := hN.mup
    refine qa_aload_n hΓ dX6_settle_17 rfl ?_
    refine qa_iconst (v := nI 0) hΓ dX6_settle_18 ic_0 ?_
    refine qa_iload_n hΓ dX6_settle_19 rfl ?_
    refine qc_V1q hΓ dX6_settle_20 lk_X6_127 vw_X6_settles (by omega) (c_X6_settles l (d - 1) (by omega) hM (by rw [hU.1]; exact hW) false _ (by omega) (by omega)) rfl hM.lt hM.o rfl rfl (Nat.le_of_ble_eq_true rfl) (fun w hq => ?_)
    obtain ⟨M2, hM, hU2, hF⟩ := hq
    have hF0 := hF0.tr hF
    have hUo := hU
    rw [hU.1] at hU2
    have hU := hU.tr hU2
    exact qr_i hR dX6_settle_23 ⟨_, M2, rfl, hM, hF0, by
      unfold spSettle
      rw [if_pos hC, tn_nI (by omega), hUo.1]
      exact ⟨rfl, Op.of hN hU⟩⟩
  · refine qa_iconst (v := (-1)) hΓ dX6_settle_11 ic_m1 ?_
    exact qr_i hR dX6_settle_12 ⟨-1, M, rfl, hM, Fr.rf, by unfold spSettle; rw [if_neg (fun q => by first | exact of_decide_eq_false h_8 (q))]; exact ⟨rfl, Sm.rf M⟩⟩

