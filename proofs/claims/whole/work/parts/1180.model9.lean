/-! The model: what each call answers and leaves (sp..), and that it does -/
def sdS (s : Nat → Nat) (r a b c : Nat) : Nat → Nat := upN (upN (upN s (ix r 0) a) (ix r 1) b) (ix r 2) c
def zrS (s : Nat → Nat) (r m : Nat) : Nat → Nat := fun j => if 3 + 25 * r ≤ j ∧ j < 3 + 25 * r + m then 0 else s j
def addS (s : Nat → Nat) (a b c : Nat) : Nat → Nat := sdS (zrS (upN s 1 (s 1 + 1)) (s 1) 25) (s 1) a b c
def spAdd (M : Bk) (u v x : Int32) (r : Int32) (M' : Bk) : Prop := if okD u v x then (if M 0 1 = 8 then r = -3 ∧ Sm M M' else r = nI (M 0 1) ∧ Op M (addS (M 0) (tn u) (tn v) (tn x)) M') else r = -1 ∧ Sm M M'
def sameD (s : Nat → Nat) (r a b c : Nat) : Prop := vv s r 0 = a ∧ vv s r 1 = b ∧ vv s r 2 = c
def spSD (M : Bk) (rl u v x : Int32) (r : Int32) (M' : Bk) : Prop := if isR (M 0 1) rl ∧ okD u v x then ((sameD (M 0) (tn rl) (tn u) (tn v) (tn x) → r = nI 0) ∧ (¬ sameD (M 0) (tn rl) (tn u) (tn v) (tn x) → r = nI 1)) ∧ Op M (sdS (M 0) (tn rl) (tn u) (tn v) (tn x)) M' else r = -1 ∧ Sm M M'
def scS (s : Nat → Nat) (r b : Nat) : Nat → Nat := if b = vv s r 12 then opS s r else s
def spSC (M : Bk) (rl br su hw : Int32) (r : Int32) (M' : Bk) : Prop := if isR (M 0 1) rl ∧ (nI 0 ≤ br ∧ br ≤ nI (vv (M 0) (tn rl) 12)) ∧ isS (M 0 1) su ∧ (nI 0 ≤ hw ∧ hw ≤ nI 2) then (if tn br = 6 then r = -3 ∧ Sm M M' else r = nI (how3 (scS (M 0) (tn rl) (tn br)) (tn rl) (tn br) (tn su)) ∧ Op M (lks (cnS (scS (M 0) (tn rl) (tn br)) (tn rl) (tn br) (tn su) (tn hw))).2 M') else r = -1 ∧ Sm M M'
def shS (s : Nat → Nat) (r lo hi : Nat) : Nat → Nat := fun j => if 3 + 25 * r + lo ≤ j ∧ j < 3 + 25 * r + hi then s (j + 2) else s j
def rmS (s : Nat → Nat) (r b : Nat) : Nat → Nat := shS (upN s (ix r 12) (vv s r 12 - 1)) r (13 + 2 * b) (13 + 2 * (vv s r 12 - 1))
def spRB (M : Bk) (rl br : Int32) (r : Int32) (M' : Bk) : Prop := if isR (M 0 1) rl ∧ (nI 0 ≤ br ∧ br ≤ nI (vv (M 0) (tn rl) 12) - nI 1) then r = nI (vv (M 0) (tn rl) 12 - 1) ∧ Op M (lks (rmS (M 0) (tn rl) (tn br))).2 M' else r = -1 ∧ Sm M M'
def prS (s : Nat → Nat) (key : Nat) : Nat → Nat := upN s 0 (s 0 ^^^ (1 <<< key))
def spPr (M : Bk) (ky on : Int32) (r : Int32) (M' : Bk) : Prop := if (nI 0 ≤ ky ∧ ky ≤ nI 7) ∧ (nI 0 ≤ on ∧ on ≤ nI 1) then (if ((M 0 0).testBit (tn ky)).toNat = tn on then r = -2 ∧ Sm M M' else r = nI (lks (prS (M 0) (tn ky))).1 ∧ Op M (lks (prS (M 0) (tn ky))).2 M') else r = -1 ∧ Sm M M'
def spPut (x hi : Nat) (M : Bk) (rl v : Int32) (r : Int32) (M' : Bk) : Prop := if isR (M 0 1) rl ∧ (nI 0 ≤ v ∧ v ≤ nI hi) then r = nI (vv (M 0) (tn rl) x) ∧ Op M (lks (upN (M 0) (ix (tn rl) x) (tn v))).2 M' else r = -1 ∧ Sm M M'
def spStep (M : Bk) (r : Int32) (M' : Bk) : Prop := match nx (M 0) false with
  | none => r = -2 ∧ Sm M M'
  | some e => r = nI (10 * (e / 4) + e % 4) ∧ Op M (hap (M 0) e) M'
def spSettle (M : Bk) (ev : Int32) (r : Int32) (M' : Bk) : Prop := if nI 1 ≤ ev ∧ ev ≤ nI 200 then r = nI (stl (M 0) false (tn ev)).1 ∧ Op M (stl (M 0) false (tn ev)).2 M' else r = -1 ∧ Sm M M'
theorem key_lt {a k : Nat} (ha : a < 256) (hk : k < 8) : a ^^^ (1 <<< k) < 256 := by
  apply Nat.xor_lt_two_pow (n := 8) ha
  rw [Nat.one_shiftLeft]
  exact Nat.pow_lt_pow_right (by decide) hk
theorem Wt.pr {s : Nat → Nat} {B k : Nat} (h : Wt s B) (hk : k < 8) : Wt (prS s k) B := by
  unfold prS
  refine ⟨by rw [upN_self]; exact key_lt h.1 hk, by rw [upN_ne _ _ _ (by decide)]; exact h.2.1, by rw [upN_ne _ _ _ (by decide)]; exact h.2.2.1, fun r hr x hx => ?_⟩
  rw [upN_ne _ _ _ (by decide)] at hr
  rw [vv_hd _ _ _ _ _ (by decide)]
  exact h.2.2.2 r hr x hx
theorem Wt.scS {s : Nat → Nat} {B r b : Nat} (h : Wt s B) (hb : b < 6) : Wt (scS s r b) B := by
  unfold Jvm.Pilot.@@N@@.scS
  split
  · exact h.opS (by omega)
  · exact h
theorem scS_hd (s : Nat → Nat) (r b : Nat) {j : Nat} (hj : j < 3) : scS s r b j = s j := by
  unfold scS opS
  split
  · rw [hd_up _ _ _ _ hj, hd_up _ _ _ _ hj, hd_up _ _ _ _ hj]
  · rfl
theorem Wt.rmS {s : Nat → Nat} {B r b : Nat} (h : Wt s B) (hm : vv s r 12 ≤ 6) : Wt (rmS s r b) B := by
  have h0 : Wt (upN s (ix r 12) (vv s r 12 - 1)) B := h.up (by decide) (by simp [bdF]; omega)
  have e : ∀ j, j < 3 → Jvm.Pilot.@@N@@.rmS s r b j = upN s (ix r 12) (vv s r 12 - 1) j := fun j hj => by
    unfold Jvm.Pilot.@@N@@.rmS shS
    rw [if_neg (by omega)]
  obtain ⟨g0, g1, g2, g3⟩ := h0
  refine ⟨by rw [e 0 (by decide)]; exact g0, by rw [e 1 (by decide)]; exact g1, by rw [e 2 (by decide)]; exact g2, fun r' hr' x hx => ?_⟩
  rw [e 1 (by decide)] at hr'
  unfold vv Jvm.Pilot.@@N@@.rmS shS
  split
  · rename_i q
    have e : r' = r := by omega
    subst e
    have := g3 r' hr' (x + 2) (by omega)
    unfold vv at this
    rw [show 3 + 25 * r' + (x + 2) = 3 + 25 * r' + x + 2 by omega] at this
    refine Nat.le_trans this ?_
    unfold bdF
    repeat' split
    all_goals omega
  · exact g3 r' hr' x hx
set_option maxRecDepth 100000 in
set_option maxHeartbeats 4000000 in
theorem c_X6_addRelay (l : Launch) (d : Nat) (hd : 1 ≤ d) {n k : Nat} {w : Nat → AC} {M : Bk} (hM : MdAt n w k M) {B : Nat} (hW : Wt (M 0) B) (hB : B < 900000000) (hp : M 5 0 ≤ 6) (u v x : Int32) : Sq l yX6_addRelay cX6_addRelay 6 (some .int) d [aR k, aI u, aI v, aI x] n w (QM (spAdd M u v x) n k w) := by
  refine Sp.of (plainFor_of_name (by decide)) (Nat.le_of_ble_eq_true rfl) (fun Γ hΓ hR => ?_)
  show Γ 0 [aR k, aI u, aI v, aI x, none, none] [] (0, 0) n w
  refine qa_iload_n hΓ dX6_addRelay_0 rfl ?_
  refine qa_iconst (v := nI 1) hΓ dX6_addRelay_1 ic_1 ?_
  refine qa_bipush (v := nI 20) hΓ dX6_addRelay_2 bp_20 ?_
  refine qc_S1 hΓ dX6_addRelay_4 lk_X6_33 vw_X6_in (by omega) (c_X6_in l (d - 1) _ _ _) rfl rfl (Nat.le_of_ble_eq_true rfl) ?_
  refine qb_if_eq (tgt := 29) hΓ dX6_addRelay_7 (by decide) (fun h_7 => ?_) (fun h_7 => ?_)
  · refine qa_iconst (v := (-1)) hΓ dX6_addRelay_29 ic_m1 ?_
    exact qr_i hR dX6_addRelay_30 ⟨-1, M, rfl, hM, Fr.rf, by unfold spAdd; rw [if_neg (fun q => by first | exact of_decide_eq_false h_7 (q.1) | exact of_decide_eq_false h_17 (q.2.1) | exact of_decide_eq_false h_26 (q.2.2))]; exact ⟨rfl, Sm.rf M⟩⟩
  · refine qa_iload_n hΓ dX6_addRelay_10 rfl ?_
    refine qa_iconst (v := nI 1) hΓ dX6_addRelay_11 ic_1 ?_
    refine qa_bipush (v := nI 20) hΓ dX6_addRelay_12 bp_20 ?_
    refine qc_S1 hΓ dX6_addRelay_14 lk_X6_33 vw_X6_in (by omega) (c_X6_in l (d - 1) _ _ _) rfl rfl (Nat.le_of_ble_eq_true rfl) ?_
    refine qb_if_eq (tgt := 29) hΓ dX6_addRelay_17 (by decide) (fun h_17 => ?_) (fun h_17 => ?_)
    · refine qa_iconst (v := (-1)) hΓ dX6_addRelay_29 ic_m1 ?_
      exact qr_i hR dX6_addRelay_30 ⟨-1, M, rfl, hM, Fr.rf, by unfold spAdd; rw [if_neg (fun q => by first | exact of_decide_eq_false h_7 (q.1) | exact of_decide_eq_false h_17 (q.2.1) | exact of_decide_eq_false h_26 (q.2.2))]; exact ⟨rfl, Sm.rf M⟩⟩
    · refine qa_iload_n hΓ dX6_addRelay_20 rfl ?_
      refine qa_iconst (v := nI 0) hΓ dX6_addRelay_21 ic_0 ?_
      refine qa_iconst (v := nI 5) hΓ dX6_addRelay_22 ic_5 ?_
      refine qc_S1 hΓ dX6_addRelay_23 lk_X6_33 vw_X6_in (by omega) (c_X6_in l (d - 1) _ _ _) rfl rfl (Nat.le_of_ble_eq_true rfl) ?_
      refine qb_if_ne (tgt := 31) hΓ dX6_addRelay_26 (by decide) (fun h_26 => ?_) (fun h_26 => ?_)
      · have hC : okD u v x := ⟨of_decide_eq_true h_7, of_decide_eq_true h_17, of_decide_eq_true h_26⟩
        obtain ⟨a, ha1, ha2, rfl⟩ := rng (by decide) hC.1 (by decide)
        obtain ⟨b, hb1, hb2, rfl⟩ := rng (by decide) hC.2.1 (by decide)
        obtain ⟨c, hc1, hc2, rfl⟩ := rng (by decide) hC.2.2 (by decide)
        have h8 := hW.2.1
        refine qa_aload_n hΓ dX6_addRelay_31 rfl ?_
        refine qa_get hΓ dX6_addRelay_32 fk_X6_7 hM.lt hM.o rfl ?_
        refine qa_iconst (v := nI 1) hΓ dX6_addRelay_35 ic_1 ?_
        refine qz_iald hΓ dX6_addRelay_36 (hM.lti (i := 1) (by decide)) hM.a0 (by omega) (by decide) ?_
        refine qa_bipush (v := nI 8) hΓ dX6_addRelay_37 bp_8 ?_
        refine qz_icmp_ne (tgt := 45) hΓ dX6_addRelay_39 (by decide) (by omega) (by omega) (fun h_39 => ?_) (fun h_39 => ?_)
        · obtain ⟨w0, hw0⟩ : ∃ X, X = w := ⟨_, rfl⟩
          refine qa_aload_n hΓ dX6_addRelay_45 rfl ?_
          refine qc_V0q hΓ dX6_addRelay_46 lk_X6_79 vw_X6_notes (by omega) (c_X6_notes l (d - 1) hM hp) rfl hM.lt hM.o rfl rfl (Nat.le_of_ble_eq_true rfl) (fun w hq => ?_)
          obtain ⟨M1, hM, hN, hF0⟩ := hq
          have hU := hN.mup
          have hU0 : M1 0 1 = M 0 1 := by rw [hU.1]
          rw [hw0.symm] at hF0
          refine qa_aload_n hΓ dX6_addRelay_49 rfl ?_
          refine qa_get hΓ dX6_addRelay_50 fk_X6_7 hM.lt hM.o rfl ?_
          refine qa_iconst (v := nI 1) hΓ dX6_addRelay_53 ic_1 ?_
          refine qz_iald hΓ dX6_addRelay_54 (hM.lti (i := 1) (by decide)) hM.a0 (by omega) (by decide) ?_
          refine qa_istore hΓ dX6_addRelay_55 (by decide) ?_
          refine qa_aload_n hΓ dX6_addRelay_57 rfl ?_
          refine qa_get hΓ dX6_addRelay_58 fk_X6_7 hM.lt hM.o rfl ?_
          refine qa_iconst (v := nI 1) hΓ dX6_addRelay_61 ic_1 ?_
          refine qa_dup2 hΓ dX6_addRelay_62 ?_
          refine qz_iald hΓ dX6_addRelay_63 (hM.lti (i := 1) (by decide)) hM.a0 (by omega) (by decide) ?_
          refine qa_iconst (v := nI 1) hΓ dX6_addRelay_64 ic_1 ?_
          refine qz_iadd hΓ dX6_addRelay_65 ?_
          refine qM_ast hΓ (N := 203) 0 (by decide) rfl rfl dX6_addRelay_66 hM (by omega) (fun w hM hF => ?_)
          have hF0 := hF0.tr hF
          rw [hU.1]
          obtain ⟨M2, hM, hU⟩ := Mup.setE hM hU
          rw [hU0] at hU
          obtain ⟨M0, hM0⟩ : ∃ X, X = M1 := ⟨_, rfl⟩
          rw [← hM0] at hU hN
          obtain ⟨M1, hM1⟩ : ∃ X, X = M2 := ⟨_, rfl⟩
          rw [← hM1] at hU hM
          refine qa_iconst (v := nI 0) hΓ dX6_addRelay_67 ic_0 ?_
          refine qa_istore hΓ dX6_addRelay_68 (by decide) ?_
          have hn1 : M1 0 1 = M 0 1 + 1 := by rw [hU.1]; exact upN_self _ _ _
          have loop : ∀ (m i : Nat) (w1 : Nat → AC) (M2 : Bk), i ≤ 25 → 25 < i + m → MdAt n w1 k M2 → Mup M0 (zrS (upN (M 0) 1 (M 0 1 + 1)) (M 0 1) i) M2 → Fr k 6 w0 w1 → Γ 70 [aR k, aZ a, aZ b, aZ c, aZ (M 0 1), aZ i] [] (0, 0) n w1 := by
            intro m
            induction m with
            | zero => intro i w1 M2 h1 h2; exact absurd h2 (by omega)
            | succ m ih =>
              intro i w M1 hi hm hM hU hF0
              refine qa_iload hΓ dX6_addRelay_70 rfl ?_
              refine qa_bipush (v := nI 25) hΓ dX6_addRelay_72 bp_25 ?_
              refine qz_icmp_ge (tgt := 92) hΓ dX6_addRelay_74 (by decide) (by omega) (by omega) (fun h_74 => ?_) (fun h_74 => ?_)
              · refine qa_aload_n hΓ dX6_addRelay_92 rfl ?_
                refine qa_iload hΓ dX6_addRelay_93 rfl ?_
                refine qa_iconst (v := nI 0) hΓ dX6_addRelay_95 ic_0 ?_
                refine qa_iload_n hΓ dX6_addRelay_96 rfl ?_
                refine qc_V0q hΓ dX6_addRelay_97 lk_X6_49 vw_X6_puts (by omega) (c_X6_puts l (d - 1) hM _ _ _ (by omega) (by omega)) rfl hM.lt hM.o rfl rfl (Nat.le_of_ble_eq_true rfl) (fun w hq => ?_)
                obtain ⟨hM, hF⟩ := hq
                have hF0 := hF0.tr hF
                obtain ⟨M1, hM, hU⟩ := Mup.putE hM hU
                refine qa_aload_n hΓ dX6_addRelay_100 rfl ?_
                refine qa_iload hΓ dX6_addRelay_101 rfl ?_
                refine qa_iconst (v := nI 1) hΓ dX6_addRelay_103 ic_1 ?_
                refine qa_iload_n hΓ dX6_addRelay_104 rfl ?_
                refine qc_V0q hΓ dX6_addRelay_105 lk_X6_49 vw_X6_puts (by omega) (c_X6_puts l (d - 1) hM _ _ _ (by omega) (by omega)) rfl hM.lt hM.o rfl rfl (Nat.le_of_ble_eq_true rfl) (fun w hq => ?_)
                obtain ⟨hM, hF⟩ := hq
                have hF0 := hF0.tr hF
                obtain ⟨M1, hM, hU⟩ := Mup.putE hM hU
                refine qa_aload_n hΓ dX6_addRelay_108 rfl ?_
                refine qa_iload hΓ dX6_addRelay_109 rfl ?_
                refine qa_iconst (v := nI 2) hΓ dX6_addRelay_111 ic_2 ?_
                refine qa_iload_n hΓ dX6_addRelay_112 rfl ?_
                refine qc_V0q hΓ dX6_addRelay_113 lk_X6_49 vw_X6_puts (by omega) (c_X6_puts l (d - 1) hM _ _ _ (by omega) (by omega)) rfl hM.lt hM.o rfl rfl (Nat.le_of_ble_eq_true rfl) (fun w hq => ?_)
                obtain ⟨hM, hF⟩ := hq
                have hF0 := hF0.tr hF
                obtain ⟨M1, hM, hU⟩ := Mup.putE hM hU
                refine qa_iload hΓ dX6_addRelay_116 rfl ?_
                exact qr_i hR dX6_addRelay_118 ⟨_, M1, rfl, hM, hw0 ▸ hF0, by
                  unfold spAdd
                  rw [if_pos hC, if_neg h_39, tn_nI (by omega), tn_nI (by omega), tn_nI (by omega)]
                  exact ⟨rfl, Op.of hN (by rw [show i = 25 by omega] at hU; exact hU)⟩⟩
              · refine qa_aload_n hΓ dX6_addRelay_77 rfl ?_
                refine qa_iload hΓ dX6_addRelay_78 rfl ?_
                refine qa_iload hΓ dX6_addRelay_80 rfl ?_
                refine qa_iconst (v := nI 0) hΓ dX6_addRelay_82 ic_0 ?_
                refine qc_V0q hΓ dX6_addRelay_83 lk_X6_49 vw_X6_puts (by omega) (c_X6_puts l (d - 1) hM _ _ _ (by omega) (by omega)) rfl hM.lt hM.o rfl rfl (Nat.le_of_ble_eq_true rfl) (fun w hq => ?_)
                obtain ⟨hM, hF⟩ := hq
                have hF0 := hF0.tr hF
                obtain ⟨M1, hM, hU⟩ := Mup.putE hM hU
                refine qz_iinc hΓ dX6_addRelay_86 ii_1 rfl (by decide) ?_
                refine qa_goto (tgt := 70) hΓ dX6_addRelay_89 (by decide) ?_
                refine ih (i + 1) w M1 (by omega) (by omega) hM ?_ hF0
                refine (?_ : zrS _ _ (i + 1) = _) ▸ hU
                funext j
                unfold zrS upN ix
                dsimp only
                by_cases q : j = 3 + 25 * M 0 1 + i
                · rw [if_pos q, if_pos (by omega)]
                · rw [if_neg q]
                  by_cases q2 : 3 + 25 * M 0 1 ≤ j ∧ j < 3 + 25 * M 0 1 + i
                  · rw [if_pos q2, if_pos (by omega)]
                  · rw [if_neg q2, if_neg (by omega)]
          exact loop 26 0 w M1 (by omega) (by omega) hM (by refine (?_ : zrS _ _ 0 = _) ▸ hU; funext j; unfold zrS; rw [if_neg (by omega)]) hF0
        · refine qa_bipush (v := (-3)) hΓ dX6_addRelay_42 bp_m3 ?_
          exact qr_i hR dX6_addRelay_44 ⟨-3, M, rfl, hM, Fr.rf, by unfold spAdd; rw [if_pos hC, if_pos h_39]; exact ⟨rfl, Sm.rf M⟩⟩
      · refine qa_iconst (v := (-1)) hΓ dX6_addRelay_29 ic_m1 ?_
        exact qr_i hR dX6_addRelay_30 ⟨-1, M, rfl, hM, Fr.rf, by unfold spAdd; rw [if_neg (fun q => by first | exact of_decide_eq_false h_7 (q.1) | exact of_decide_eq_false h_17 (q.2.1) | exact of_decide_eq_false h_26 (q.2.2))]; exact ⟨rfl, Sm.rf M⟩⟩

