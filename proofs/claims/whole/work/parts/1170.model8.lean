/-! The model: calls that change relays and circuits -/
def QM (sp : Int32 → Bk → Prop) (n k : Nat) (w : Nat → AC) : Option AV → (Nat → AC) → Prop := fun r w' => ∃ rr M', r = some (aI rr) ∧ MdAt n w' k M' ∧ Fr k 6 w w' ∧ sp rr M'
def clr (a x : Nat) : Nat := a &&& (65535 ^^^ (1 <<< x))
theorem clr_int {a x : Nat} (ha : a < 65536) (hx : x < 16) : nI a &&& (nI (1 <<< x) ^^^ (-1)) = nI (clr a x) := by
  unfold clr
  apply Int32.toBitVec_inj.mp
  rw [Int32.toBitVec_and, Int32.toBitVec_xor, show (-1 : Int32).toBitVec = BitVec.allOnes 32 from rfl, BitVec.xor_allOnes]
  apply BitVec.eq_of_getLsbD_eq
  intro i hi
  show (BitVec.ofNat 32 a &&& ~~~ (BitVec.ofNat 32 (1 <<< x))).getLsbD i = (BitVec.ofNat 32 (a &&& (65535 ^^^ 1 <<< x))).getLsbD i
  simp only [BitVec.getLsbD_and, BitVec.getLsbD_not, BitVec.getLsbD_ofNat, hi, decide_true, Bool.true_and, Nat.testBit_and, Nat.testBit_xor]
  rw [show 65535 = 2 ^ 16 - 1 from rfl, Nat.testBit_two_pow_sub_one]
  by_cases h : i < 16
  · simp [h]
  · have h2 : a.testBit i = false := testBit_lt (m := 16) ha (by omega)
    simp [h2]
theorem clr_bit {a x i : Nat} (ha : a < 65536) : (clr a x).testBit i = (a.testBit i && decide (i ≠ x)) := by
  unfold clr
  rw [Nat.testBit_and, Nat.testBit_xor, show 65535 = 2 ^ 16 - 1 from rfl, Nat.testBit_two_pow_sub_one, Nat.one_shiftLeft, Nat.testBit_two_pow]
  by_cases h : i < 16
  · by_cases e : x = i
    · subst e; simp [h]
    · have e' : ¬ i = x := fun q => e q.symm
      simp [h, e, e']
  · have h2 : a.testBit i = false := testBit_lt (m := 16) ha (by omega)
    simp [h2]
theorem clr_lt {a x : Nat} (ha : a < 65536) : clr a x < 65536 := Nat.lt_of_le_of_lt Nat.and_le_left ha
theorem or_lt16 {a x : Nat} (ha : a < 65536) (hx : x < 16) : a ||| 1 <<< x < 65536 := by
  apply Nat.or_lt_two_pow (n := 16) ha
  rw [Nat.one_shiftLeft]
  exact Nat.pow_lt_pow_right (by decide) hx
def cnS (s : Nat → Nat) (r b x how : Nat) : Nat → Nat := upN (upN s (ix r (13 + 2 * b)) (if how = 1 then clr (vv s r (13 + 2 * b)) x ||| 1 <<< x else clr (vv s r (13 + 2 * b)) x)) (ix r (13 + 2 * b + 1)) (if how = 2 then clr (vv s r (13 + 2 * b + 1)) x ||| 1 <<< x else clr (vv s r (13 + 2 * b + 1)) x)
def opS (s : Nat → Nat) (r : Nat) : Nat → Nat := upN (upN (upN s (ix r (13 + 2 * vv s r 12)) 0) (ix r (13 + 2 * vv s r 12 + 1)) 0) (ix r 12) (vv s r 12 + 1)
theorem Wt.m16 {s : Nat → Nat} {B r x : Nat} (h : Wt s B) (hr : r < s 1) (h1 : 13 ≤ x) (hx : x < 25) : vv s r x < 65536 := by
  have h2 := h.2.2.2 r hr x hx
  unfold bdF at h2
  repeat' split at h2
  all_goals omega
theorem Wt.cnS {s : Nat → Nat} {B r b x how : Nat} (h : Wt s B) (hr : r < s 1) (hb : b < 6) (hx : x < 16) : Wt (cnS s r b x how) B := by
  have h1 := h.m16 hr (x := 13 + 2 * b) (by omega) (by omega)
  have h2 := h.m16 hr (x := 13 + 2 * b + 1) (by omega) (by omega)
  have hbd : ∀ y, 13 ≤ y → bdF B y = 65535 := fun y hy => by
    unfold bdF
    repeat' split
    all_goals omega
  unfold Jvm.Pilot.@@N@@.cnS
  refine Wt.up (Wt.up h (by omega) ?_) (by omega) ?_
  · rw [hbd _ (by omega)]
    split
    · have := or_lt16 (clr_lt (x := x) h1) hx; omega
    · have := clr_lt (x := x) h1; omega
  · rw [hbd _ (by omega)]
    split
    · have := or_lt16 (clr_lt (x := x) h2) hx; omega
    · have := clr_lt (x := x) h2; omega
theorem Wt.opS {s : Nat → Nat} {B r : Nat} (h : Wt s B) (hb : vv s r 12 < 6) : Wt (opS s r) B := by
  unfold Jvm.Pilot.@@N@@.opS
  refine Wt.up (Wt.up (Wt.up h (by omega) (Nat.zero_le _)) (by omega) (Nat.zero_le _)) (by decide) ?_
  simp [bdF]
  omega
set_option maxRecDepth 100000 in
set_option maxHeartbeats 4000000 in
theorem c_X6_conditions (l : Launch) (d : Nat) (hd : 1 ≤ d) {n k : Nat} {w : Nat → AC} {M : Bk} (hM : MdAt n w k M) {B : Nat} (hW : Wt (M 0) B) (hB : B < 900000000) (r b x how : Nat) (hr : r < M 0 1) (hb6 : b < 6) (hx : x < 16) (hh : how < 3) : Sq l yX6_conditions cX6_conditions 8 none d [aR k, aZ r, aZ b, aZ x, aZ how] n w (Qn (PS n k M (cnS (M 0) r b x how) w)) := by
  refine Sp.of (plainFor_of_name (by decide)) (Nat.le_of_ble_eq_true rfl) (fun Γ hΓ hR => ?_)
  show Γ 0 [aR k, aZ r, aZ b, aZ x, aZ how, none, none, none] [] (0, 0) n w
  have h8 := hW.2.1
  have h1 := hW.m16 hr (x := 13 + 2 * b) (by omega) (by omega)
  have h2 := hW.m16 hr (x := 13 + 2 * b + 1) (by omega) (by omega)
  have hF0 : Fr k 6 w w := Fr.rf
  have hU := Mup.rf M
  refine qa_iconst (v := nI 1) hΓ dX6_conditions_0 ic_1 ?_
  refine qa_iload_n hΓ dX6_conditions_1 rfl ?_
  refine qz_ishl hΓ dX6_conditions_2 (by omega) ?_
  refine qa_istore hΓ dX6_conditions_3 (by decide) ?_
  refine qa_aload_n hΓ dX6_conditions_5 rfl ?_
  refine qa_iload_n hΓ dX6_conditions_6 rfl ?_
  refine qa_bipush (v := nI 13) hΓ dX6_conditions_7 bp_13 ?_
  refine qa_iconst (v := nI 2) hΓ dX6_conditions_9 ic_2 ?_
  refine qa_iload_n hΓ dX6_conditions_10 rfl ?_
  refine qz_imul hΓ dX6_conditions_11 ?_
  refine qz_iadd hΓ dX6_conditions_12 ?_
  refine qc_V1 hΓ dX6_conditions_13 lk_X6_37 vw_X6_of (by omega) (c_X6_ofU l (d - 1) hM hU _ _ (by omega) (by omega)) rfl hM.lt hM.o rfl rfl (Nat.le_of_ble_eq_true rfl) ?_
  refine qa_iload hΓ dX6_conditions_16 rfl ?_
  refine qa_iconst (v := (-1)) hΓ dX6_conditions_18 ic_m1 ?_
  refine qa_ixor hΓ dX6_conditions_19 ?_
  refine qa_iand hΓ dX6_conditions_20 ?_
  rw [clr_int h1 hx]
  refine qa_istore hΓ dX6_conditions_21 (by decide) ?_
  refine qa_aload_n hΓ dX6_conditions_23 rfl ?_
  refine qa_iload_n hΓ dX6_conditions_24 rfl ?_
  refine qa_bipush (v := nI 13) hΓ dX6_conditions_25 bp_13 ?_
  refine qa_iconst (v := nI 2) hΓ dX6_conditions_27 ic_2 ?_
  refine qa_iload_n hΓ dX6_conditions_28 rfl ?_
  refine qz_imul hΓ dX6_conditions_29 ?_
  refine qz_iadd hΓ dX6_conditions_30 ?_
  refine qa_iconst (v := nI 1) hΓ dX6_conditions_31 ic_1 ?_
  refine qz_iadd hΓ dX6_conditions_32 ?_
  refine qc_V1 hΓ dX6_conditions_33 lk_X6_37 vw_X6_of (by omega) (c_X6_ofU l (d - 1) hM hU _ _ (by omega) (by omega)) rfl hM.lt hM.o rfl rfl (Nat.le_of_ble_eq_true rfl) ?_
  refine qa_iload hΓ dX6_conditions_36 rfl ?_
  refine qa_iconst (v := (-1)) hΓ dX6_conditions_38 ic_m1 ?_
  refine qa_ixor hΓ dX6_conditions_39 ?_
  refine qa_iand hΓ dX6_conditions_40 ?_
  rw [clr_int h2 hx]
  refine qa_istore hΓ dX6_conditions_41 (by decide) ?_
  refine qa_aload_n hΓ dX6_conditions_43 rfl ?_
  refine qa_iload_n hΓ dX6_conditions_44 rfl ?_
  refine qa_bipush (v := nI 13) hΓ dX6_conditions_45 bp_13 ?_
  refine qa_iconst (v := nI 2) hΓ dX6_conditions_47 ic_2 ?_
  refine qa_iload_n hΓ dX6_conditions_48 rfl ?_
  refine qz_imul hΓ dX6_conditions_49 ?_
  refine qz_iadd hΓ dX6_conditions_50 ?_
  refine qa_iload hΓ dX6_conditions_51 rfl ?_
  refine qa_iconst (v := nI 1) hΓ dX6_conditions_53 ic_1 ?_
  refine qz_icmp_ne (tgt := 65) hΓ dX6_conditions_54 (by decide) (by omega) (by omega) (fun h_54 => ?_) (fun h_54 => ?_)
  · refine qa_iload hΓ dX6_conditions_65 rfl ?_
    refine qc_V0q hΓ dX6_conditions_67 lk_X6_49 vw_X6_puts (by omega) (c_X6_puts l (d - 1) hM _ _ _ (by omega) (by omega)) rfl hM.lt hM.o rfl rfl (Nat.le_of_ble_eq_true rfl) (fun w hq => ?_)
    obtain ⟨hM, hF⟩ := hq
    have hF0 := hF0.tr hF
    obtain ⟨M1, hM, hU⟩ := Mup.putE hM hU
    refine qa_aload_n hΓ dX6_conditions_70 rfl ?_
    refine qa_iload_n hΓ dX6_conditions_71 rfl ?_
    refine qa_bipush (v := nI 13) hΓ dX6_conditions_72 bp_13 ?_
    refine qa_iconst (v := nI 2) hΓ dX6_conditions_74 ic_2 ?_
    refine qa_iload_n hΓ dX6_conditions_75 rfl ?_
    refine qz_imul hΓ dX6_conditions_76 ?_
    refine qz_iadd hΓ dX6_conditions_77 ?_
    refine qa_iconst (v := nI 1) hΓ dX6_conditions_78 ic_1 ?_
    refine qz_iadd hΓ dX6_conditions_79 ?_
    refine qa_iload hΓ dX6_conditions_80 rfl ?_
    refine qa_iconst (v := nI 2) hΓ dX6_conditions_82 ic_2 ?_
    refine qz_icmp_ne (tgt := 94) hΓ dX6_conditions_83 (by decide) (by omega) (by omega) (fun h_83 => ?_) (fun h_83 => ?_)
    · refine qa_iload hΓ dX6_conditions_94 rfl ?_
      refine qc_V0q hΓ dX6_conditions_96 lk_X6_49 vw_X6_puts (by omega) (c_X6_puts l (d - 1) hM _ _ _ (by omega) (by omega)) rfl hM.lt hM.o rfl rfl (Nat.le_of_ble_eq_true rfl) (fun w hq => ?_)
      obtain ⟨hM, hF⟩ := hq
      have hF0 := hF0.tr hF
      obtain ⟨M1, hM, hU⟩ := Mup.putE hM hU
      refine qr_v hR dX6_conditions_99 ⟨rfl, M1, hM, ?_, hF0⟩
      unfold cnS
      rw [if_neg h_54, if_neg h_83]
      exact hU
    · refine qa_iload hΓ dX6_conditions_86 rfl ?_
      refine qa_iload hΓ dX6_conditions_88 rfl ?_
      refine qz_ior hΓ dX6_conditions_90 ?_
      refine qa_goto (tgt := 96) hΓ dX6_conditions_91 (by decide) ?_
      refine qc_V0q hΓ dX6_conditions_96 lk_X6_49 vw_X6_puts (by omega) (c_X6_puts l (d - 1) hM _ _ _ (by omega) (by omega)) rfl hM.lt hM.o rfl rfl (Nat.le_of_ble_eq_true rfl) (fun w hq => ?_)
      obtain ⟨hM, hF⟩ := hq
      have hF0 := hF0.tr hF
      obtain ⟨M1, hM, hU⟩ := Mup.putE hM hU
      refine qr_v hR dX6_conditions_99 ⟨rfl, M1, hM, ?_, hF0⟩
      unfold cnS
      rw [if_neg h_54, if_pos h_83]
      exact hU
  · refine qa_iload hΓ dX6_conditions_57 rfl ?_
    refine qa_iload hΓ dX6_conditions_59 rfl ?_
    refine qz_ior hΓ dX6_conditions_61 ?_
    refine qa_goto (tgt := 67) hΓ dX6_conditions_62 (by decide) ?_
    refine qc_V0q hΓ dX6_conditions_67 lk_X6_49 vw_X6_puts (by omega) (c_X6_puts l (d - 1) hM _ _ _ (by omega) (by omega)) rfl hM.lt hM.o rfl rfl (Nat.le_of_ble_eq_true rfl) (fun w hq => ?_)
    obtain ⟨hM, hF⟩ := hq
    have hF0 := hF0.tr hF
    obtain ⟨M1, hM, hU⟩ := Mup.putE hM hU
    refine qa_aload_n hΓ dX6_conditions_70 rfl ?_
    refine qa_iload_n hΓ dX6_conditions_71 rfl ?_
    refine qa_bipush (v := nI 13) hΓ dX6_conditions_72 bp_13 ?_
    refine qa_iconst (v := nI 2) hΓ dX6_conditions_74 ic_2 ?_
    refine qa_iload_n hΓ dX6_conditions_75 rfl ?_
    refine qz_imul hΓ dX6_conditions_76 ?_
    refine qz_iadd hΓ dX6_conditions_77 ?_
    refine qa_iconst (v := nI 1) hΓ dX6_conditions_78 ic_1 ?_
    refine qz_iadd hΓ dX6_conditions_79 ?_
    refine qa_iload hΓ dX6_conditions_80 rfl ?_
    refine qa_iconst (v := nI 2) hΓ dX6_conditions_82 ic_2 ?_
    refine qz_icmp_ne (tgt := 94) hΓ dX6_conditions_83 (by decide) (by omega) (by omega) (fun h_83 => ?_) (fun h_83 => ?_)
    · refine qa_iload hΓ dX6_conditions_94 rfl ?_
      refine qc_V0q hΓ dX6_conditions_96 lk_X6_49 vw_X6_puts (by omega) (c_X6_puts l (d - 1) hM _ _ _ (by omega) (by omega)) rfl hM.lt hM.o rfl rfl (Nat.le_of_ble_eq_true rfl) (fun w hq => ?_)
      obtain ⟨hM, hF⟩ := hq
      have hF0 := hF0.tr hF
      obtain ⟨M1, hM, hU⟩ := Mup.putE hM hU
      refine qr_v hR dX6_conditions_99 ⟨rfl, M1, hM, ?_, hF0⟩
      unfold cnS
      rw [if_pos h_54, if_neg h_83]
      exact hU
    · refine qa_iload hΓ dX6_conditions_86 rfl ?_
      refine qa_iload hΓ dX6_conditions_88 rfl ?_
      refine qz_ior hΓ dX6_conditions_90 ?_
      refine qa_goto (tgt := 96) hΓ dX6_conditions_91 (by decide) ?_
      refine qc_V0q hΓ dX6_conditions_96 lk_X6_49 vw_X6_puts (by omega) (c_X6_puts l (d - 1) hM _ _ _ (by omega) (by omega)) rfl hM.lt hM.o rfl rfl (Nat.le_of_ble_eq_true rfl) (fun w hq => ?_)
      obtain ⟨hM, hF⟩ := hq
      have hF0 := hF0.tr hF
      obtain ⟨M1, hM, hU⟩ := Mup.putE hM hU
      refine qr_v hR dX6_conditions_99 ⟨rfl, M1, hM, ?_, hF0⟩
      unfold cnS
      rw [if_pos h_54, if_pos h_83]
      exact hU

set_option maxRecDepth 100000 in
set_option maxHeartbeats 4000000 in
theorem c_X6_opensBranch (l : Launch) (d : Nat) (hd : 1 ≤ d) {n k : Nat} {w : Nat → AC} {M : Bk} (hM : MdAt n w k M) (r : Nat) (hr : r < 8) (hb6 : vv (M 0) r 12 < 6) : Sq l yX6_opensBranch cX6_opensBranch 3 none d [aR k, aZ r] n w (Qn (PS n k M (opS (M 0) r) w)) := by
  refine Sp.of (plainFor_of_name (by decide)) (Nat.le_of_ble_eq_true rfl) (fun Γ hΓ hR => ?_)
  show Γ 0 [aR k, aZ r, none] [] (0, 0) n w
  have hF0 : Fr k 6 w w := Fr.rf
  have hU := Mup.rf M
  refine qa_aload_n hΓ dX6_opensBranch_0 rfl ?_
  refine qa_iload_n hΓ dX6_opensBranch_1 rfl ?_
  refine qa_bipush (v := nI 12) hΓ dX6_opensBranch_2 bp_12 ?_
  refine qc_V1 hΓ dX6_opensBranch_4 lk_X6_37 vw_X6_of (by omega) (c_X6_ofU l (d - 1) hM hU _ _ (by omega) (by omega)) rfl hM.lt hM.o rfl rfl (Nat.le_of_ble_eq_true rfl) ?_
  refine qa_istore_n hΓ dX6_opensBranch_7 (by decide) ?_
  refine qa_aload_n hΓ dX6_opensBranch_8 rfl ?_
  refine qa_iload_n hΓ dX6_opensBranch_9 rfl ?_
  refine qa_bipush (v := nI 13) hΓ dX6_opensBranch_10 bp_13 ?_
  refine qa_iconst (v := nI 2) hΓ dX6_opensBranch_12 ic_2 ?_
  refine qa_iload_n hΓ dX6_opensBranch_13 rfl ?_
  refine qz_imul hΓ dX6_opensBranch_14 ?_
  refine qz_iadd hΓ dX6_opensBranch_15 ?_
  refine qa_iconst (v := nI 0) hΓ dX6_opensBranch_16 ic_0 ?_
  refine qc_V0q hΓ dX6_opensBranch_17 lk_X6_49 vw_X6_puts (by omega) (c_X6_puts l (d - 1) hM _ _ _ (by omega) (by omega)) rfl hM.lt hM.o rfl rfl (Nat.le_of_ble_eq_true rfl) (fun w hq => ?_)
  obtain ⟨hM, hF⟩ := hq
  have hF0 := hF0.tr hF
  obtain ⟨M1, hM, hU⟩ := Mup.putE hM hU
  refine qa_aload_n hΓ dX6_opensBranch_20 rfl ?_
  refine qa_iload_n hΓ dX6_opensBranch_21 rfl ?_
  refine qa_bipush (v := nI 13) hΓ dX6_opensBranch_22 bp_13 ?_
  refine qa_iconst (v := nI 2) hΓ dX6_opensBranch_24 ic_2 ?_
  refine qa_iload_n hΓ dX6_opensBranch_25 rfl ?_
  refine qz_imul hΓ dX6_opensBranch_26 ?_
  refine qz_iadd hΓ dX6_opensBranch_27 ?_
  refine qa_iconst (v := nI 1) hΓ dX6_opensBranch_28 ic_1 ?_
  refine qz_iadd hΓ dX6_opensBranch_29 ?_
  refine qa_iconst (v := nI 0) hΓ dX6_opensBranch_30 ic_0 ?_
  refine qc_V0q hΓ dX6_opensBranch_31 lk_X6_49 vw_X6_puts (by omega) (c_X6_puts l (d - 1) hM _ _ _ (by omega) (by omega)) rfl hM.lt hM.o rfl rfl (Nat.le_of_ble_eq_true rfl) (fun w hq => ?_)
  obtain ⟨hM, hF⟩ := hq
  have hF0 := hF0.tr hF
  obtain ⟨M1, hM, hU⟩ := Mup.putE hM hU
  refine qa_aload_n hΓ dX6_opensBranch_34 rfl ?_
  refine qa_iload_n hΓ dX6_opensBranch_35 rfl ?_
  refine qa_bipush (v := nI 12) hΓ dX6_opensBranch_36 bp_12 ?_
  refine qa_iload_n hΓ dX6_opensBranch_38 rfl ?_
  refine qa_iconst (v := nI 1) hΓ dX6_opensBranch_39 ic_1 ?_
  refine qz_iadd hΓ dX6_opensBranch_40 ?_
  refine qc_V0q hΓ dX6_opensBranch_41 lk_X6_49 vw_X6_puts (by omega) (c_X6_puts l (d - 1) hM _ _ _ (by omega) (by omega)) rfl hM.lt hM.o rfl rfl (Nat.le_of_ble_eq_true rfl) (fun w hq => ?_)
  obtain ⟨hM, hF⟩ := hq
  have hF0 := hF0.tr hF
  obtain ⟨M1, hM, hU⟩ := Mup.putE hM hU
  exact qr_v hR dX6_opensBranch_44 ⟨rfl, M1, hM, hU, hF0⟩

