/-! The model: hazards, stable states, explanations, time that passes -/
def fdS (s : Nat → Nat) : Nat := mk (stB s 4) (s 1)
def hzL (s : Nat → Nat) : Nat → Nat → (Nat → Nat) × Nat
  | 0, all => (s, all)
  | m + 1, all => match nx s false with
    | none => (s, all)
    | some e => hzL (hap s e) m (all &&& fdS (hap s e))
def andn (a b : Nat) : Nat := a &&& (65535 ^^^ b)
theorem andn_int {a b : Nat} (ha : a < 65536) : nI a &&& (nI b ^^^ (-1)) = nI (andn a b) := by
  unfold andn
  apply Int32.toBitVec_inj.mp
  rw [Int32.toBitVec_and, Int32.toBitVec_xor, show (-1 : Int32).toBitVec = BitVec.allOnes 32 from rfl, BitVec.xor_allOnes]
  apply BitVec.eq_of_getLsbD_eq
  intro i hi
  show (BitVec.ofNat 32 a &&& ~~~ (BitVec.ofNat 32 b)).getLsbD i = (BitVec.ofNat 32 (a &&& (65535 ^^^ b))).getLsbD i
  simp only [BitVec.getLsbD_and, BitVec.getLsbD_not, BitVec.getLsbD_ofNat, hi, decide_true, Bool.true_and, Nat.testBit_and, Nat.testBit_xor]
  rw [show 65535 = 2 ^ 16 - 1 from rfl, Nat.testBit_two_pow_sub_one]
  by_cases h : i < 16
  · simp [h]
  · have h2 : a.testBit i = false := testBit_lt (m := 16) ha (by omega)
    simp [h2]
def hzV (s : Nat → Nat) (ky : Nat) : Int32 := if nx (hzL (lks (prS s ky)).2 200 (fdS (lks (prS s ky)).2)).1 false = none then nI (andn (fdS s &&& fdS (hzL (lks (prS s ky)).2 200 (fdS (lks (prS s ky)).2)).1) (hzL (lks (prS s ky)).2 200 (fdS (lks (prS s ky)).2)).2) else -9
def spHaz (M : Bk) (ky : Int32) (r : Int32) (M' : Bk) : Prop := (if nI 0 ≤ ky ∧ ky ≤ nI 7 then r = hzV (M 0) (tn ky) else r = -1) ∧ Sm M M'
theorem fd_lt {s : Nat → Nat} {B : Nat} (h : Wt s B) : fdS s < 256 := mk_256 _ h.2.1
theorem Wt.hzL {m : Nat} : ∀ {s : Nat → Nat} {B : Nat} (all : Nat), Wt s B → Wt (hzL s m all).1 (B + 20 * m) := by
  induction m with
  | zero => intro s B all h; exact h
  | succ m ih =>
    intro s B all h
    unfold Jvm.Pilot.@@N@@.hzL
    split
    · exact h.mono (by omega)
    · rename_i e he
      have h1 := ih (all &&& fdS (Jvm.Pilot.@@N@@.hap s e)) (Wt.hap h (nx_lt he))
      rw [show B + 20 + 20 * m = B + 20 * (m + 1) by omega] at h1
      exact h1
set_option maxRecDepth 100000 in
set_option maxHeartbeats 4000000 in
theorem c_X6_hazards (l : Launch) (d : Nat) (hd : 4 ≤ d) {n k : Nat} {w : Nat → AC} {M : Bk} (hM : MdAt n w k M) {B : Nat} (hW : Wt (M 0) B) (hB : B < 900000000) (ky : Int32) : Sq l yX6_hazards cX6_hazards 6 (some .int) d [aR k, aI ky] n w (QM (spHaz M ky) n k w) := by
  refine Sp.of (plainFor_of_name (by decide)) (Nat.le_of_ble_eq_true rfl) (fun Γ hΓ hR => ?_)
  show Γ 0 [aR k, aI ky, none, none, none, none] [] (0, 0) n w
  refine qa_iload_n hΓ dX6_hazards_0 rfl ?_
  refine qa_iconst (v := nI 0) hΓ dX6_hazards_1 ic_0 ?_
  refine qa_bipush (v := nI 7) hΓ dX6_hazards_2 bp_7 ?_
  refine qc_S1 hΓ dX6_hazards_4 lk_X6_33 vw_X6_in (by omega) (c_X6_in l (d - 1) _ _ _) rfl rfl (Nat.le_of_ble_eq_true rfl) ?_
  refine qb_if_ne (tgt := 12) hΓ dX6_hazards_7 (by decide) (fun h_7 => ?_) (fun h_7 => ?_)
  · have hC : nI 0 ≤ ky ∧ ky ≤ nI 7 := of_decide_eq_true h_7
    obtain ⟨ky, hk1, hk2, rfl⟩ := rng (by decide) hC (by decide)
    have hW1 : Wt (prS (M 0) ky) B := hW.pr (by omega)
    obtain ⟨w0, hw0⟩ : ∃ X, X = w ∧ ∀ w2, Fr k 6 X w2 → Fr k 6 w w2 := ⟨w, rfl, fun _ h => h⟩
    obtain ⟨hww, hw0⟩ := hw0
    refine qa_aload_n hΓ dX6_hazards_12 rfl ?_
    refine qc_V0q hΓ dX6_hazards_13 lk_X6_118 vw_X6_keeps (by omega) (c_X6_keeps l (d - 1) hM) rfl hM.lt hM.o rfl rfl (Nat.le_of_ble_eq_true rfl) (fun w hq => ?_)
    obtain ⟨hM, hF0⟩ := hq
    obtain ⟨M1, hM, hK⟩ : ∃ X, MdAt n w k X ∧ X = rset M 2 (M 0) := ⟨_, hM, rfl⟩
    have hU := keepU hK
    rw [← hww] at hF0
    obtain ⟨M9, hM9⟩ : ∃ X, X = M1 := ⟨_, rfl⟩
    have hU : Mup M9 (M 0) M1 := hM9 ▸ hU
    rw [← hM9] at hK
    refine qa_aload_n hΓ dX6_hazards_16 rfl ?_
    refine qa_iconst (v := nI 4) hΓ dX6_hazards_17 ic_4 ?_
    refine qc_V1 hΓ dX6_hazards_18 lk_X6_132 vw_X6_set (by omega) (c_X6_set l (d - 1) (by omega) hM 4 (by decide) (by rw [hU.1]; exact hW.2.1) (fun r hr => by rw [hU.1] at hr ⊢; have := hW.b (x := 4) hr (by decide); omega)) rfl hM.lt hM.o rfl rfl (Nat.le_of_ble_eq_true rfl) ?_
    rw [hU.1]
    refine qa_istore_n hΓ dX6_hazards_21 (by decide) ?_
    refine qa_aload_n hΓ dX6_hazards_22 rfl ?_
    refine qa_get hΓ dX6_hazards_23 fk_X6_7 hM.lt hM.o rfl ?_
    refine qa_iconst (v := nI 0) hΓ dX6_hazards_26 ic_0 ?_
    refine qa_dup2 hΓ dX6_hazards_27 ?_
    refine qz_iald hΓ dX6_hazards_28 (hM.lti (i := 1) (by decide)) hM.a0 (by omega) (by decide) ?_
    refine qa_iconst (v := nI 1) hΓ dX6_hazards_29 ic_1 ?_
    refine qa_iload_n hΓ dX6_hazards_30 rfl ?_
    refine qz_ishl hΓ dX6_hazards_31 (by omega) ?_
    refine qz_ixor hΓ dX6_hazards_32 ?_
    refine qM_ast hΓ (N := 203) 0 (by decide) rfl rfl dX6_hazards_33 hM (by omega) (fun w hM hF => ?_)
    have hF0 := hF0.tr hF
    rw [hU.1] at hM
    obtain ⟨M1, hM, hU⟩ := Mup.setE hM hU
    have hU : Mup _ (prS (M 0) ky) M1 := hU
    refine qa_aload_n hΓ dX6_hazards_34 rfl ?_
    refine qa_dup hΓ dX6_hazards_35 ?_
    refine qa_get hΓ dX6_hazards_36 fk_X6_65 hM.lt hM.o rfl ?_
    refine qa_aload_n hΓ dX6_hazards_39 rfl ?_
    refine qc_V1q hΓ dX6_hazards_40 lk_X6_68 vw_X6_looks (by omega) (c_X6_looks l (d - 1) (by omega) hM (by rw [hU.1]; exact hW1) (by omega)) rfl hM.lt hM.o rfl rfl (Nat.le_of_ble_eq_true rfl) (fun w hq => ?_)
    obtain ⟨M2, hM, hU2, hF⟩ := hq
    have hF0 := hF0.tr hF
    have hUo := hU
    have hU := hU.lookE hU2
    refine qz_iadd hΓ dX6_hazards_43 ?_
    refine qM_put hΓ 2 dX6_hazards_44 fk_X6_65 (by decide) hM (fun w hM hF => ?_)
    have hF0 := hF0.tr hF
    obtain ⟨M1, hM, hU⟩ := Mup.chgE hM hU
    refine qa_aload_n hΓ dX6_hazards_47 rfl ?_
    refine qa_iconst (v := nI 4) hΓ dX6_hazards_48 ic_4 ?_
    refine qc_V1 hΓ dX6_hazards_49 lk_X6_132 vw_X6_set (by omega) (c_X6_set l (d - 1) (by omega) hM 4 (by decide) (by rw [hU.1]; exact hW1.lks.2.1) (fun r hr => by rw [hU.1] at hr ⊢; have := hW1.lks.b (x := 4) hr (by decide); omega)) rfl hM.lt hM.o rfl rfl (Nat.le_of_ble_eq_true rfl) ?_
    rw [hU.1]
    refine qa_istore_n hΓ dX6_hazards_52 (by decide) ?_
    refine qa_iconst (v := nI 0) hΓ dX6_hazards_53 ic_0 ?_
    refine qa_istore hΓ dX6_hazards_54 (by decide) ?_
    refine qa_aload_n hΓ dX6_hazards_56 rfl ?_
    refine qa_iconst (v := nI 0) hΓ dX6_hazards_57 ic_0 ?_
    refine qc_V1 hΓ dX6_hazards_58 lk_X6_71 vw_X6_next (by omega) (c_X6_next l (d - 1) (by omega) hM (by rw [hU.1]; exact hW1.lks) (by omega) false) rfl hM.lt hM.o rfl rfl (Nat.le_of_ble_eq_true rfl) ?_
    rw [hU.1]
    refine qa_istore hΓ dX6_hazards_61 (by decide) ?_
    have tail : ∀ (w1 : Nat → AC) (M2 : Bk) (t : Nat → Nat) (j all : Nat) (v : AV), MdAt n w1 k M2 → Mup M9 t M2 → Fr k 6 w0 w1 → Wt t (B + 4000) → hzL (lks (prS (M 0) ky)).2 200 (fdS (lks (prS (M 0) ky)).2) = (t, all) → Γ 105 [aR k, aZ ky, aZ (fdS (M 0)), aZ all, aZ j, v] [] (0, 0) n w1 := by
      intro w M2 t j all v hM hU hF0 hWt hz
      refine qa_aload_n hΓ dX6_hazards_105 rfl ?_
      refine qa_iconst (v := nI 0) hΓ dX6_hazards_106 ic_0 ?_
      refine qc_V1 hΓ dX6_hazards_107 lk_X6_71 vw_X6_next (by omega) (c_X6_next l (d - 1) (by omega) hM (by rw [hU.1]; exact hWt) (by omega) false) rfl hM.lt hM.o rfl rfl (Nat.le_of_ble_eq_true rfl) ?_
      rw [hU.1]
      refine qa_bipush (v := (-9)) hΓ dX6_hazards_110 bp_m9 ?_
      cases ho : nx t false with
      | none =>
        refine qa_icmp_ne (tgt := 129) hΓ dX6_hazards_112 (by decide) (fun h => absurd rfl h) (fun _ => ?_)
        refine qa_iload_n hΓ dX6_hazards_115 rfl ?_
        refine qa_aload_n hΓ dX6_hazards_116 rfl ?_
        refine qa_iconst (v := nI 4) hΓ dX6_hazards_117 ic_4 ?_
        refine qc_V1 hΓ dX6_hazards_118 lk_X6_132 vw_X6_set (by omega) (c_X6_set l (d - 1) (by omega) hM 4 (by decide) (by rw [hU.1]; exact hWt.2.1) (fun r hr => by rw [hU.1] at hr ⊢; have := hWt.b (x := 4) hr (by decide); omega)) rfl hM.lt hM.o rfl rfl (Nat.le_of_ble_eq_true rfl) ?_
        rw [hU.1]
        refine qz_iand hΓ dX6_hazards_121 ?_
        refine qa_iload_n hΓ dX6_hazards_122 rfl ?_
        refine qa_iconst (v := (-1)) hΓ dX6_hazards_123 ic_m1 ?_
        refine qa_ixor hΓ dX6_hazards_124 ?_
        refine qa_iand hΓ dX6_hazards_125 ?_
        rw [andn_int (Nat.lt_of_le_of_lt Nat.and_le_left (Nat.lt_of_lt_of_le (fd_lt hW) (by decide)))]
        refine qa_goto (tgt := 131) hΓ dX6_hazards_126 (by decide) ?_
        refine qa_istore hΓ dX6_hazards_131 (by decide) ?_
        refine qa_aload_n hΓ dX6_hazards_133 rfl ?_
        refine qc_V0q hΓ dX6_hazards_134 lk_X6_141 vw_X6_restores (by omega) (c_X6_restores l (d - 1) hM) rfl hM.lt hM.o rfl rfl (Nat.le_of_ble_eq_true rfl) (fun w hq => ?_)
        obtain ⟨hM, hF⟩ := hq
        have hF0 := hF0.tr hF
        refine qa_iload hΓ dX6_hazards_137 rfl ?_
        exact qr_i hR dX6_hazards_139 ⟨_, _, rfl, hM, hw0 _ hF0, by
          unfold spHaz
          rw [if_pos hC, tn_nI (by omega)]
          refine ⟨?_, keepR hK hU⟩
          unfold hzV
          rw [hz]
          exact (if_pos ho).symm⟩
      | some q =>
        have hq9 := nx_lt ho
        have h18 := hWt.2.1
        refine qa_icmp_ne (tgt := 129) hΓ dX6_hazards_112 (by decide) (fun _ => ?_) (fun h => absurd h (nI_m9 q (by omega)))
        refine qa_bipush (v := (-9)) hΓ dX6_hazards_129 bp_m9 ?_
        refine qa_istore hΓ dX6_hazards_131 (by decide) ?_
        refine qa_aload_n hΓ dX6_hazards_133 rfl ?_
        refine qc_V0q hΓ dX6_hazards_134 lk_X6_141 vw_X6_restores (by omega) (c_X6_restores l (d - 1) hM) rfl hM.lt hM.o rfl rfl (Nat.le_of_ble_eq_true rfl) (fun w hq => ?_)
        obtain ⟨hM, hF⟩ := hq
        have hF0 := hF0.tr hF
        refine qa_iload hΓ dX6_hazards_137 rfl ?_
        exact qr_i hR dX6_hazards_139 ⟨_, _, rfl, hM, hw0 _ hF0, by
          unfold spHaz
          rw [if_pos hC, tn_nI (by omega)]
          refine ⟨?_, keepR hK hU⟩
          unfold hzV
          rw [hz]
          exact (if_neg (by show ¬ nx t false = none; rw [ho]; exact fun h => by cases h)).symm⟩
    have loop : ∀ (m j all : Nat) (w1 : Nat → AC) (M2 : Bk) (t : Nat → Nat), j + m = 200 → MdAt n w1 k M2 → Mup M9 t M2 → Fr k 6 w0 w1 → Wt t (B + 20 * j) → hzL (lks (prS (M 0) ky)).2 200 (fdS (lks (prS (M 0) ky)).2) = hzL t m all → Γ 63 [aR k, aZ ky, aZ (fdS (M 0)), aZ all, aZ j, aI (nI9 (nx t false))] [] (0, 0) n w1 := by
      intro m
      induction m with
      | zero =>
        intro j all w M2 t hj hM hU hF0 hWt hz
        rw [show hzL t 0 all = (t, all) from rfl] at hz
        refine qa_iload hΓ dX6_hazards_63 rfl ?_
        refine qa_sipush (v := nI 200) hΓ dX6_hazards_65 sp_200 ?_
        refine qz_icmp_ge (tgt := 105) hΓ dX6_hazards_68 (by decide) (by omega) (by decide) (fun _ => ?_) (fun h => absurd h (by omega))
        exact tail w M2 t j all _ hM hU hF0 (hWt.mono (by omega)) hz
      | succ m ih =>
        intro j all w M2 t hj hM hU hF0 hWt hz
        have h8 := hWt.2.1
        cases ho : nx t false with
        | none =>
          rw [show hzL t (m + 1) all = (t, all) by rw [hzL, ho]] at hz
          show Γ 63 [aR k, aZ ky, aZ (fdS (M 0)), aZ all, aZ j, aI (-9)] [] (0, 0) n w
          refine qa_iload hΓ dX6_hazards_63 rfl ?_
          refine qa_sipush (v := nI 200) hΓ dX6_hazards_65 sp_200 ?_
          refine qz_icmp_ge (tgt := 105) hΓ dX6_hazards_68 (by decide) (by omega) (by decide) (fun h => absurd h (by omega)) (fun _ => ?_)
          refine qa_iload hΓ dX6_hazards_71 rfl ?_
          refine qa_bipush (v := (-9)) hΓ dX6_hazards_73 bp_m9 ?_
          refine qa_icmp_eq (tgt := 105) hΓ dX6_hazards_75 (by decide) (fun _ => ?_) (fun h => absurd rfl h)
          exact tail w M2 t j all _ hM hU hF0 (hWt.mono (by omega)) hz
        | some q =>
          have hq9 := nx_lt ho
          rw [show hzL t (m + 1) all = hzL (hap t q) m (all &&& fdS (hap t q)) by rw [hzL, ho]] at hz
          show Γ 63 [aR k, aZ ky, aZ (fdS (M 0)), aZ all, aZ j, aZ q] [] (0, 0) n w
          refine qa_iload hΓ dX6_hazards_63 rfl ?_
          refine qa_sipush (v := nI 200) hΓ dX6_hazards_65 sp_200 ?_
          refine qz_icmp_ge (tgt := 105) hΓ dX6_hazards_68 (by decide) (by omega) (by decide) (fun h => absurd h (by omega)) (fun _ => ?_)
          refine qa_iload hΓ dX6_hazards_71 rfl ?_
          refine qa_bipush (v := (-9)) hΓ dX6_hazards_73 bp_m9 ?_
          refine qa_icmp_eq (tgt := 105) hΓ dX6_hazards_75 (by decide) (fun h => absurd h (nI_m9 q (by omega))) (fun _ => ?_)
          refine qa_aload_n hΓ dX6_hazards_78 rfl ?_
          refine qa_iload hΓ dX6_hazards_79 rfl ?_
          refine qc_V0q hΓ dX6_hazards_81 lk_X6_75 vw_X6_happens (by omega) (c_X6_happens l (d - 1) (by omega) hM (by rw [hU.1]; exact hWt) (by omega) q (by rw [hU.1]; exact hq9) (nx_kind ho)) rfl hM.lt hM.o rfl rfl (Nat.le_of_ble_eq_true rfl) (fun w hq => ?_)
          obtain ⟨M3, hM, hU2, hF⟩ := hq
          have hF0 := hF0.tr hF
          rw [hU.1] at hU2
          have hU := hU.tr hU2
          have hWt : Wt (hap t q) (B + 20 * (j + 1)) := by
            rw [show B + 20 * (j + 1) = B + 20 * j + 20 by omega]
            exact hWt.hap hq9
          refine qa_iload_n hΓ dX6_hazards_84 rfl ?_
          refine qa_aload_n hΓ dX6_hazards_85 rfl ?_
          refine qa_iconst (v := nI 4) hΓ dX6_hazards_86 ic_4 ?_
          refine qc_V1 hΓ dX6_hazards_87 lk_X6_132 vw_X6_set (by omega) (c_X6_set l (d - 1) (by omega) hM 4 (by decide) (by rw [hU.1]; exact hWt.2.1) (fun r hr => by rw [hU.1] at hr ⊢; have := hWt.b (x := 4) hr (by decide); omega)) rfl hM.lt hM.o rfl rfl (Nat.le_of_ble_eq_true rfl) ?_
          rw [hU.1]
          refine qz_iand hΓ dX6_hazards_90 ?_
          refine qa_istore_n hΓ dX6_hazards_91 (by decide) ?_
          refine qz_iinc hΓ dX6_hazards_92 ii_1 rfl (by decide) ?_
          refine qa_aload_n hΓ dX6_hazards_95 rfl ?_
          refine qa_iconst (v := nI 0) hΓ dX6_hazards_96 ic_0 ?_
          refine qc_V1 hΓ dX6_hazards_97 lk_X6_71 vw_X6_next (by omega) (c_X6_next l (d - 1) (by omega) hM (by rw [hU.1]; exact hWt) (by omega) false) rfl hM.lt hM.o rfl rfl (Nat.le_of_ble_eq_true rfl) ?_
          rw [hU.1]
          refine qa_istore hΓ dX6_hazards_100 (by decide) ?_
          refine qa_goto (tgt := 63) hΓ dX6_hazards_102 (by decide) ?_
          exact ih (j + 1) (all &&& fdS (hap t q)) w M3 (hap t q) (by omega) hM hU hF0 hWt hz
    exact loop 200 0 _ w M1 (lks (prS (M 0) ky)).2 (by omega) hM hU hF0 hW1.lks rfl
  · refine qa_iconst (v := (-1)) hΓ dX6_hazards_10 ic_m1 ?_
    exact qr_i hR dX6_hazards_11 ⟨-1, M, rfl, hM, Fr.rf, by unfold spHaz; rw [if_neg (fun q => of_decide_eq_false h_7 q)]; exact ⟨rfl, Sm.rf M⟩⟩

