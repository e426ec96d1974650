/-! The model: sets, circuits, coils -/
/-- row 0 is s, the number of changes any, the rest as it was -/
def Mup (M : Bk) (s : Nat → Nat) (M' : Bk) : Prop := M' 0 = s ∧ (∀ a, 1 ≤ a → a ≤ 4 → M' a = M a) ∧ M' 5 0 = M 5 0 ∧ M' 5 1 = M 5 1 ∧ M' 5 3 = M 5 3
def PS (n k : Nat) (M : Bk) (s : Nat → Nat) (w : Nat → AC) : (Nat → AC) → Prop := fun w' => ∃ M', MdAt n w' k M' ∧ Mup M s M' ∧ Fr k 6 w w'
theorem Mup.rf (M : Bk) : Mup M (M 0) M := ⟨rfl, fun _ _ _ => rfl, rfl, rfl, rfl⟩
theorem Mup.tr {M M1 M2 : Bk} {s t : Nat → Nat} (h : Mup M s M1) (g : Mup M1 t M2) : Mup M t M2 := ⟨g.1, fun a h1 h2 => (g.2.1 a h1 h2).trans (h.2.1 a h1 h2), g.2.2.1.trans h.2.2.1, g.2.2.2.1.trans h.2.2.2.1, g.2.2.2.2.trans h.2.2.2.2⟩
theorem Mup.put {M M1 : Bk} {s : Nat → Nat} (h : Mup M s M1) (j y : Nat) : Mup M (upN s j y) (bset M1 0 j y) := by
  refine ⟨by rw [bset_eq, h.1], fun a h1 h2 => by rw [bset_ne _ _ _ (by omega)]; exact h.2.1 a h1 h2, ?_, ?_, ?_⟩
  · rw [bset_ne _ _ _ (by decide)]; exact h.2.2.1
  · rw [bset_ne _ _ _ (by decide)]; exact h.2.2.2.1
  · rw [bset_ne _ _ _ (by decide)]; exact h.2.2.2.2
theorem Mup.chg {M M1 : Bk} {s : Nat → Nat} (h : Mup M s M1) (y : Nat) : Mup M s (bset M1 5 2 y) := by
  refine ⟨by rw [bset_ne _ _ _ (by decide)]; exact h.1, fun a h1 h2 => by rw [bset_ne _ _ _ (by omega)]; exact h.2.1 a h1 h2, ?_, ?_, ?_⟩
  · rw [bset_eq, upN_ne _ _ _ (by decide)]; exact h.2.2.1
  · rw [bset_eq, upN_ne _ _ _ (by decide)]; exact h.2.2.2.1
  · rw [bset_eq, upN_ne _ _ _ (by decide)]; exact h.2.2.2.2
theorem land_not {a b : Nat} (ha : a < 4294967296) : nI a &&& (nI b ^^^ (-1)) = 0 ↔ a &&& b = a := by
  have e1 : (nI a &&& (nI b ^^^ (-1))).toBitVec = BitVec.ofNat 32 a &&& ~~~ (BitVec.ofNat 32 b) := by
    rw [Int32.toBitVec_and, Int32.toBitVec_xor, show (-1 : Int32).toBitVec = BitVec.allOnes 32 from rfl, BitVec.xor_allOnes]
    rfl
  constructor
  · intro h
    have h1 : BitVec.ofNat 32 a &&& ~~~ (BitVec.ofNat 32 b) = 0#32 := by rw [← e1, h]; rfl
    apply Nat.eq_of_testBit_eq
    intro i
    rw [Nat.testBit_and]
    rcases Nat.lt_or_ge i 32 with q | q
    · have h2 : (BitVec.ofNat 32 a &&& ~~~ (BitVec.ofNat 32 b)).getLsbD i = false := by rw [h1]; simp
      simp only [BitVec.getLsbD_and, BitVec.getLsbD_not, BitVec.getLsbD_ofNat, q, decide_true, Bool.true_and] at h2
      cases ha2 : a.testBit i <;> simp_all
    · have h3 : a.testBit i = false := Nat.testBit_lt_two_pow (Nat.lt_of_lt_of_le ha (show 4294967296 ≤ 2 ^ i from Nat.pow_le_pow_right (n := 2) (by decide) q))
      rw [h3]; rfl
  · intro h
    apply Int32.toBitVec_inj.mp
    rw [e1]
    apply BitVec.eq_of_getLsbD_eq
    intro i hi
    have h2 : (a &&& b).testBit i = a.testBit i := by rw [h]
    rw [Nat.testBit_and] at h2
    simp only [BitVec.getLsbD_and, BitVec.getLsbD_not, BitVec.getLsbD_ofNat, hi, decide_true, Bool.true_and, BitVec.getLsbD_zero]
    cases ha2 : a.testBit i <;> simp_all
set_option maxRecDepth 100000 in
set_option maxHeartbeats 4000000 in
theorem c_X6_set (l : Launch) (d : Nat) (hd : 1 ≤ d) {n k : Nat} {w : Nat → AC} {M : Bk} (hM : MdAt n w k M) (x : Nat) (hx : x < 25) (h8 : M 0 1 ≤ 8) (hb : ∀ r, r < M 0 1 → vv (M 0) r x < 4294967296) : Sq l yX6_set cX6_set 4 (some .int) d [aR k, aZ x] n w (Rs (some (aZ (mk (stB (M 0) x) (M 0 1)))) w) := by
  refine Sp.of (plainFor_of_name (by decide)) (Nat.le_of_ble_eq_true rfl) (fun Γ hΓ hR => ?_)
  show Γ 0 [aR k, aZ x, none, none] [] (0, 0) n w
  have loop : ∀ (m i : Nat), i ≤ M 0 1 → M 0 1 < i + m → Γ 4 [aR k, aZ x, aZ (mk (stB (M 0) x) i), aZ i] [] (0, 0) n w := by
    intro m
    induction m with
    | zero => intro i h1 h2; exact absurd h2 (by omega)
    | succ m ih =>
      intro i hi hm
      refine qa_iload_n hΓ dX6_set_4 rfl ?_
      refine qa_aload_n hΓ dX6_set_5 rfl ?_
      refine qa_get hΓ dX6_set_6 fk_X6_7 hM.lt hM.o rfl ?_
      refine qa_iconst (v := nI 1) hΓ dX6_set_9 ic_1 ?_
      refine qz_iald hΓ dX6_set_10 (hM.lti (i := 1) (by decide)) hM.a0 (by omega) (by decide) ?_
      refine qz_icmp_ge (tgt := 39) hΓ dX6_set_11 (by decide) (by omega) (by omega) (fun h_11 => ?_) (fun h_11 => ?_)
      · refine qa_iload_n hΓ dX6_set_39 rfl ?_
        exact qr_i hR dX6_set_40 ⟨by rw [show i = M 0 1 by omega], rfl⟩
      · have hbi := hb i (by omega)
        refine qa_iload_n hΓ dX6_set_14 rfl ?_
        refine qa_aload_n hΓ dX6_set_15 rfl ?_
        refine qa_iload_n hΓ dX6_set_16 rfl ?_
        refine qa_iload_n hΓ dX6_set_17 rfl ?_
        refine qc_V1 hΓ dX6_set_18 lk_X6_37 vw_X6_of (by omega) (c_X6_of l (d - 1) hM _ _ (by omega) (by omega)) rfl hM.lt hM.o rfl rfl (Nat.le_of_ble_eq_true rfl) ?_
        refine qz_if_eq (tgt := 30) hΓ dX6_set_21 (by decide) (by omega) (fun h_21 => ?_) (fun h_21 => ?_)
        · refine qa_iconst (v := nI 0) hΓ dX6_set_30 ic_0 ?_
          refine qz_ior hΓ dX6_set_31 ?_
          refine qa_istore_n hΓ dX6_set_32 (by decide) ?_
          refine qz_iinc hΓ dX6_set_33 ii_1 rfl (by decide) ?_
          refine qa_goto (tgt := 4) hΓ dX6_set_36 (by decide) ?_
          have e : mk (stB (M 0) x) (i + 1) = mk (stB (M 0) x) i ||| (if stB (M 0) x i then 1 <<< i else 0) := rfl
          simp only [stB, h_21, ne_eq, not_true_eq_false, not_false_eq_true, decide_true, decide_false, if_true, Bool.false_eq_true, if_false] at e
          first | exact e ▸ ih (i + 1) (by omega) (by omega) | exact ih (i + 1) (by omega) (by omega)
        · refine qa_iconst (v := nI 1) hΓ dX6_set_24 ic_1 ?_
          refine qa_iload_n hΓ dX6_set_25 rfl ?_
          refine qz_ishl hΓ dX6_set_26 (by omega) ?_
          refine qa_goto (tgt := 31) hΓ dX6_set_27 (by decide) ?_
          refine qz_ior hΓ dX6_set_31 ?_
          refine qa_istore_n hΓ dX6_set_32 (by decide) ?_
          refine qz_iinc hΓ dX6_set_33 ii_1 rfl (by decide) ?_
          refine qa_goto (tgt := 4) hΓ dX6_set_36 (by decide) ?_
          have e : mk (stB (M 0) x) (i + 1) = mk (stB (M 0) x) i ||| (if stB (M 0) x i then 1 <<< i else 0) := rfl
          simp only [stB, h_21, ne_eq, not_true_eq_false, not_false_eq_true, decide_true, decide_false, if_true, Bool.false_eq_true, if_false] at e
          first | exact e ▸ ih (i + 1) (by omega) (by omega) | exact ih (i + 1) (by omega) (by omega)
  refine qa_iconst (v := nI 0) hΓ dX6_set_0 ic_0 ?_
  refine qa_istore_n hΓ dX6_set_1 (by decide) ?_
  refine qa_iconst (v := nI 0) hΓ dX6_set_2 ic_0 ?_
  refine qa_istore_n hΓ dX6_set_3 (by decide) ?_
  exact loop (M 0 1 + 1) 0 (Nat.zero_le _) (by omega)

set_option maxRecDepth 100000 in
set_option maxHeartbeats 4000000 in
theorem c_X6_closed (l : Launch) (d : Nat) (hd : 1 ≤ d) {n k : Nat} {w : Nat → AC} {M : Bk} (hM : MdAt n w k M) (h8 : M 0 1 ≤ 8) (hb : ∀ r, r < M 0 1 → ∀ x, x < 25 → vv (M 0) r x < 4294967296) : Sq l yX6_closed cX6_closed 4 (some .int) d [aR k] n w (Rs (some (aZ (mk (clB (M 0)) (M 0 1)))) w) := by
  refine Sp.of (plainFor_of_name (by decide)) (Nat.le_of_ble_eq_true rfl) (fun Γ hΓ hR => ?_)
  show Γ 0 [aR k, none, none, none] [] (0, 0) n w
  have loop : ∀ (m i : Nat) (u : AV), i ≤ M 0 1 → M 0 1 < i + m → Γ 4 [aR k, aZ (mk (clB (M 0)) i), aZ i, u] [] (0, 0) n w := by
    intro m
    induction m with
    | zero => intro i u h1 h2; exact absurd h2 (by omega)
    | succ m ih =>
      intro i u hi hm
      refine qa_iload_n hΓ dX6_closed_4 rfl ?_
      refine qa_aload_n hΓ dX6_closed_5 rfl ?_
      refine qa_get hΓ dX6_closed_6 fk_X6_7 hM.lt hM.o rfl ?_
      refine qa_iconst (v := nI 1) hΓ dX6_closed_9 ic_1 ?_
      refine qz_iald hΓ dX6_closed_10 (hM.lti (i := 1) (by decide)) hM.a0 (by omega) (by decide) ?_
      refine qz_icmp_ge (tgt := 80) hΓ dX6_closed_11 (by decide) (by omega) (by omega) (fun h_11 => ?_) (fun h_11 => ?_)
      · refine qa_iload_n hΓ dX6_closed_80 rfl ?_
        exact qr_i hR dX6_closed_81 ⟨by rw [show i = M 0 1 by omega], rfl⟩
      · have hb6 := hb i (by omega) 6 (by decide)
        have hb3 := hb i (by omega) 3 (by decide)
        have hb5 := hb i (by omega) 5 (by decide)
        refine qa_aload_n hΓ dX6_closed_14 rfl ?_
        refine qa_iload_n hΓ dX6_closed_15 rfl ?_
        refine qa_bipush (v := nI 6) hΓ dX6_closed_16 bp_6 ?_
        refine qc_V1 hΓ dX6_closed_18 lk_X6_37 vw_X6_of (by omega) (c_X6_of l (d - 1) hM _ _ (by omega) (by omega)) rfl hM.lt hM.o rfl rfl (Nat.le_of_ble_eq_true rfl) ?_
        refine qa_iconst (v := nI 2) hΓ dX6_closed_21 ic_2 ?_
        refine qz_icmp_eq (tgt := 54) hΓ dX6_closed_22 (by decide) (by omega) (by omega) (fun h_22 => ?_) (fun h_22 => ?_)
        · refine qa_iconst (v := nI 1) hΓ dX6_closed_54 ic_1 ?_
          refine qa_goto (tgt := 59) hΓ dX6_closed_55 (by decide) ?_
          refine qa_istore_n hΓ dX6_closed_59 (by decide) ?_
          refine qa_iload_n hΓ dX6_closed_60 rfl ?_
          refine qa_iload_n hΓ dX6_closed_61 rfl ?_
          refine qz_if_eq (tgt := 71) hΓ dX6_closed_62 (by decide) (by decide) (fun h => absurd h (by decide)) (fun _ => ?_)
          refine qa_iconst (v := nI 1) hΓ dX6_closed_65 ic_1 ?_
          refine qa_iload_n hΓ dX6_closed_66 rfl ?_
          refine qz_ishl hΓ dX6_closed_67 (by omega) ?_
          refine qa_goto (tgt := 72) hΓ dX6_closed_68 (by decide) ?_
          refine qz_ior hΓ dX6_closed_72 ?_
          refine qa_istore_n hΓ dX6_closed_73 (by decide) ?_
          refine qz_iinc hΓ dX6_closed_74 ii_1 rfl (by decide) ?_
          refine qa_goto (tgt := 4) hΓ dX6_closed_77 (by decide) ?_
          have e : mk (clB (M 0)) (i + 1) = mk (clB (M 0)) i ||| (if clB (M 0) i then 1 <<< i else 0) := rfl
          have ec : clB (M 0) i = true := by simp [clB, *]
          rw [ec] at e
          simp only [if_true, Bool.false_eq_true, if_false] at e
          exact e ▸ ih (i + 1) _ (by omega) (by omega)
        · refine qa_aload_n hΓ dX6_closed_25 rfl ?_
          refine qa_iload_n hΓ dX6_closed_26 rfl ?_
          refine qa_bipush (v := nI 6) hΓ dX6_closed_27 bp_6 ?_
          refine qc_V1 hΓ dX6_closed_29 lk_X6_37 vw_X6_of (by omega) (c_X6_of l (d - 1) hM _ _ (by omega) (by omega)) rfl hM.lt hM.o rfl rfl (Nat.le_of_ble_eq_true rfl) ?_
          refine qz_if_ne (tgt := 58) hΓ dX6_closed_32 (by decide) (by omega) (fun h_32 => ?_) (fun h_32 => ?_)
          · refine qa_iconst (v := nI 0) hΓ dX6_closed_58 ic_0 ?_
            refine qa_istore_n hΓ dX6_closed_59 (by decide) ?_
            refine qa_iload_n hΓ dX6_closed_60 rfl ?_
            refine qa_iload_n hΓ dX6_closed_61 rfl ?_
            refine qz_if_eq (tgt := 71) hΓ dX6_closed_62 (by decide) (by decide) (fun _ => ?_) (fun h => absurd h (by decide))
            refine qa_iconst (v := nI 0) hΓ dX6_closed_71 ic_0 ?_
            refine qz_ior hΓ dX6_closed_72 ?_
            refine qa_istore_n hΓ dX6_closed_73 (by decide) ?_
            refine qz_iinc hΓ dX6_closed_74 ii_1 rfl (by decide) ?_
            refine qa_goto (tgt := 4) hΓ dX6_closed_77 (by decide) ?_
            have e : mk (clB (M 0)) (i + 1) = mk (clB (M 0)) i ||| (if clB (M 0) i then 1 <<< i else 0) := rfl
            have ec : clB (M 0) i = false := by simp [clB, *]
            rw [ec] at e
            simp only [if_true, Bool.false_eq_true, if_false] at e
            exact e ▸ ih (i + 1) _ (by omega) (by omega)
          · refine qa_aload_n hΓ dX6_closed_35 rfl ?_
            refine qa_iload_n hΓ dX6_closed_36 rfl ?_
            refine qa_iconst (v := nI 3) hΓ dX6_closed_37 ic_3 ?_
            refine qc_V1 hΓ dX6_closed_38 lk_X6_37 vw_X6_of (by omega) (c_X6_of l (d - 1) hM _ _ (by omega) (by omega)) rfl hM.lt hM.o rfl rfl (Nat.le_of_ble_eq_true rfl) ?_
            refine qa_iconst (v := nI 1) hΓ dX6_closed_41 ic_1 ?_
            refine qz_icmp_ne (tgt := 58) hΓ dX6_closed_42 (by decide) (by omega) (by omega) (fun h_42 => ?_) (fun h_42 => ?_)
            · refine qa_iconst (v := nI 0) hΓ dX6_closed_58 ic_0 ?_
              refine qa_istore_n hΓ dX6_closed_59 (by decide) ?_
              refine qa_iload_n hΓ dX6_closed_60 rfl ?_
              refine qa_iload_n hΓ dX6_closed_61 rfl ?_
              refine qz_if_eq (tgt := 71) hΓ dX6_closed_62 (by decide) (by decide) (fun _ => ?_) (fun h => absurd h (by decide))
              refine qa_iconst (v := nI 0) hΓ dX6_closed_71 ic_0 ?_
              refine qz_ior hΓ dX6_closed_72 ?_
              refine qa_istore_n hΓ dX6_closed_73 (by decide) ?_
              refine qz_iinc hΓ dX6_closed_74 ii_1 rfl (by decide) ?_
              refine qa_goto (tgt := 4) hΓ dX6_closed_77 (by decide) ?_
              have e : mk (clB (M 0)) (i + 1) = mk (clB (M 0)) i ||| (if clB (M 0) i then 1 <<< i else 0) := rfl
              have ec : clB (M 0) i = false := by simp [clB, *]
              rw [ec] at e
              simp only [if_true, Bool.false_eq_true, if_false] at e
              exact e ▸ ih (i + 1) _ (by omega) (by omega)
            · refine qa_aload_n hΓ dX6_closed_45 rfl ?_
              refine qa_iload_n hΓ dX6_closed_46 rfl ?_
              refine qa_iconst (v := nI 5) hΓ dX6_closed_47 ic_5 ?_
              refine qc_V1 hΓ dX6_closed_48 lk_X6_37 vw_X6_of (by omega) (c_X6_of l (d - 1) hM _ _ (by omega) (by omega)) rfl hM.lt hM.o rfl rfl (Nat.le_of_ble_eq_true rfl) ?_
              refine qz_if_ne (tgt := 58) hΓ dX6_closed_51 (by decide) (by omega) (fun h_51 => ?_) (fun h_51 => ?_)
              · refine qa_iconst (v := nI 0) hΓ dX6_closed_58 ic_0 ?_
                refine qa_istore_n hΓ dX6_closed_59 (by decide) ?_
                refine qa_iload_n hΓ dX6_closed_60 rfl ?_
                refine qa_iload_n hΓ dX6_closed_61 rfl ?_
                refine qz_if_eq (tgt := 71) hΓ dX6_closed_62 (by decide) (by decide) (fun _ => ?_) (fun h => absurd h (by decide))
                refine qa_iconst (v := nI 0) hΓ dX6_closed_71 ic_0 ?_
                refine qz_ior hΓ dX6_closed_72 ?_
                refine qa_istore_n hΓ dX6_closed_73 (by decide) ?_
                refine qz_iinc hΓ dX6_closed_74 ii_1 rfl (by decide) ?_
                refine qa_goto (tgt := 4) hΓ dX6_closed_77 (by decide) ?_
                have e : mk (clB (M 0)) (i + 1) = mk (clB (M 0)) i ||| (if clB (M 0) i then 1 <<< i else 0) := rfl
                have ec : clB (M 0) i = false := by simp [clB, *]
                rw [ec] at e
                simp only [if_true, Bool.false_eq_true, if_false] at e
                exact e ▸ ih (i + 1) _ (by omega) (by omega)
              · refine qa_iconst (v := nI 1) hΓ dX6_closed_54 ic_1 ?_
                refine qa_goto (tgt := 59) hΓ dX6_closed_55 (by decide) ?_
                refine qa_istore_n hΓ dX6_closed_59 (by decide) ?_
                refine qa_iload_n hΓ dX6_closed_60 rfl ?_
                refine qa_iload_n hΓ dX6_closed_61 rfl ?_
                refine qz_if_eq (tgt := 71) hΓ dX6_closed_62 (by decide) (by decide) (fun h => absurd h (by decide)) (fun _ => ?_)
                refine qa_iconst (v := nI 1) hΓ dX6_closed_65 ic_1 ?_
                refine qa_iload_n hΓ dX6_closed_66 rfl ?_
                refine qz_ishl hΓ dX6_closed_67 (by omega) ?_
                refine qa_goto (tgt := 72) hΓ dX6_closed_68 (by decide) ?_
                refine qz_ior hΓ dX6_closed_72 ?_
                refine qa_istore_n hΓ dX6_closed_73 (by decide) ?_
                refine qz_iinc hΓ dX6_closed_74 ii_1 rfl (by decide) ?_
                refine qa_goto (tgt := 4) hΓ dX6_closed_77 (by decide) ?_
                have e : mk (clB (M 0)) (i + 1) = mk (clB (M 0)) i ||| (if clB (M 0) i then 1 <<< i else 0) := rfl
                have ec : clB (M 0) i = true := by simp [clB, *]
                rw [ec] at e
                simp only [if_true, Bool.false_eq_true, if_false] at e
                exact e ▸ ih (i + 1) _ (by omega) (by omega)
  refine qa_iconst (v := nI 0) hΓ dX6_closed_0 ic_0 ?_
  refine qa_istore_n hΓ dX6_closed_1 (by decide) ?_
  refine qa_iconst (v := nI 0) hΓ dX6_closed_2 ic_0 ?_
  refine qa_istore_n hΓ dX6_closed_3 (by decide) ?_
  exact loop (M 0 1 + 1) 0 _ (Nat.zero_le _) (by omega)

set_option maxRecDepth 100000 in
set_option maxHeartbeats 4000000 in
theorem c_X6_conducts (l : Launch) (d : Nat) (hd : 1 ≤ d) {n k : Nat} {w : Nat → AC} {M : Bk} (hM : MdAt n w k M) (r on : Nat) (hr : r < 8) (hm6 : vv (M 0) r 12 ≤ 6) (hb : ∀ x, x < 25 → vv (M 0) r x < 4294967296) : Sq l yX6_conducts cX6_conducts 7 (some .boolean) d [aR k, aZ r, aZ on] n w (Rs (some (aZ (cnd (M 0) r on).toNat)) w) := by
  refine Sp.of (plainFor_of_name (by decide)) (Nat.le_of_ble_eq_true rfl) (fun Γ hΓ hR => ?_)
  show Γ 0 [aR k, aZ r, aZ on, none, none, none, none] [] (0, 0) n w
  have loop : ∀ (m i : Nat) (u v : AV), i ≤ vv (M 0) r 12 → vv (M 0) r 12 < i + m → Γ 5 [aR k, aZ r, aZ on, aZ (cdB (M 0) r on i).toNat, aZ i, u, v] [] (0, 0) n w := by
    intro m
    induction m with
    | zero => intro i u v h1 h2; exact absurd h2 (by omega)
    | succ m ih =>
      intro i u v hi hm
      refine qa_iload hΓ dX6_conducts_5 rfl ?_
      have hb12 := hb 12 (by decide)
      refine qa_aload_n hΓ dX6_conducts_7 rfl ?_
      refine qa_iload_n hΓ dX6_conducts_8 rfl ?_
      refine qa_bipush (v := nI 12) hΓ dX6_conducts_9 bp_12 ?_
      refine qc_V1 hΓ dX6_conducts_11 lk_X6_37 vw_X6_of (by omega) (c_X6_of l (d - 1) hM _ _ (by omega) (by omega)) rfl hM.lt hM.o rfl rfl (Nat.le_of_ble_eq_true rfl) ?_
      refine qz_icmp_ge (tgt := 79) hΓ dX6_conducts_14 (by decide) (by omega) (by omega) (fun h_14 => ?_) (fun h_14 => ?_)
      · refine qa_iload_n hΓ dX6_conducts_79 rfl ?_
        exact qr_b hR dX6_conducts_80 ⟨by rw [show i = vv (M 0) r 12 by omega]; rfl, rfl⟩
      · have hbp := hb (13 + 2 * i) (by omega)
        have hbi := hb (13 + 2 * i + 1) (by omega)
        refine qa_aload_n hΓ dX6_conducts_17 rfl ?_
        refine qa_iload_n hΓ dX6_conducts_18 rfl ?_
        refine qa_bipush (v := nI 13) hΓ dX6_conducts_19 bp_13 ?_
        refine qa_iconst (v := nI 2) hΓ dX6_conducts_21 ic_2 ?_
        refine qa_iload hΓ dX6_conducts_22 rfl ?_
        refine qz_imul hΓ dX6_conducts_24 ?_
        refine qz_iadd hΓ dX6_conducts_25 ?_
        refine qc_V1 hΓ dX6_conducts_26 lk_X6_37 vw_X6_of (by omega) (c_X6_of l (d - 1) hM _ _ (by omega) (by omega)) rfl hM.lt hM.o rfl rfl (Nat.le_of_ble_eq_true rfl) ?_
        refine qa_istore hΓ dX6_conducts_29 (by decide) ?_
        refine qa_aload_n hΓ dX6_conducts_31 rfl ?_
        refine qa_iload_n hΓ dX6_conducts_32 rfl ?_
        refine qa_bipush (v := nI 13) hΓ dX6_conducts_33 bp_13 ?_
        refine qa_iconst (v := nI 2) hΓ dX6_conducts_35 ic_2 ?_
        refine qa_iload hΓ dX6_conducts_36 rfl ?_
        refine qz_imul hΓ dX6_conducts_38 ?_
        refine qz_iadd hΓ dX6_conducts_39 ?_
        refine qa_iconst (v := nI 1) hΓ dX6_conducts_40 ic_1 ?_
        refine qz_iadd hΓ dX6_conducts_41 ?_
        refine qc_V1 hΓ dX6_conducts_42 lk_X6_37 vw_X6_of (by omega) (c_X6_of l (d - 1) hM _ _ (by omega) (by omega)) rfl hM.lt hM.o rfl rfl (Nat.le_of_ble_eq_true rfl) ?_
        refine qa_istore hΓ dX6_conducts_45 (by decide) ?_
        refine qa_iload_n hΓ dX6_conducts_47 rfl ?_
        refine qb_if_ne (tgt := 67) hΓ dX6_conducts_48 (by decide) (fun h_48 => ?_) (fun h_48 => ?_)
        · refine qa_iconst (v := nI 1) hΓ dX6_conducts_67 ic_1 ?_
          refine qa_goto (tgt := 72) hΓ dX6_conducts_68 (by decide) ?_
          refine qa_istore_n hΓ dX6_conducts_72 (by decide) ?_
          refine qz_iinc hΓ dX6_conducts_73 ii_1 rfl (by decide) ?_
          refine qa_goto (tgt := 5) hΓ dX6_conducts_76 (by decide) ?_
          have e : cdB (M 0) r on (i + 1) = (cdB (M 0) r on i || brB (M 0) r on i) := rfl
          have ec : cdB (M 0) r on (i + 1) = true := by
            rw [e]
            simp [brB, *]
          have h9 := ih (i + 1) (aZ (vv (M 0) r (13 + 2 * i))) (aZ (vv (M 0) r (13 + 2 * i + 1))) (by omega) (by omega)
          rw [ec] at h9
          exact h9
        · refine qa_iload hΓ dX6_conducts_51 rfl ?_
          refine qa_iload_n hΓ dX6_conducts_53 rfl ?_
          refine qa_iconst (v := (-1)) hΓ dX6_conducts_54 ic_m1 ?_
          refine qa_ixor hΓ dX6_conducts_55 ?_
          refine qa_iand hΓ dX6_conducts_56 ?_
          refine qa_if_ne (tgt := 71) hΓ dX6_conducts_57 (by decide) (fun h_57 => ?_) (fun h_57 => ?_)
          · have h_57 := mt (land_not hbp).mpr h_57
            refine qa_iconst (v := nI 0) hΓ dX6_conducts_71 ic_0 ?_
            refine qa_istore_n hΓ dX6_conducts_72 (by decide) ?_
            refine qz_iinc hΓ dX6_conducts_73 ii_1 rfl (by decide) ?_
            refine qa_goto (tgt := 5) hΓ dX6_conducts_76 (by decide) ?_
            have e : cdB (M 0) r on (i + 1) = (cdB (M 0) r on i || brB (M 0) r on i) := rfl
            have ec : cdB (M 0) r on (i + 1) = false := by
              rw [e]
              simp [brB, *]
            have h9 := ih (i + 1) (aZ (vv (M 0) r (13 + 2 * i))) (aZ (vv (M 0) r (13 + 2 * i + 1))) (by omega) (by omega)
            rw [ec] at h9
            exact h9
          · have h_57 := (land_not hbp).mp h_57
            refine qa_iload hΓ dX6_conducts_60 rfl ?_
            refine qa_iload_n hΓ dX6_conducts_62 rfl ?_
            refine qz_iand hΓ dX6_conducts_63 ?_
            
            refine qz_if_ne (tgt := 71) hΓ dX6_conducts_64 (by decide) (Nat.lt_of_le_of_lt Nat.and_le_left hbi) (fun h_64 => ?_) (fun h_64 => ?_)
            · refine qa_iconst (v := nI 0) hΓ dX6_conducts_71 ic_0 ?_
              refine qa_istore_n hΓ dX6_conducts_72 (by decide) ?_
              refine qz_iinc hΓ dX6_conducts_73 ii_1 rfl (by decide) ?_
              refine qa_goto (tgt := 5) hΓ dX6_conducts_76 (by decide) ?_
              have e : cdB (M 0) r on (i + 1) = (cdB (M 0) r on i || brB (M 0) r on i) := rfl
              have ec : cdB (M 0) r on (i + 1) = false := by
                rw [e]
                simp [brB, *]
              have h9 := ih (i + 1) (aZ (vv (M 0) r (13 + 2 * i))) (aZ (vv (M 0) r (13 + 2 * i + 1))) (by omega) (by omega)
              rw [ec] at h9
              exact h9
            · refine qa_iconst (v := nI 1) hΓ dX6_conducts_67 ic_1 ?_
              refine qa_goto (tgt := 72) hΓ dX6_conducts_68 (by decide) ?_
              refine qa_istore_n hΓ dX6_conducts_72 (by decide) ?_
              refine qz_iinc hΓ dX6_conducts_73 ii_1 rfl (by decide) ?_
              refine qa_goto (tgt := 5) hΓ dX6_conducts_76 (by decide) ?_
              have e : cdB (M 0) r on (i + 1) = (cdB (M 0) r on i || brB (M 0) r on i) := rfl
              have ec : cdB (M 0) r on (i + 1) = true := by
                rw [e]
                simp [brB, *]
              have h9 := ih (i + 1) (aZ (vv (M 0) r (13 + 2 * i))) (aZ (vv (M 0) r (13 + 2 * i + 1))) (by omega) (by omega)
              rw [ec] at h9
              exact h9
  refine qa_iconst (v := nI 0) hΓ dX6_conducts_0 ic_0 ?_
  refine qa_istore_n hΓ dX6_conducts_1 (by decide) ?_
  refine qa_iconst (v := nI 0) hΓ dX6_conducts_2 ic_0 ?_
  refine qa_istore hΓ dX6_conducts_3 (by decide) ?_
  exact loop (vv (M 0) r 12 + 1) 0 _ _ (Nat.zero_le _) (by omega)

