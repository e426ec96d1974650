/-! The model: sets, circuits, coils -/
/-- row 0 is s, the number of changes any, the rest as it was -/
def Mup (M : Bk) (s : Nat → Nat) (M' : Bk) : Prop := M' 0 = s ∧ (∀ a, 1 ≤ a → a ≤ 4 → M' a = M a) ∧ M' 5 0 = M 5 0 ∧ M' 5 1 = M 5 1 ∧ M' 5 3 = M 5 3
def PS (n k : Nat) (M : Bk) (s : Nat → Nat) (w : Nat → AC) : (Nat → AC) → Prop := fun w' => ∃ M', MdAt n w' k M' ∧ Mup M s M' ∧ Fr k 6 w w'
theorem Mup.rf (M : Bk) : Mup M (M 0) M := ⟨rfl, fun _ _ _ => rfl, rfl, rfl, rfl⟩
theorem Mup.tr {M M1 M2 : Bk} {s t : Nat → Nat} (h : Mup M s M1) (g : Mup M1 t M2) : Mup M t M2 := ⟨g.1, fun a h1 h2 => (g.2.1 a h1 h2).trans (h.2.1 a h1 h2), g.2.2.1.trans h.2.2.1, g.2.2.2.1.trans h.2.2.2.1, g.2.2.2.2.trans h.2.2.2.2⟩
theorem Mup.put {M M1 : Bk} {s : Nat → Nat} (h : Mup M s M1) (j y : Nat) : Mup M (upN s j y) (bset M1 0 j y) := by
  refine ⟨by rw [bset_eq, h.1], fun a h1 h2 => by rw [bset_ne _ _ _ (by omega)]; exact h.2.1 a h1 h2, ?_, ?_, ?_⟩
  · rw [bset_ne _ _ _ (by decide)]; exact h.2.2.1
  · rw [bset_ne _ _ _ (by decide)]; exact h.2.2.2.1
  · rw [bset_ne _ _ _ (by decide)]; exact h.2.2.2.2
theorem Mup.three {M M1 : Bk} {t t' : Nat → Nat} (h : Mup M t M1) (a x b y c z : Nat) (e : t' = upN (upN (upN (M1 0) a x) b y) c z) : Mup M t' (bset (bset (bset M1 0 a x) 0 b y) 0 c z) := by
  rw [e, h.1]
  exact ((h.put a x).put b y).put c z
theorem Mup.chg {M M1 : Bk} {s : Nat → Nat} (h : Mup M s M1) (y : Nat) : Mup M s (bset M1 5 2 y) := by
  refine ⟨by rw [bset_ne _ _ _ (by decide)]; exact h.1, fun a h1 h2 => by rw [bset_ne _ _ _ (by omega)]; exact h.2.1 a h1 h2, ?_, ?_, ?_⟩
  · rw [bset_eq, upN_ne _ _ _ (by decide)]; exact h.2.2.1
  · rw [bset_eq, upN_ne _ _ _ (by decide)]; exact h.2.2.2.1
  · rw [bset_eq, upN_ne _ _ _ (by decide)]; exact h.2.2.2.2
theorem land_not {a b : Nat} (ha : a < 4294967296) : nI a &&& (nI b ^^^ (-1)) = 0 ↔ a &&& b = a := by
  have e1 : (nI a &&& (nI b ^^^ (-1))).toBitVec = BitVec.ofNat 32 a &&& ~~~ (BitVec.ofNat 32 b) := by
    rw [Int32.toBitVec_and, Int32.toBitVec_xor, show (-1 : Int32).toBitVec = BitVec.allOnes 32 from rfl, BitVec.xor_allOnes]
    rfl
  constructor
  · intro h
    have h1 : BitVec.ofNat 32 a &&& ~~~ (BitVec.ofNat 32 b) = 0#32 := by rw [← e1, h]; rfl
    apply Nat.eq_of_testBit_eq
    intro i
    rw [Nat.testBit_and]
    rcases Nat.lt_or_ge i 32 with q | q
    · have h2 : (BitVec.ofNat 32 a &&& ~~~ (BitVec.ofNat 32 b)).getLsbD i = false := by rw [h1]; simp
      simp only [BitVec.getLsbD_and, BitVec.getLsbD_not, BitVec.getLsbD_ofNat, q, decide_true, Bool.true_and] at h2
      cases ha2 : a.testBit i <;> simp_all
    · have h3 : a.testBit i = false := Nat.testBit_lt_two_pow (Nat.lt_of_lt_of_le ha (show 4294967296 ≤ 2 ^ i from Nat.pow_le_pow_right (n := 2) (by decide) q))
      rw [h3]; rfl
  · intro h
    apply Int32.toBitVec_inj.mp
    rw [e1]
    apply BitVec.eq_of_getLsbD_eq
    intro i hi
    have h2 : (a &&& b).testBit i = a.testBit i := by rw [h]
    rw [Nat.testBit_and] at h2
    simp only [BitVec.getLsbD_and, BitVec.getLsbD_not, BitVec.getLsbD_ofNat, hi, decide_true, Bool.true_and, BitVec.getLsbD_zero]
    cases ha2 : a.testBit i <;> simp_all
set_option maxRecDepth 100000 in
set_option maxHeartbeats 4000000 in
theorem c_X6_set (l : Launch) (d : Nat) (hd : 1 ≤ d) {n k : Nat} {w : Nat → AC} {M : Bk} (hM : MdAt n w k M) (x : Nat) (hx : x < 25) (h8 : M 0 1 ≤ 8) (hb : ∀ r, r < M 0 1 → vv (M 0) r x < 4294967296) : Sq l yX6_set cX6_set 4 (some .int) d [aR k, aZ x] n w (Rs (some (aZ (mk (stB (M 0) x) (M 0 1)))) w) := by
  refine Sp.of (plainFor_of_name (by decide)) (Nat.le_of_ble_eq_true rfl) (fun Γ hΓ hR => ?_)
  show Γ 0 [aR k, aZ x, none, none] [] (0, 0) n w
  have loop : ∀ (m i : Nat), i ≤ M 0 1 → M 0 1 < i + m → Γ 4 [aR k, aZ x, aZ (mk (stB (M 0) x) i), aZ i] [] (0, 0) n w := by
    intro m
    induction m with
    | zero => intro i h1 h2; exact absurd h2 (by omega)
    | succ m ih =>
      intro i hi hm
      refine qa_iload_n hΓ dX6_set_4 rfl ?_
      refine qa_aload_n hΓ dX6_set_5 rfl ?_
      refine qa_get hΓ dX6_set_6 fk_X6_7 hM.lt hM.o rfl ?_
      refine qa_iconst (v := nI 1) hΓ dX6_set_9 ic_1 ?_
      refine qz_iald hΓ dX6_set_10 (hM.lti (i := 1) (by decide)) hM.a0 (by omega) (by decide) ?_
      refine qz_icmp_ge (tgt := 39) hΓ dX6_set_11 (by decide) (by omega) (by omega) (fun h_11 => ?_) (fun h_11 => ?_)
      · refine qa_iload_n hΓ dX6_set_39 rfl ?_
        exact qr_i hR dX6_set_40 ⟨by rw [show i = M 0 1 by omega], rfl⟩
      · have hbi := hb i (by omega)
        refine qa_iload_n hΓ dX6_set_14 rfl ?_
        refine qa_aload_n hΓ dX6_set_15 rfl ?_
        refine qa_iload_n hΓ dX6_set_16 rfl ?_
        refine qa_iload_n hΓ dX6_set_17 rfl ?_
        refine qc_V1 hΓ dX6_set_18 lk_X6_37 vw_X6_of (by omega) (c_X6_of l (d - 1) hM _ _ (by omega) (by omega)) rfl hM.lt hM.o rfl rfl (Nat.le_of_ble_eq_true rfl) ?_
        refine qz_if_eq (tgt := 30) hΓ dX6_set_21 (by decide) (by omega) (fun h_21 => ?_) (fun h_21 => ?_)
        · refine qa_iconst (v := nI 0) hΓ dX6_set_30 ic_0 ?_
          refine qz_ior hΓ dX6_set_31 ?_
          refine qa_istore_n hΓ dX6_set_32 (by decide) ?_
          refine qz_iinc hΓ dX6_set_33 ii_1 rfl (by decide) ?_
          refine qa_goto (tgt := 4) hΓ dX6_set_36 (by decide) ?_
          have e : mk (stB (M 0) x) (i + 1) = mk (stB (M 0) x) i ||| (if stB (M 0) x i then 1 <<< i else 0) := rfl
          simp only [stB, h_21, ne_eq, not_true_eq_false, not_false_eq_true, decide_true, decide_false, if_true, Bool.false_eq_true, if_false] at e
          first | exact e ▸ ih (i + 1) (by omega) (by omega) | exact ih (i + 1) (by omega) (by omega)
        · refine qa_iconst (v := nI 1) hΓ dX6_set_24 ic_1 ?_
          refine qa_iload_n hΓ dX6_set_25 rfl ?_
          refine qz_ishl hΓ dX6_set_26 (by omega) ?_
          refine qa_goto (tgt := 31) hΓ dX6_set_27 (by decide) ?_
          refine qz_ior hΓ dX6_set_31 ?_
          refine qa_istore_n hΓ dX6_set_32 (by decide) ?_
          refine qz_iinc hΓ dX6_set_33 ii_1 rfl (by decide) ?_
          refine qa_goto (tgt := 4) hΓ dX6_set_36 (by decide) ?_
          have e : mk (stB (M 0) x) (i + 1) = mk (stB (M 0) x) i ||| (if stB (M 0) x i then 1 <<< i else 0) := rfl
          simp only [stB, h_21, ne_eq, not_true_eq_false, not_false_eq_true, decide_true, decide_false, if_true, Bool.false_eq_true, if_false] at e
          first | exact e ▸ ih (i + 1) (by omega) (by omega) | exact ih (i + 1) (by omega) (by omega)
  refine qa_iconst (v := nI 0) hΓ dX6_set_0 ic_0 ?_
  refine qa_istore_n hΓ dX6_set_1 (by decide) ?_
  refine qa_iconst (v := nI 0) hΓ dX6_set_2 ic_0 ?_
  refine qa_istore_n hΓ dX6_set_3 (by decide) ?_
  exact loop (M 0 1 + 1) 0 (Nat.zero_le _) (by omega)

set_option maxRecDepth 100000 in
set_option maxHeartbeats 4000000 in
theorem c_X6_closed (l : Launch) (d : Nat) (hd : 1 ≤ d) {n k : Nat} {w : Nat → AC} {M : Bk} (hM : MdAt n w k M) (h8 : M 0 1 ≤ 8) (hb : ∀ r, r < M 0 1 → ∀ x, x < 25 → vv (M 0) r x < 4294967296) : Sq l yX6_closed cX6_closed 4 (some .int) d [aR k] n w (Rs (some (aZ (mk (clB (M 0)) (M 0 1)))) w) := by
  refine Sp.of (plainFor_of_name (by decide)) (Nat.le_of_ble_eq_true rfl) (fun Γ hΓ hR => ?_)
  show Γ 0 [aR k, none, none, none] [] (0, 0) n w
  have loop : ∀ (m i : Nat) (u : AV), i ≤ M 0 1 → M 0 1 < i + m → Γ 4 [aR k, aZ (mk (clB (M 0)) i), aZ i, u] [] (0, 0) n w := by
    intro m
    induction m with
    | zero => intro i u h1 h2; exact absurd h2 (by omega)
    | succ m ih =>
      intro i u hi hm
      refine qa_iload_n hΓ dX6_closed_4 rfl ?_
      refine qa_aload_n hΓ dX6_closed_5 rfl ?_
      refine qa_get hΓ dX6_closed_6 fk_X6_7 hM.lt hM.o rfl ?_
      refine qa_iconst (v := nI 1) hΓ dX6_closed_9 ic_1 ?_
      refine qz_iald hΓ dX6_closed_10 (hM.lti (i := 1) (by decide)) hM.a0 (by omega) (by decide) ?_
      refine qz_icmp_ge (tgt := 80) hΓ dX6_closed_11 (by decide) (by omega) (by omega) (fun h_11 => ?_) (fun h_11 => ?_)
      · refine qa_iload_n hΓ dX6_closed_80 rfl ?_
        exact qr_i hR dX6_closed_81 ⟨by rw [show i = M 0 1 by omega], rfl⟩
      · have hb6 := hb i (by omega) 6 (by decide)
        have hb3 := hb i (by omega) 3 (by decide)
        have hb5 := hb i (by omega) 5 (by decide)
        refine qa_aload_n hΓ dX6_closed_14 rfl ?_
        refine qa_iload_n hΓ dX6_closed_15 rfl ?_
        refine qa_bipush (v := nI 6) hΓ dX6_closed_16 bp_6 ?_
        refine qc_V1 hΓ dX6_closed_18 lk_X6_37 vw_X6_of (by omega) (c_X6_of l (d - 1) hM _ _ (by omega) (by omega)) rfl hM.lt hM.o rfl rfl (Nat.le_of_ble_eq_true rfl) ?_
        refine qa_iconst (v := nI 2) hΓ dX6_closed_21 ic_2 ?_
        refine qz_icmp_eq (tgt := 54) hΓ dX6_closed_22 (by decide) (by omega) (by omega) (fun h_22 => ?_) (fun h_22 => ?_)
        · refine qa_iconst (v := nI 1) hΓ dX6_closed_54 ic_1 ?_
          refine qa_goto (tgt := 59) hΓ dX6_closed_55 (by decide) ?_
          refine qa_istore_n hΓ dX6_closed_59 (by decide) ?_
          refine qa_iload_n hΓ dX6_closed_60 rfl ?_
          refine qa_iload_n hΓ dX6_closed_61 rfl ?_
          refine qz_if_eq (tgt := 71) hΓ dX6_closed_62 (by decide) (by decide) (fun h => absurd h (by decide)) (fun _ => ?_)
          refine qa_iconst (v := nI 1) hΓ dX6_closed_65 ic_1 ?_
          refine qa_iload_n hΓ dX6_closed_66 rfl ?_
          refine qz_ishl hΓ dX6_closed_67 (by omega) ?_
          refine qa_goto (tgt := 72) hΓ dX6_closed_68 (by decide) ?_
          refine qz_ior hΓ dX6_closed_72 ?_
          refine qa_istore_n hΓ dX6_closed_73 (by decide) ?_
          refine qz_iinc hΓ dX6_closed_74 ii_1 rfl (by decide) ?_
          refine qa_goto (tgt := 4) hΓ dX6_closed_77 (by decide) ?_
          have e : mk (clB (M 0)) (i + 1) = mk (clB (M 0)) i ||| (if clB (M 0) i then 1 <<< i else 0) := rfl
          have ec : clB (M 0) i = true := by simp [clB, *]
          rw [ec] at e
          simp only [if_true, Bool.false_eq_true, if_false] at e
          exact e ▸ ih (i + 1) _ (by omega) (by omega)
        · refine qa_aload_n hΓ dX6_closed_25 rfl ?_
          refine qa_iload_n hΓ dX6_closed_26 rfl ?_
          refine qa_bipush (v := nI 6) hΓ dX6_closed_27 bp_6 ?_
          refine qc_V1 hΓ dX6_closed_29 lk_X6_37 vw_X6_of (by omega) (c_X6_of l (d - 1) hM _ _ (by omega) (by omega)) rfl hM.lt hM.o rfl rfl (Nat.le_of_ble_eq_true rfl) ?_
          refine qz_if_ne (tgt := 58) hΓ dX6_closed_32 (by decide) (by omega) (fun h_32 => ?_) (fun h_32 => ?_)
          · refine qa_iconst (v := nI 0) hΓ dX6_closed_58 ic_0 ?_
            refine qa_istore_n hΓ dX6_closed_59 (by decide) ?_
            refine qa_iload_n hΓ dX6_closed_60 rfl ?_
            refine qa_iload_n hΓ dX6_closed_61 rfl ?_
            refine qz_if_eq (tgt := 71) hΓ dX6_closed_62 (by decide) (by decide) (fun _ => ?_) (fun h => absurd h (by decide))
            refine qa_iconst (v := nI 0) hΓ dX6_closed_71 ic_0 ?_
            refine qz_ior hΓ dX6_closed_72 ?_
            refine qa_istore_n hΓ dX6_closed_73 (by decide) ?_
            refine qz_iinc hΓ dX6_closed_74 ii_1 rfl (by decide) ?_
            refine qa_goto (tgt := 4) hΓ dX6_closed_77 (by decide) ?_
            have e : mk (clB (M 0)) (i + 1) = mk (clB (M 0)) i ||| (if clB (M 0) i then 1 <<< i else 0) := rfl
            have ec : clB (M 0) i = false := by simp [clB, *]
            rw [ec] at e
            simp only [if_true, Bool.false_eq_true, if_false] at e
            exact e ▸ ih (i + 1) _ (by omega) (by omega)
          · refine qa_aload_n hΓ dX6_closed_35 rfl ?_
            refine qa_iload_n hΓ dX6_closed_36 rfl ?_
            refine qa_iconst (v := nI 3) hΓ dX6_closed_37 ic_3 ?_
            refine qc_V1 hΓ dX6_closed_38 lk_X6_37 vw_X6_of (by omega) (c_X6_of l (d - 1) hM _ _ (by omega) (by omega)) rfl hM.lt hM.o rfl rfl (Nat.le_of_ble_eq_true rfl) ?_
            refine qa_iconst (v := nI 1) hΓ dX6_closed_41 ic_1 ?_
            refine qz_icmp_ne (tgt := 58) hΓ dX6_closed_42 (by decide) (by omega) (by omega) (fun h_42 => ?_) (fun h_42 => ?_)
            · refine qa_iconst (v := nI 0) hΓ dX6_closed_58 ic_0 ?_
              refine qa_istore_n hΓ dX6_closed_59 (by decide) ?_
              refine qa_iload_n hΓ dX6_closed_60 rfl ?_
              refine qa_iload_n hΓ dX6_closed_61 rfl ?_
              refine qz_if_eq (tgt := 71) hΓ dX6_closed_62 (by decide) (by decide) (fun _ => ?_) (fun h => absurd h (by decide))
              refine qa_iconst (v := nI 0) hΓ dX6_closed_71 ic_0 ?_
              refine qz_ior hΓ dX6_closed_72 ?_
              refine qa_istore_n hΓ dX6_closed_73 (by decide) ?_
              refine qz_iinc hΓ dX6_closed_74 ii_1 rfl (by decide) ?_
              refine qa_goto (tgt := 4) hΓ dX6_closed_77 (by decide) ?_
              have e : mk (clB (M 0)) (i + 1) = mk (clB (M 0)) i ||| (if clB (M 0) i then 1 <<< i else 0) := rfl
              have ec : clB (M 0) i = false := by simp [clB, *]
              rw [ec] at e
              simp only [if_true, Bool.false_eq_true, if_false] at e
              exact e ▸ ih (i + 1) _ (by omega) (by omega)
            · refine qa_aload_n hΓ dX6_closed_45 rfl ?_
              refine qa_iload_n hΓ dX6_closed_46 rfl ?_
              refine qa_iconst (v := nI 5) hΓ dX6_closed_47 ic_5 ?_
              refine qc_V1 hΓ dX6_closed_48 lk_X6_37 vw_X6_of (by omega) (c_X6_of l (d - 1) hM _ _ (by omega) (by omega)) rfl hM.lt hM.o rfl rfl (Nat.le_of_ble_eq_true rfl) ?_
              refine qz_if_ne (tgt := 58) hΓ dX6_closed_51 (by decide) (by omega) (fun h_51 => ?_) (fun h_51 => ?_)
              · refine qa_iconst (v := nI 0) hΓ dX6_closed_58 ic_0 ?_
                refine qa_istore_n hΓ dX6_closed_59 (by decide) ?_
                refine qa_iload_n hΓ dX6_closed_60 rfl ?_
                refine qa_iload_n hΓ dX6_closed_61 rfl ?_
                refine qz_if_eq (tgt := 71) hΓ dX6_closed_62 (by decide) (by decide) (fun _ => ?_) (fun h => absurd h (by decide))
                refine qa_iconst (v := nI 0) hΓ dX6_closed_71 ic_0 ?_
                refine qz_ior hΓ dX6_closed_72 ?_
                refine qa_istore_n hΓ dX6_closed_73 (by decide) ?_
                refine qz_iinc hΓ dX6_closed_74 ii_1 rfl (by decide) ?_
                refine qa_goto (tgt := 4) hΓ dX6_closed_77 (by decide) ?_
                have e : mk (clB (M 0)) (i + 1) = mk (clB (M 0)) i ||| (if clB (M 0) i then 1 <<< i else 0) := rfl
                have ec : clB (M 0) i = false := by simp [clB, *]
                rw [ec] at e
                simp only [if_true, Bool.false_eq_true, if_false] at e
                exact e ▸ ih (i + 1) _ (by omega) (by omega)
              · refine qa_iconst (v := nI 1) hΓ dX6_closed_54 ic_1 ?_
                refine qa_goto (tgt := 59) hΓ dX6_closed_55 (by decide) ?_
                refine qa_istore_n hΓ dX6_closed_59 (by decide) ?_
                refine qa_iload_n hΓ dX6_closed_60 rfl ?_
                refine qa_iload_n hΓ dX6_closed_61 rfl ?_
                refine qz_if_eq (tgt := 71) hΓ dX6_closed_62 (by decide) (by decide) (fun h => absurd h (by decide)) (fun _ => ?_)
                refine qa_iconst (v := nI 1) hΓ dX6_closed_65 ic_1 ?_
                refine qa_iload_n hΓ dX6_closed_66 rfl ?_
                refine qz_ishl hΓ dX6_closed_67 (by omega) ?_
                refine qa_goto (tgt := 72) hΓ dX6_closed_68 (by decide) ?_
                refine qz_ior hΓ dX6_closed_72 ?_
                refine qa_istore_n hΓ dX6_closed_73 (by decide) ?_
                refine qz_iinc hΓ dX6_closed_74 ii_1 rfl (by decide) ?_
                refine qa_goto (tgt := 4) hΓ dX6_closed_77 (by decide) ?_
                have e : mk (clB (M 0)) (i + 1) = mk (clB (M 0)) i ||| (if clB (M 0) i then 1 <<< i else 0) := rfl
                have ec : clB (M 0) i = true := by simp [clB, *]
                rw [ec] at e
                simp only [if_true, Bool.false_eq_true, if_false] at e
                exact e ▸ ih (i + 1) _ (by omega) (by omega)
  refine qa_iconst (v := nI 0) hΓ dX6_closed_0 ic_0 ?_
  refine qa_istore_n hΓ dX6_closed_1 (by decide) ?_
  refine qa_iconst (v := nI 0) hΓ dX6_closed_2 ic_0 ?_
  refine qa_istore_n hΓ dX6_closed_3 (by decide) ?_
  exact loop (M 0 1 + 1) 0 _ (Nat.zero_le _) (by omega)

set_option maxRecDepth 100000 in
set_option maxHeartbeats 4000000 in
theorem c_X6_conducts (l : Launch) (d : Nat) (hd : 1 ≤ d) {n k : Nat} {w : Nat → AC} {M : Bk} (hM : MdAt n w k M) (r on : Nat) (hr : r < 8) (hm6 : vv (M 0) r 12 ≤ 6) (hb : ∀ x, x < 25 → vv (M 0) r x < 4294967296) : Sq l yX6_conducts cX6_conducts 7 (some .boolean) d [aR k, aZ r, aZ on] n w (Rs (some (aZ (cnd (M 0) r on).toNat)) w) := by
  refine Sp.of (plainFor_of_name (by decide)) (Nat.le_of_ble_eq_true rfl) (fun Γ hΓ hR => ?_)
  show Γ 0 [aR k, aZ r, aZ on, none, none, none, none] [] (0, 0) n w
  have loop : ∀ (m i : Nat) (u v : AV), i ≤ vv (M 0) r 12 → vv (M 0) r 12 < i + m → Γ 5 [aR k, aZ r, aZ on, aZ (cdB (M 0) r on i).toNat, aZ i, u, v] [] (0, 0) n w := by
    intro m
    induction m with
    | zero => intro i u v h1 h2; exact absurd h2 (by omega)
    | succ m ih =>
      intro i u v hi hm
      refine qa_iload hΓ dX6_conducts_5 rfl ?_
      have hb12 := hb 12 (by decide)
      refine qa_aload_n hΓ dX6_conducts_7 rfl ?_
      refine qa_iload_n hΓ dX6_conducts_8 rfl ?_
      refine qa_bipush (v := nI 12) hΓ dX6_conducts_9 bp_12 ?_
      refine qc_V1 hΓ dX6_conducts_11 lk_X6_37 vw_X6_of (by omega) (c_X6_of l (d - 1) hM _ _ (by omega) (by omega)) rfl hM.lt hM.o rfl rfl (Nat.le_of_ble_eq_true rfl) ?_
      refine qz_icmp_ge (tgt := 79) hΓ dX6_conducts_14 (by decide) (by omega) (by omega) (fun h_14 => ?_) (fun h_14 => ?_)
      · refine qa_iload_n hΓ dX6_conducts_79 rfl ?_
        exact qr_b hR dX6_conducts_80 ⟨by rw [show i = vv (M 0) r 12 by omega]; rfl, rfl⟩
      · have hbp := hb (13 + 2 * i) (by omega)
        have hbi := hb (13 + 2 * i + 1) (by omega)
        refine qa_aload_n hΓ dX6_conducts_17 rfl ?_
        refine qa_iload_n hΓ dX6_conducts_18 rfl ?_
        refine qa_bipush (v := nI 13) hΓ dX6_conducts_19 bp_13 ?_
        refine qa_iconst (v := nI 2) hΓ dX6_conducts_21 ic_2 ?_
        refine qa_iload hΓ dX6_conducts_22 rfl ?_
        refine qz_imul hΓ dX6_conducts_24 ?_
        refine qz_iadd hΓ dX6_conducts_25 ?_
        refine qc_V1 hΓ dX6_conducts_26 lk_X6_37 vw_X6_of (by omega) (c_X6_of l (d - 1) hM _ _ (by omega) (by omega)) rfl hM.lt hM.o rfl rfl (Nat.le_of_ble_eq_true rfl) ?_
        refine qa_istore hΓ dX6_conducts_29 (by decide) ?_
        refine qa_aload_n hΓ dX6_conducts_31 rfl ?_
        refine qa_iload_n hΓ dX6_conducts_32 rfl ?_
        refine qa_bipush (v := nI 13) hΓ dX6_conducts_33 bp_13 ?_
        refine qa_iconst (v := nI 2) hΓ dX6_conducts_35 ic_2 ?_
        refine qa_iload hΓ dX6_conducts_36 rfl ?_
        refine qz_imul hΓ dX6_conducts_38 ?_
        refine qz_iadd hΓ dX6_conducts_39 ?_
        refine qa_iconst (v := nI 1) hΓ dX6_conducts_40 ic_1 ?_
        refine qz_iadd hΓ dX6_conducts_41 ?_
        refine qc_V1 hΓ dX6_conducts_42 lk_X6_37 vw_X6_of (by omega) (c_X6_of l (d - 1) hM _ _ (by omega) (by omega)) rfl hM.lt hM.o rfl rfl (Nat.le_of_ble_eq_true rfl) ?_
        refine qa_istore hΓ dX6_conducts_45 (by decide) ?_
        refine qa_iload_n hΓ dX6_conducts_47 rfl ?_
        refine qb_if_ne (tgt := 67) hΓ dX6_conducts_48 (by decide) (fun h_48 => ?_) (fun h_48 => ?_)
        · refine qa_iconst (v := nI 1) hΓ dX6_conducts_67 ic_1 ?_
          refine qa_goto (tgt := 72) hΓ dX6_conducts_68 (by decide) ?_
          refine qa_istore_n hΓ dX6_conducts_72 (by decide) ?_
          refine qz_iinc hΓ dX6_conducts_73 ii_1 rfl (by decide) ?_
          refine qa_goto (tgt := 5) hΓ dX6_conducts_76 (by decide) ?_
          have e : cdB (M 0) r on (i + 1) = (cdB (M 0) r on i || brB (M 0) r on i) := rfl
          have ec : cdB (M 0) r on (i + 1) = true := by
            rw [e]
            simp [brB, *]
          have h9 := ih (i + 1) (aZ (vv (M 0) r (13 + 2 * i))) (aZ (vv (M 0) r (13 + 2 * i + 1))) (by omega) (by omega)
          rw [ec] at h9
          exact h9
        · refine qa_iload hΓ dX6_conducts_51 rfl ?_
          refine qa_iload_n hΓ dX6_conducts_53 rfl ?_
          refine qa_iconst (v := (-1)) hΓ dX6_conducts_54 ic_m1 ?_
          refine qa_ixor hΓ dX6_conducts_55 ?_
          refine qa_iand hΓ dX6_conducts_56 ?_
          refine qa_if_ne (tgt := 71) hΓ dX6_conducts_57 (by decide) (fun h_57 => ?_) (fun h_57 => ?_)
          · have h_57 := mt (land_not hbp).mpr h_57
            refine qa_iconst (v := nI 0) hΓ dX6_conducts_71 ic_0 ?_
            refine qa_istore_n hΓ dX6_conducts_72 (by decide) ?_
            refine qz_iinc hΓ dX6_conducts_73 ii_1 rfl (by decide) ?_
            refine qa_goto (tgt := 5) hΓ dX6_conducts_76 (by decide) ?_
            have e : cdB (M 0) r on (i + 1) = (cdB (M 0) r on i || brB (M 0) r on i) := rfl
            have ec : cdB (M 0) r on (i + 1) = false := by
              rw [e]
              simp [brB, *]
            have h9 := ih (i + 1) (aZ (vv (M 0) r (13 + 2 * i))) (aZ (vv (M 0) r (13 + 2 * i + 1))) (by omega) (by omega)
            rw [ec] at h9
            exact h9
          · have h_57 := (land_not hbp).mp h_57
            refine qa_iload hΓ dX6_conducts_60 rfl ?_
            refine qa_iload_n hΓ dX6_conducts_62 rfl ?_
            refine qz_iand hΓ dX6_conducts_63 ?_
            
            refine qz_if_ne (tgt := 71) hΓ dX6_conducts_64 (by decide) (Nat.lt_of_le_of_lt Nat.and_le_left hbi) (fun h_64 => ?_) (fun h_64 => ?_)
            · refine qa_iconst (v := nI 0) hΓ dX6_conducts_71 ic_0 ?_
              refine qa_istore_n hΓ dX6_conducts_72 (by decide) ?_
              refine qz_iinc hΓ dX6_conducts_73 ii_1 rfl (by decide) ?_
              refine qa_goto (tgt := 5) hΓ dX6_conducts_76 (by decide) ?_
              have e : cdB (M 0) r on (i + 1) = (cdB (M 0) r on i || brB (M 0) r on i) := rfl
              have ec : cdB (M 0) r on (i + 1) = false := by
                rw [e]
                simp [brB, *]
              have h9 := ih (i + 1) (aZ (vv (M 0) r (13 + 2 * i))) (aZ (vv (M 0) r (13 + 2 * i + 1))) (by omega) (by omega)
              rw [ec] at h9
              exact h9
            · refine qa_iconst (v := nI 1) hΓ dX6_conducts_67 ic_1 ?_
              refine qa_goto (tgt := 72) hΓ dX6_conducts_68 (by decide) ?_
              refine qa_istore_n hΓ dX6_conducts_72 (by decide) ?_
              refine qz_iinc hΓ dX6_conducts_73 ii_1 rfl (by decide) ?_
              refine qa_goto (tgt := 5) hΓ dX6_conducts_76 (by decide) ?_
              have e : cdB (M 0) r on (i + 1) = (cdB (M 0) r on i || brB (M 0) r on i) := rfl
              have ec : cdB (M 0) r on (i + 1) = true := by
                rw [e]
                simp [brB, *]
              have h9 := ih (i + 1) (aZ (vv (M 0) r (13 + 2 * i))) (aZ (vv (M 0) r (13 + 2 * i + 1))) (by omega) (by omega)
              rw [ec] at h9
              exact h9
  refine qa_iconst (v := nI 0) hΓ dX6_conducts_0 ic_0 ?_
  refine qa_istore_n hΓ dX6_conducts_1 (by decide) ?_
  refine qa_iconst (v := nI 0) hΓ dX6_conducts_2 ic_0 ?_
  refine qa_istore hΓ dX6_conducts_3 (by decide) ?_
  exact loop (vv (M 0) r 12 + 1) 0 _ _ (Nat.zero_le _) (by omega)

theorem c_X6_ofE (l : Launch) (d : Nat) {n k : Nat} {w : Nat → AC} {M : Bk} (hM : MdAt n w k M) (r x : Nat) (hr : r < 8) (hx : x < 25) {y : Nat} (e : vv (M 0) r x = y) : Sq l yX6_of cX6_of 3 (some .int) d [aR k, aZ r, aZ x] n w (Rs (some (aZ y)) w) := by
  subst e
  exact c_X6_of l d hM r x hr hx
theorem bdF_le (B x : Nat) : bdF B x ≤ B + 65535 := by
  unfold bdF
  repeat' split
  all_goals omega
set_option maxRecDepth 100000 in
set_option maxHeartbeats 4000000 in
theorem c_X6_looks (l : Launch) (d : Nat) (hd : 2 ≤ d) {n k : Nat} {w : Nat → AC} {M : Bk} (hM : MdAt n w k M) {B : Nat} (hW : Wt (M 0) B) (hB : B < 2000000000) : Sq l yX6_looks cX6_looks 6 (some .int) d [aR k] n w (Qv (aZ (lks (M 0)).1) (PS n k M (lks (M 0)).2 w)) := by
  refine Sp.of (plainFor_of_name (by decide)) (Nat.le_of_ble_eq_true rfl) (fun Γ hΓ hR => ?_)
  show Γ 0 [aR k, none, none, none, none, none] [] (0, 0) n w
  have h8 : M 0 1 ≤ 8 := hW.2.1
  have hon : onS (M 0) < 65536 := on_lt hW
  have loop : ∀ (m i : Nat) (w1 : Nat → AC) (M1 : Bk) (u v : AV), i ≤ M 0 1 → M 0 1 < i + m → MdAt n w1 k M1 → Mup M (lk (onS (M 0)) (M 0) i).2 M1 → Fr k 6 w w1 → Γ 19 [aR k, aZ (onS (M 0)), aZ (lk (onS (M 0)) (M 0) i).1, aZ i, u, v] [] (0, 0) n w1 := by
    intro m
    induction m with
    | zero => intro i w1 M1 u v h1 h2; exact absurd h2 (by omega)
    | succ m ih =>
      intro i w M1 u v hi hm hM hU hF0
      have e1 : M1 0 1 = M 0 1 := by rw [hU.1]; exact lk_hd _ _ (by decide) i
      have e2 : M1 0 2 = M 0 2 := by rw [hU.1]; exact lk_hd _ _ (by decide) i
      refine qa_iload_n hΓ dX6_looks_19 rfl ?_
      refine qa_aload_n hΓ dX6_looks_20 rfl ?_
      refine qa_get hΓ dX6_looks_21 fk_X6_7 hM.lt hM.o rfl ?_
      refine qa_iconst (v := nI 1) hΓ dX6_looks_24 ic_1 ?_
      refine qz_iald hΓ dX6_looks_25 (hM.lti (i := 1) (by decide)) hM.a0 (by omega) (by decide) ?_
      refine qz_icmp_ge (tgt := 180) hΓ dX6_looks_26 (by decide) (by omega) (by omega) (fun h_26 => ?_) (fun h_26 => ?_)
      · refine qa_iload_n hΓ dX6_looks_180 rfl ?_
        exact qr_i hR dX6_looks_181 ⟨by rw [show i = M 0 1 by omega]; rfl, M1, hM, by rw [show i = M 0 1 by omega] at hU; exact hU, hF0⟩
      · have hb : ∀ x, x < 25 → vv (M1 0) i x ≤ B + 65555 := fun x hx => by
          rw [hU.1, lk_ge _ _ hx i (Nat.le_refl i)]
          have h1 := hW.b (show i < M 0 1 by omega) hx
          omega
        have hb12 : vv (M1 0) i 12 ≤ 6 := by
          rw [hU.1, lk_ge _ _ (by decide) i (Nat.le_refl i)]
          have h1 := hW.2.2.2 i (by omega) 12 (by decide)
          simpa [bdF] using h1
        have hb3 := hb 3 (by decide)
        have hb4 := hb 4 (by decide)
        have hb8 := hb 8 (by decide)
        refine qa_aload_n hΓ dX6_looks_29 rfl ?_
        refine qa_iload_n hΓ dX6_looks_30 rfl ?_
        refine qa_iload_n hΓ dX6_looks_31 rfl ?_
        refine qc_V1 hΓ dX6_looks_32 lk_X6_45 vw_X6_conducts (by omega) (c_X6_conducts l (d - 1) (by omega) hM i (onS (M 0)) (by omega) (by omega) (fun x hx => by have := hb x hx; omega)) rfl hM.lt hM.o rfl rfl (Nat.le_of_ble_eq_true rfl) ?_
        refine qb_if_eq (tgt := 42) hΓ dX6_looks_35 (by decide) (fun h_35 => ?_) (fun h_35 => ?_)
        · refine qa_iconst (v := nI 0) hΓ dX6_looks_42 ic_0 ?_
          refine qa_istore hΓ dX6_looks_43 (by decide) ?_
          refine qa_iload hΓ dX6_looks_45 rfl ?_
          refine qa_aload_n hΓ dX6_looks_47 rfl ?_
          refine qa_iload_n hΓ dX6_looks_48 rfl ?_
          refine qa_iconst (v := nI 4) hΓ dX6_looks_49 ic_4 ?_
          refine qc_V1 hΓ dX6_looks_50 lk_X6_37 vw_X6_of (by omega) (c_X6_of l (d - 1) hM _ _ (by omega) (by omega)) rfl hM.lt hM.o rfl rfl (Nat.le_of_ble_eq_true rfl) ?_
          refine qz_icmp_eq (tgt := 174) hΓ dX6_looks_53 (by decide) (by omega) (by omega) (fun h_53 => ?_) (fun h_53 => ?_)
          · refine qz_iinc hΓ dX6_looks_174 ii_1 rfl (by decide) ?_
            refine qa_goto (tgt := 19) hΓ dX6_looks_177 (by decide) ?_
            have e : lk (onS (M 0)) (M 0) (i + 1) = lk (onS (M 0)) (M 0) i := by
              show (if _ then _ else _) = _
              rw [← hU.1, h_35]
              exact if_pos h_53
            have h9 := ih (i + 1) w M1 (aZ 0) v (by omega) (by omega) hM (by rw [e]; exact hU) hF0
            rw [e] at h9
            exact h9
          · refine qz_iinc hΓ dX6_looks_56 ii_1 rfl (by decide) ?_
            refine qa_aload_n hΓ dX6_looks_59 rfl ?_
            refine qa_iload_n hΓ dX6_looks_60 rfl ?_
            refine qa_iconst (v := nI 4) hΓ dX6_looks_61 ic_4 ?_
            refine qa_iload hΓ dX6_looks_62 rfl ?_
            refine qc_V0q hΓ dX6_looks_64 lk_X6_49 vw_X6_puts (by omega) (c_X6_puts l (d - 1) hM _ _ _ (by omega) (by omega)) rfl hM.lt hM.o rfl rfl (Nat.le_of_ble_eq_true rfl) (fun w hq => ?_)
            obtain ⟨hM, hF⟩ := hq
            have hF0 := hF0.tr hF
            refine qa_aload_n hΓ dX6_looks_67 rfl ?_
            refine qa_iload_n hΓ dX6_looks_68 rfl ?_
            refine qa_iconst (v := nI 3) hΓ dX6_looks_69 ic_3 ?_
            refine qc_V1 hΓ dX6_looks_70 lk_X6_37 vw_X6_of (by omega) (c_X6_ofE l (d - 1) hM i 3 (by omega) (by decide) (y := vv (M1 0) i 3) (by simp [sset, bset_eq, vv_up])) rfl hM.lt hM.o rfl rfl (Nat.le_of_ble_eq_true rfl) ?_
            refine qa_iload hΓ dX6_looks_73 rfl ?_
            refine qz_icmp_eq (tgt := 82) hΓ dX6_looks_75 (by decide) (by omega) (by omega) (fun h_75 => ?_) (fun h_75 => ?_)
            · refine qa_iconst (v := nI 0) hΓ dX6_looks_82 ic_0 ?_
              refine qa_istore hΓ dX6_looks_83 (by decide) ?_
              refine qa_aload_n hΓ dX6_looks_85 rfl ?_
              refine qa_iload_n hΓ dX6_looks_86 rfl ?_
              refine qa_bipush (v := nI 8) hΓ dX6_looks_87 bp_8 ?_
              refine qa_iload hΓ dX6_looks_89 rfl ?_
              refine qz_if_eq (tgt := 101) hΓ dX6_looks_91 (by decide) (by decide) (fun _ => ?_) (fun h => absurd h (by decide))
              refine qa_aload_n hΓ dX6_looks_101 rfl ?_
              refine qa_iload_n hΓ dX6_looks_102 rfl ?_
              refine qa_bipush (v := nI 8) hΓ dX6_looks_103 bp_8 ?_
              refine qc_V1 hΓ dX6_looks_105 lk_X6_37 vw_X6_of (by omega) (c_X6_ofE l (d - 1) hM i 8 (by omega) (by decide) (y := vv (M1 0) i 8) (by simp [sset, bset_eq, vv_up])) rfl hM.lt hM.o rfl rfl (Nat.le_of_ble_eq_true rfl) ?_
              refine qa_iconst (v := nI 1) hΓ dX6_looks_108 ic_1 ?_
              refine qa_iload hΓ dX6_looks_109 rfl ?_
              refine qz_iadd hΓ dX6_looks_111 ?_
              refine qz_icmp_ne (tgt := 119) hΓ dX6_looks_112 (by decide) (by omega) (by omega) (fun h_112 => ?_) (fun h_112 => ?_)
              · refine qa_aload_n hΓ dX6_looks_119 rfl ?_
                refine qa_iload_n hΓ dX6_looks_120 rfl ?_
                refine qa_bipush (v := nI 8) hΓ dX6_looks_121 bp_8 ?_
                refine qc_V1 hΓ dX6_looks_123 lk_X6_37 vw_X6_of (by omega) (c_X6_ofE l (d - 1) hM i 8 (by omega) (by decide) (y := vv (M1 0) i 8) (by simp [sset, bset_eq, vv_up])) rfl hM.lt hM.o rfl rfl (Nat.le_of_ble_eq_true rfl) ?_
                refine qc_V0q hΓ dX6_looks_126 lk_X6_49 vw_X6_puts (by omega) (c_X6_puts l (d - 1) hM _ _ _ (by omega) (by omega)) rfl hM.lt hM.o rfl rfl (Nat.le_of_ble_eq_true rfl) (fun w hq => ?_)
                obtain ⟨hM, hF⟩ := hq
                have hF0 := hF0.tr hF
                refine qa_aload_n hΓ dX6_looks_129 rfl ?_
                refine qa_iload_n hΓ dX6_looks_130 rfl ?_
                refine qa_bipush (v := nI 9) hΓ dX6_looks_131 bp_9 ?_
                refine qa_iload hΓ dX6_looks_133 rfl ?_
                refine qz_if_eq (tgt := 164) hΓ dX6_looks_135 (by decide) (by decide) (fun _ => ?_) (fun h => absurd h (by decide))
                refine qa_aload_n hΓ dX6_looks_164 rfl ?_
                refine qa_iload_n hΓ dX6_looks_165 rfl ?_
                refine qa_bipush (v := nI 9) hΓ dX6_looks_166 bp_9 ?_
                refine qc_V1 hΓ dX6_looks_168 lk_X6_37 vw_X6_of (by omega) (c_X6_ofE l (d - 1) hM i 9 (by omega) (by decide) (y := vv (M1 0) i 9) (by simp [sset, bset_eq, vv_up])) rfl hM.lt hM.o rfl rfl (Nat.le_of_ble_eq_true rfl) ?_
                refine qc_V0q hΓ dX6_looks_171 lk_X6_49 vw_X6_puts (by omega) (c_X6_puts l (d - 1) hM _ _ _ (by omega) (by omega)) rfl hM.lt hM.o rfl rfl (Nat.le_of_ble_eq_true rfl) (fun w hq => ?_)
                obtain ⟨hM, hF⟩ := hq
                have hF0 := hF0.tr hF
                refine qz_iinc hΓ dX6_looks_174 ii_1 rfl (by decide) ?_
                refine qa_goto (tgt := 19) hΓ dX6_looks_177 (by decide) ?_
                have e : lk (onS (M 0)) (M 0) (i + 1) = ((lk (onS (M 0)) (M 0) i).1 + 1, lkT 0 (M1 0) i) := by
                  show (if _ then _ else _) = _
                  rw [← hU.1, h_35]
                  exact if_neg h_53
                have h9 := ih (i + 1) w _ (aZ 0) (aZ 0) (by omega) (by omega) hM (by
                  rw [e]
                  refine hU.three _ _ _ _ _ _ ?_
                  simp [lkT, sset, bset_eq, vv_up, upN, *]) hF0
                rw [e] at h9
                exact h9
              · refine qa_iconst (v := nI 0) hΓ dX6_looks_115 ic_0 ?_
                refine qa_goto (tgt := 126) hΓ dX6_looks_116 (by decide) ?_
                refine qc_V0q hΓ dX6_looks_126 lk_X6_49 vw_X6_puts (by omega) (c_X6_puts l (d - 1) hM _ _ _ (by omega) (by omega)) rfl hM.lt hM.o rfl rfl (Nat.le_of_ble_eq_true rfl) (fun w hq => ?_)
                obtain ⟨hM, hF⟩ := hq
                have hF0 := hF0.tr hF
                refine qa_aload_n hΓ dX6_looks_129 rfl ?_
                refine qa_iload_n hΓ dX6_looks_130 rfl ?_
                refine qa_bipush (v := nI 9) hΓ dX6_looks_131 bp_9 ?_
                refine qa_iload hΓ dX6_looks_133 rfl ?_
                refine qz_if_eq (tgt := 164) hΓ dX6_looks_135 (by decide) (by decide) (fun _ => ?_) (fun h => absurd h (by decide))
                refine qa_aload_n hΓ dX6_looks_164 rfl ?_
                refine qa_iload_n hΓ dX6_looks_165 rfl ?_
                refine qa_bipush (v := nI 9) hΓ dX6_looks_166 bp_9 ?_
                refine qc_V1 hΓ dX6_looks_168 lk_X6_37 vw_X6_of (by omega) (c_X6_ofE l (d - 1) hM i 9 (by omega) (by decide) (y := vv (M1 0) i 9) (by simp [sset, bset_eq, vv_up])) rfl hM.lt hM.o rfl rfl (Nat.le_of_ble_eq_true rfl) ?_
                refine qc_V0q hΓ dX6_looks_171 lk_X6_49 vw_X6_puts (by omega) (c_X6_puts l (d - 1) hM _ _ _ (by omega) (by omega)) rfl hM.lt hM.o rfl rfl (Nat.le_of_ble_eq_true rfl) (fun w hq => ?_)
                obtain ⟨hM, hF⟩ := hq
                have hF0 := hF0.tr hF
                refine qz_iinc hΓ dX6_looks_174 ii_1 rfl (by decide) ?_
                refine qa_goto (tgt := 19) hΓ dX6_looks_177 (by decide) ?_
                have e : lk (onS (M 0)) (M 0) (i + 1) = ((lk (onS (M 0)) (M 0) i).1 + 1, lkT 0 (M1 0) i) := by
                  show (if _ then _ else _) = _
                  rw [← hU.1, h_35]
                  exact if_neg h_53
                have h9 := ih (i + 1) w _ (aZ 0) (aZ 0) (by omega) (by omega) hM (by
                  rw [e]
                  refine hU.three _ _ _ _ _ _ ?_
                  simp [lkT, sset, bset_eq, vv_up, upN, *]) hF0
                rw [e] at h9
                exact h9
            · refine qa_iconst (v := nI 1) hΓ dX6_looks_78 ic_1 ?_
              refine qa_goto (tgt := 83) hΓ dX6_looks_79 (by decide) ?_
              refine qa_istore hΓ dX6_looks_83 (by decide) ?_
              refine qa_aload_n hΓ dX6_looks_85 rfl ?_
              refine qa_iload_n hΓ dX6_looks_86 rfl ?_
              refine qa_bipush (v := nI 8) hΓ dX6_looks_87 bp_8 ?_
              refine qa_iload hΓ dX6_looks_89 rfl ?_
              refine qz_if_eq (tgt := 101) hΓ dX6_looks_91 (by decide) (by decide) (fun h => absurd h (by decide)) (fun _ => ?_)
              refine qa_iconst (v := nI 2) hΓ dX6_looks_94 ic_2 ?_
              refine qa_iload hΓ dX6_looks_95 rfl ?_
              refine qz_isub hΓ dX6_looks_97 (by omega) ?_
              refine qa_goto (tgt := 126) hΓ dX6_looks_98 (by decide) ?_
              refine qc_V0q hΓ dX6_looks_126 lk_X6_49 vw_X6_puts (by omega) (c_X6_puts l (d - 1) hM _ _ _ (by omega) (by omega)) rfl hM.lt hM.o rfl rfl (Nat.le_of_ble_eq_true rfl) (fun w hq => ?_)
              obtain ⟨hM, hF⟩ := hq
              have hF0 := hF0.tr hF
              refine qa_aload_n hΓ dX6_looks_129 rfl ?_
              refine qa_iload_n hΓ dX6_looks_130 rfl ?_
              refine qa_bipush (v := nI 9) hΓ dX6_looks_131 bp_9 ?_
              refine qa_iload hΓ dX6_looks_133 rfl ?_
              refine qz_if_eq (tgt := 164) hΓ dX6_looks_135 (by decide) (by decide) (fun h => absurd h (by decide)) (fun _ => ?_)
              refine qa_aload_n hΓ dX6_looks_138 rfl ?_
              refine qa_get hΓ dX6_looks_139 fk_X6_7 hM.lt hM.o rfl ?_
              refine qa_iconst (v := nI 2) hΓ dX6_looks_142 ic_2 ?_
              refine qz_iald hΓ dX6_looks_143 (hM.lti (i := 1) (by decide)) hM.a0 (by omega) (by decide) ?_
              refine qa_aload_n hΓ dX6_looks_144 rfl ?_
              refine qa_iload_n hΓ dX6_looks_145 rfl ?_
              refine qa_iload hΓ dX6_looks_146 rfl ?_
              refine qa_iconst (v := nI 1) hΓ dX6_looks_148 ic_1 ?_
              refine qz_icmp_ne (tgt := 156) hΓ dX6_looks_149 (by decide) (by decide) (by decide) (fun _ => ?_) (fun h => absurd h (by decide))
              refine qa_iconst (v := nI 1) hΓ dX6_looks_156 ic_1 ?_
              refine qc_V1 hΓ dX6_looks_157 lk_X6_37 vw_X6_of (by omega) (c_X6_ofE l (d - 1) hM i 1 (by omega) (by decide) (y := vv (M1 0) i 1) (by simp [sset, bset_eq, vv_up])) rfl hM.lt hM.o rfl rfl (Nat.le_of_ble_eq_true rfl) ?_
              refine qz_iadd hΓ dX6_looks_160 ?_
              refine qa_goto (tgt := 171) hΓ dX6_looks_161 (by decide) ?_
              refine qc_V0q hΓ dX6_looks_171 lk_X6_49 vw_X6_puts (by omega) (c_X6_puts l (d - 1) hM _ _ _ (by omega) (by omega)) rfl hM.lt hM.o rfl rfl (Nat.le_of_ble_eq_true rfl) (fun w hq => ?_)
              obtain ⟨hM, hF⟩ := hq
              have hF0 := hF0.tr hF
              refine qz_iinc hΓ dX6_looks_174 ii_1 rfl (by decide) ?_
              refine qa_goto (tgt := 19) hΓ dX6_looks_177 (by decide) ?_
              have e : lk (onS (M 0)) (M 0) (i + 1) = ((lk (onS (M 0)) (M 0) i).1 + 1, lkT 0 (M1 0) i) := by
                show (if _ then _ else _) = _
                rw [← hU.1, h_35]
                exact if_neg h_53
              have h9 := ih (i + 1) w _ (aZ 0) (aZ 1) (by omega) (by omega) hM (by
                rw [e]
                refine hU.three _ _ _ _ _ _ ?_
                simp [lkT, sset, bset_eq, vv_up, upN, *]) hF0
              rw [e] at h9
              exact h9
        · refine qa_iconst (v := nI 1) hΓ dX6_looks_38 ic_1 ?_
          refine qa_goto (tgt := 43) hΓ dX6_looks_39 (by decide) ?_
          refine qa_istore hΓ dX6_looks_43 (by decide) ?_
          refine qa_iload hΓ dX6_looks_45 rfl ?_
          refine qa_aload_n hΓ dX6_looks_47 rfl ?_
          refine qa_iload_n hΓ dX6_looks_48 rfl ?_
          refine qa_iconst (v := nI 4) hΓ dX6_looks_49 ic_4 ?_
          refine qc_V1 hΓ dX6_looks_50 lk_X6_37 vw_X6_of (by omega) (c_X6_of l (d - 1) hM _ _ (by omega) (by omega)) rfl hM.lt hM.o rfl rfl (Nat.le_of_ble_eq_true rfl) ?_
          refine qz_icmp_eq (tgt := 174) hΓ dX6_looks_53 (by decide) (by omega) (by omega) (fun h_53 => ?_) (fun h_53 => ?_)
          · refine qz_iinc hΓ dX6_looks_174 ii_1 rfl (by decide) ?_
            refine qa_goto (tgt := 19) hΓ dX6_looks_177 (by decide) ?_
            have e : lk (onS (M 0)) (M 0) (i + 1) = lk (onS (M 0)) (M 0) i := by
              show (if _ then _ else _) = _
              rw [← hU.1, h_35]
              exact if_pos h_53
            have h9 := ih (i + 1) w M1 (aZ 1) v (by omega) (by omega) hM (by rw [e]; exact hU) hF0
            rw [e] at h9
            exact h9
          · refine qz_iinc hΓ dX6_looks_56 ii_1 rfl (by decide) ?_
            refine qa_aload_n hΓ dX6_looks_59 rfl ?_
            refine qa_iload_n hΓ dX6_looks_60 rfl ?_
            refine qa_iconst (v := nI 4) hΓ dX6_looks_61 ic_4 ?_
            refine qa_iload hΓ dX6_looks_62 rfl ?_
            refine qc_V0q hΓ dX6_looks_64 lk_X6_49 vw_X6_puts (by omega) (c_X6_puts l (d - 1) hM _ _ _ (by omega) (by omega)) rfl hM.lt hM.o rfl rfl (Nat.le_of_ble_eq_true rfl) (fun w hq => ?_)
            obtain ⟨hM, hF⟩ := hq
            have hF0 := hF0.tr hF
            refine qa_aload_n hΓ dX6_looks_67 rfl ?_
            refine qa_iload_n hΓ dX6_looks_68 rfl ?_
            refine qa_iconst (v := nI 3) hΓ dX6_looks_69 ic_3 ?_
            refine qc_V1 hΓ dX6_looks_70 lk_X6_37 vw_X6_of (by omega) (c_X6_ofE l (d - 1) hM i 3 (by omega) (by decide) (y := vv (M1 0) i 3) (by simp [sset, bset_eq, vv_up])) rfl hM.lt hM.o rfl rfl (Nat.le_of_ble_eq_true rfl) ?_
            refine qa_iload hΓ dX6_looks_73 rfl ?_
            refine qz_icmp_eq (tgt := 82) hΓ dX6_looks_75 (by decide) (by omega) (by omega) (fun h_75 => ?_) (fun h_75 => ?_)
            · refine qa_iconst (v := nI 0) hΓ dX6_looks_82 ic_0 ?_
              refine qa_istore hΓ dX6_looks_83 (by decide) ?_
              refine qa_aload_n hΓ dX6_looks_85 rfl ?_
              refine qa_iload_n hΓ dX6_looks_86 rfl ?_
              refine qa_bipush (v := nI 8) hΓ dX6_looks_87 bp_8 ?_
              refine qa_iload hΓ dX6_looks_89 rfl ?_
              refine qz_if_eq (tgt := 101) hΓ dX6_looks_91 (by decide) (by decide) (fun _ => ?_) (fun h => absurd h (by decide))
              refine qa_aload_n hΓ dX6_looks_101 rfl ?_
              refine qa_iload_n hΓ dX6_looks_102 rfl ?_
              refine qa_bipush (v := nI 8) hΓ dX6_looks_103 bp_8 ?_
              refine qc_V1 hΓ dX6_looks_105 lk_X6_37 vw_X6_of (by omega) (c_X6_ofE l (d - 1) hM i 8 (by omega) (by decide) (y := vv (M1 0) i 8) (by simp [sset, bset_eq, vv_up])) rfl hM.lt hM.o rfl rfl (Nat.le_of_ble_eq_true rfl) ?_
              refine qa_iconst (v := nI 1) hΓ dX6_looks_108 ic_1 ?_
              refine qa_iload hΓ dX6_looks_109 rfl ?_
              refine qz_iadd hΓ dX6_looks_111 ?_
              refine qz_icmp_ne (tgt := 119) hΓ dX6_looks_112 (by decide) (by omega) (by omega) (fun h_112 => ?_) (fun h_112 => ?_)
              · refine qa_aload_n hΓ dX6_looks_119 rfl ?_
                refine qa_iload_n hΓ dX6_looks_120 rfl ?_
                refine qa_bipush (v := nI 8) hΓ dX6_looks_121 bp_8 ?_
                refine qc_V1 hΓ dX6_looks_123 lk_X6_37 vw_X6_of (by omega) (c_X6_ofE l (d - 1) hM i 8 (by omega) (by decide) (y := vv (M1 0) i 8) (by simp [sset, bset_eq, vv_up])) rfl hM.lt hM.o rfl rfl (Nat.le_of_ble_eq_true rfl) ?_
                refine qc_V0q hΓ dX6_looks_126 lk_X6_49 vw_X6_puts (by omega) (c_X6_puts l (d - 1) hM _ _ _ (by omega) (by omega)) rfl hM.lt hM.o rfl rfl (Nat.le_of_ble_eq_true rfl) (fun w hq => ?_)
                obtain ⟨hM, hF⟩ := hq
                have hF0 := hF0.tr hF
                refine qa_aload_n hΓ dX6_looks_129 rfl ?_
                refine qa_iload_n hΓ dX6_looks_130 rfl ?_
                refine qa_bipush (v := nI 9) hΓ dX6_looks_131 bp_9 ?_
                refine qa_iload hΓ dX6_looks_133 rfl ?_
                refine qz_if_eq (tgt := 164) hΓ dX6_looks_135 (by decide) (by decide) (fun _ => ?_) (fun h => absurd h (by decide))
                refine qa_aload_n hΓ dX6_looks_164 rfl ?_
                refine qa_iload_n hΓ dX6_looks_165 rfl ?_
                refine qa_bipush (v := nI 9) hΓ dX6_looks_166 bp_9 ?_
                refine qc_V1 hΓ dX6_looks_168 lk_X6_37 vw_X6_of (by omega) (c_X6_ofE l (d - 1) hM i 9 (by omega) (by decide) (y := vv (M1 0) i 9) (by simp [sset, bset_eq, vv_up])) rfl hM.lt hM.o rfl rfl (Nat.le_of_ble_eq_true rfl) ?_
                refine qc_V0q hΓ dX6_looks_171 lk_X6_49 vw_X6_puts (by omega) (c_X6_puts l (d - 1) hM _ _ _ (by omega) (by omega)) rfl hM.lt hM.o rfl rfl (Nat.le_of_ble_eq_true rfl) (fun w hq => ?_)
                obtain ⟨hM, hF⟩ := hq
                have hF0 := hF0.tr hF
                refine qz_iinc hΓ dX6_looks_174 ii_1 rfl (by decide) ?_
                refine qa_goto (tgt := 19) hΓ dX6_looks_177 (by decide) ?_
                have e : lk (onS (M 0)) (M 0) (i + 1) = ((lk (onS (M 0)) (M 0) i).1 + 1, lkT 1 (M1 0) i) := by
                  show (if _ then _ else _) = _
                  rw [← hU.1, h_35]
                  exact if_neg h_53
                have h9 := ih (i + 1) w _ (aZ 1) (aZ 0) (by omega) (by omega) hM (by
                  rw [e]
                  refine hU.three _ _ _ _ _ _ ?_
                  simp [lkT, sset, bset_eq, vv_up, upN, *]) hF0
                rw [e] at h9
                exact h9
              · refine qa_iconst (v := nI 0) hΓ dX6_looks_115 ic_0 ?_
                refine qa_goto (tgt := 126) hΓ dX6_looks_116 (by decide) ?_
                refine qc_V0q hΓ dX6_looks_126 lk_X6_49 vw_X6_puts (by omega) (c_X6_puts l (d - 1) hM _ _ _ (by omega) (by omega)) rfl hM.lt hM.o rfl rfl (Nat.le_of_ble_eq_true rfl) (fun w hq => ?_)
                obtain ⟨hM, hF⟩ := hq
                have hF0 := hF0.tr hF
                refine qa_aload_n hΓ dX6_looks_129 rfl ?_
                refine qa_iload_n hΓ dX6_looks_130 rfl ?_
                refine qa_bipush (v := nI 9) hΓ dX6_looks_131 bp_9 ?_
                refine qa_iload hΓ dX6_looks_133 rfl ?_
                refine qz_if_eq (tgt := 164) hΓ dX6_looks_135 (by decide) (by decide) (fun _ => ?_) (fun h => absurd h (by decide))
                refine qa_aload_n hΓ dX6_looks_164 rfl ?_
                refine qa_iload_n hΓ dX6_looks_165 rfl ?_
                refine qa_bipush (v := nI 9) hΓ dX6_looks_166 bp_9 ?_
                refine qc_V1 hΓ dX6_looks_168 lk_X6_37 vw_X6_of (by omega) (c_X6_ofE l (d - 1) hM i 9 (by omega) (by decide) (y := vv (M1 0) i 9) (by simp [sset, bset_eq, vv_up])) rfl hM.lt hM.o rfl rfl (Nat.le_of_ble_eq_true rfl) ?_
                refine qc_V0q hΓ dX6_looks_171 lk_X6_49 vw_X6_puts (by omega) (c_X6_puts l (d - 1) hM _ _ _ (by omega) (by omega)) rfl hM.lt hM.o rfl rfl (Nat.le_of_ble_eq_true rfl) (fun w hq => ?_)
                obtain ⟨hM, hF⟩ := hq
                have hF0 := hF0.tr hF
                refine qz_iinc hΓ dX6_looks_174 ii_1 rfl (by decide) ?_
                refine qa_goto (tgt := 19) hΓ dX6_looks_177 (by decide) ?_
                have e : lk (onS (M 0)) (M 0) (i + 1) = ((lk (onS (M 0)) (M 0) i).1 + 1, lkT 1 (M1 0) i) := by
                  show (if _ then _ else _) = _
                  rw [← hU.1, h_35]
                  exact if_neg h_53
                have h9 := ih (i + 1) w _ (aZ 1) (aZ 0) (by omega) (by omega) hM (by
                  rw [e]
                  refine hU.three _ _ _ _ _ _ ?_
                  simp [lkT, sset, bset_eq, vv_up, upN, *]) hF0
                rw [e] at h9
                exact h9
            · refine qa_iconst (v := nI 1) hΓ dX6_looks_78 ic_1 ?_
              refine qa_goto (tgt := 83) hΓ dX6_looks_79 (by decide) ?_
              refine qa_istore hΓ dX6_looks_83 (by decide) ?_
              refine qa_aload_n hΓ dX6_looks_85 rfl ?_
              refine qa_iload_n hΓ dX6_looks_86 rfl ?_
              refine qa_bipush (v := nI 8) hΓ dX6_looks_87 bp_8 ?_
              refine qa_iload hΓ dX6_looks_89 rfl ?_
              refine qz_if_eq (tgt := 101) hΓ dX6_looks_91 (by decide) (by decide) (fun h => absurd h (by decide)) (fun _ => ?_)
              refine qa_iconst (v := nI 2) hΓ dX6_looks_94 ic_2 ?_
              refine qa_iload hΓ dX6_looks_95 rfl ?_
              refine qz_isub hΓ dX6_looks_97 (by omega) ?_
              refine qa_goto (tgt := 126) hΓ dX6_looks_98 (by decide) ?_
              refine qc_V0q hΓ dX6_looks_126 lk_X6_49 vw_X6_puts (by omega) (c_X6_puts l (d - 1) hM _ _ _ (by omega) (by omega)) rfl hM.lt hM.o rfl rfl (Nat.le_of_ble_eq_true rfl) (fun w hq => ?_)
              obtain ⟨hM, hF⟩ := hq
              have hF0 := hF0.tr hF
              refine qa_aload_n hΓ dX6_looks_129 rfl ?_
              refine qa_iload_n hΓ dX6_looks_130 rfl ?_
              refine qa_bipush (v := nI 9) hΓ dX6_looks_131 bp_9 ?_
              refine qa_iload hΓ dX6_looks_133 rfl ?_
              refine qz_if_eq (tgt := 164) hΓ dX6_looks_135 (by decide) (by decide) (fun h => absurd h (by decide)) (fun _ => ?_)
              refine qa_aload_n hΓ dX6_looks_138 rfl ?_
              refine qa_get hΓ dX6_looks_139 fk_X6_7 hM.lt hM.o rfl ?_
              refine qa_iconst (v := nI 2) hΓ dX6_looks_142 ic_2 ?_
              refine qz_iald hΓ dX6_looks_143 (hM.lti (i := 1) (by decide)) hM.a0 (by omega) (by decide) ?_
              refine qa_aload_n hΓ dX6_looks_144 rfl ?_
              refine qa_iload_n hΓ dX6_looks_145 rfl ?_
              refine qa_iload hΓ dX6_looks_146 rfl ?_
              refine qa_iconst (v := nI 1) hΓ dX6_looks_148 ic_1 ?_
              refine qz_icmp_ne (tgt := 156) hΓ dX6_looks_149 (by decide) (by decide) (by decide) (fun h => absurd h (by decide)) (fun _ => ?_)
              refine qa_iconst (v := nI 0) hΓ dX6_looks_152 ic_0 ?_
              refine qa_goto (tgt := 157) hΓ dX6_looks_153 (by decide) ?_
              refine qc_V1 hΓ dX6_looks_157 lk_X6_37 vw_X6_of (by omega) (c_X6_ofE l (d - 1) hM i 0 (by omega) (by decide) (y := vv (M1 0) i 0) (by simp [sset, bset_eq, vv_up])) rfl hM.lt hM.o rfl rfl (Nat.le_of_ble_eq_true rfl) ?_
              refine qz_iadd hΓ dX6_looks_160 ?_
              refine qa_goto (tgt := 171) hΓ dX6_looks_161 (by decide) ?_
              refine qc_V0q hΓ dX6_looks_171 lk_X6_49 vw_X6_puts (by omega) (c_X6_puts l (d - 1) hM _ _ _ (by omega) (by omega)) rfl hM.lt hM.o rfl rfl (Nat.le_of_ble_eq_true rfl) (fun w hq => ?_)
              obtain ⟨hM, hF⟩ := hq
              have hF0 := hF0.tr hF
              refine qz_iinc hΓ dX6_looks_174 ii_1 rfl (by decide) ?_
              refine qa_goto (tgt := 19) hΓ dX6_looks_177 (by decide) ?_
              have e : lk (onS (M 0)) (M 0) (i + 1) = ((lk (onS (M 0)) (M 0) i).1 + 1, lkT 1 (M1 0) i) := by
                show (if _ then _ else _) = _
                rw [← hU.1, h_35]
                exact if_neg h_53
              have h9 := ih (i + 1) w _ (aZ 1) (aZ 1) (by omega) (by omega) hM (by
                rw [e]
                refine hU.three _ _ _ _ _ _ ?_
                simp [lkT, sset, bset_eq, vv_up, upN, *]) hF0
              rw [e] at h9
              exact h9
  refine qa_aload_n hΓ dX6_looks_0 rfl ?_
  refine qa_get hΓ dX6_looks_1 fk_X6_7 hM.lt hM.o rfl ?_
  refine qa_iconst (v := nI 0) hΓ dX6_looks_4 ic_0 ?_
  refine qz_iald hΓ dX6_looks_5 (hM.lti (i := 1) (by decide)) hM.a0 (by omega) (by decide) ?_
  refine qa_aload_n hΓ dX6_looks_6 rfl ?_
  refine qc_V1 hΓ dX6_looks_7 lk_X6_41 vw_X6_closed (by omega) (c_X6_closed l (d - 1) (by omega) hM hW.2.1 (fun r hr x hx => by have := hW.b hr hx; omega)) rfl hM.lt hM.o rfl rfl (Nat.le_of_ble_eq_true rfl) ?_
  refine qa_bipush (v := nI 8) hΓ dX6_looks_10 bp_8 ?_
  refine qz_ishl hΓ dX6_looks_12 (by omega) ?_
  refine qz_ior hΓ dX6_looks_13 ?_
  refine qa_istore_n hΓ dX6_looks_14 (by decide) ?_
  refine qa_iconst (v := nI 0) hΓ dX6_looks_15 ic_0 ?_
  refine qa_istore_n hΓ dX6_looks_16 (by decide) ?_
  refine qa_iconst (v := nI 0) hΓ dX6_looks_17 ic_0 ?_
  refine qa_istore_n hΓ dX6_looks_18 (by decide) ?_
  exact loop (M 0 1 + 1) 0 w M _ _ (Nat.zero_le _) (by omega) hM (Mup.rf M) Fr.rf

