/-! The class: branches, and what a bank tells -/
def bitV (x how : Nat) : Nat := if how = 1 then 1 <<< x else if how = 2 then 1 <<< (16 + x) else 0
theorem lo_bit (g i : Nat) : (g % 65536).testBit i = (decide (i < 16) && g.testBit i) := Nat.testBit_mod_two_pow g 16 i
theorem hi_bit (g i : Nat) : (g / 65536).testBit i = g.testBit (16 + i) := by
  rw [show g / 65536 = g / 2 ^ 16 from rfl, Nat.testBit_div_two_pow, Nat.add_comm]
theorem and1_bit (g x : Nat) : g &&& 1 <<< x = 0 ↔ g.testBit x = false := by
  constructor
  · intro h
    have h1 : (g &&& 1 <<< x).testBit x = false := by rw [h]; exact Nat.zero_testBit x
    rw [Nat.testBit_and, sh1_bit] at h1
    simpa using h1
  · intro h
    apply Nat.eq_of_testBit_eq
    intro i
    rw [Nat.testBit_and, sh1_bit, Nat.zero_testBit]
    by_cases e : i = x
    · subst e; rw [h]; rfl
    · simp [e]
theorem and1_t {g x : Nat} (h : ¬ (g &&& 1 <<< x = 0)) : g.testBit x = true := by
  cases q : g.testBit x with
  | true => rfl
  | false => exact absurd ((and1_bit g x).mpr q) h
theorem lo_t (g : Nat) {x : Nat} (hx : x < 16) : (g % 65536).testBit x = g.testBit x := by
  rw [lo_bit, decide_eq_true hx, Bool.true_and]
theorem wi_int {g x how : Nat} (hg : g < 4294967296) (hx : x < 16) : nI g &&& (nI (1 <<< x ||| 1 <<< (16 + x)) ^^^ (-1)) ||| nI (bitV x how) = nI (wi g x how) := by
  apply Int32.toBitVec_inj.mp
  rw [Int32.toBitVec_or, Int32.toBitVec_and, Int32.toBitVec_xor, show (-1 : Int32).toBitVec = BitVec.allOnes 32 from rfl, BitVec.xor_allOnes]
  apply BitVec.eq_of_getLsbD_eq
  intro i hi
  show ((BitVec.ofNat 32 g &&& ~~~ (BitVec.ofNat 32 (1 <<< x ||| 1 <<< (16 + x)))) ||| BitVec.ofNat 32 (bitV x how)).getLsbD i = (BitVec.ofNat 32 (wi g x how)).getLsbD i
  simp only [BitVec.getLsbD_or, BitVec.getLsbD_and, BitVec.getLsbD_not, BitVec.getLsbD_ofNat, hi, decide_true, Bool.true_and, Nat.testBit_or, sh1_bit]
  have hlo : g % 65536 < 65536 := Nat.mod_lt _ (by decide)
  have hhi : g / 65536 < 65536 := by omega
  have h1 : (if how = 1 then clr (g % 65536) x ||| 1 <<< x else clr (g % 65536) x) < 65536 := by
    split
    · exact or_lt16 (clr_lt hlo) hx
    · exact clr_lt hlo
  unfold wi
  rw [cmb_bit h1]
  by_cases h : i < 16
  · rw [if_pos h]
    by_cases e1 : how = 1
    · rw [if_pos e1]
      unfold bitV
      rw [if_pos e1, Nat.testBit_or, clr_bit hlo, lo_bit, sh1_bit]
      by_cases e : i = x
      · simp [e]
      · simp [e, h]; intros; omega
    · rw [if_neg e1]
      unfold bitV
      rw [if_neg e1, clr_bit hlo, lo_bit]
      by_cases e2 : how = 2
      · rw [if_pos e2, sh1_bit]
        have : i ≠ 16 + x := by omega
        by_cases e : i = x <;> simp [e, this, h]
        all_goals omega
      · rw [if_neg e2, Nat.zero_testBit]
        have : i ≠ 16 + x := by omega
        by_cases e : i = x <;> simp [e, this, h]
        all_goals omega
  · rw [if_neg h]
    have hne : i ≠ x := by omega
    have hi16 : 16 + (i - 16) = i := by omega
    by_cases e2 : how = 2
    · rw [if_pos e2]
      unfold bitV
      rw [if_neg (by omega), if_pos e2, Nat.testBit_or, clr_bit hhi, hi_bit, sh1_bit, sh1_bit, hi16]
      by_cases e : i = 16 + x
      · have : i - 16 = x := by omega
        simp [e]
      · have : i - 16 ≠ x := by omega
        simp [e, hne, this]
    · rw [if_neg e2]
      unfold bitV
      rw [clr_bit hhi, hi_bit, hi16]
      have hz : (if how = 1 then 1 <<< x else if how = 2 then 1 <<< (16 + x) else 0).testBit i = false := by
        by_cases e1 : how = 1
        · rw [if_pos e1, sh1_bit]; exact decide_eq_false hne
        · rw [if_neg e1, if_neg e2]; exact Nat.zero_testBit i
      rw [hz]
      by_cases e : i = 16 + x
      · have : i - 16 = x := by omega
        simp [e]
      · have : i - 16 ≠ x := by omega
        simp [e, hne, this]
set_option maxRecDepth 100000 in
set_option maxHeartbeats 4000000 in
theorem c_X1_bit (l : Launch) (d : Nat) {n : Nat} {w : Nat → AC} (x how : Nat) (hx : x < 16) (hh : how < 3) : Sq l yX1_bit cX1_bit 2 (some .int) d [aZ x, aZ how] n w (Rs (some (aZ (bitV x how))) w) := by
  refine Sp.of (plainFor_of_name (by decide)) (Nat.le_of_ble_eq_true rfl) (fun Γ hΓ hR => ?_)
  show Γ 0 [aZ x, aZ how] [] (0, 0) n w
  rcases (show how = 0 ∨ how = 1 ∨ how = 2 by omega) with rfl | rfl | rfl
  · refine qa_iload_n hΓ dX1_bit_0 rfl ?_
    refine qa_lookup (tgt := 39) (off := 38) hΓ dX1_bit_1 (by decide) (by decide) (by decide) ?_
    refine qa_iconst (v := nI 0) hΓ dX1_bit_39 ic_0 ?_
    exact qr_i hR dX1_bit_40 ⟨by unfold bitV; simp, rfl⟩
  · refine qa_iload_n hΓ dX1_bit_0 rfl ?_
    refine qa_lookup (tgt := 28) (off := 27) hΓ dX1_bit_1 (by decide) (by decide) (by decide) ?_
    refine qa_iconst (v := nI 1) hΓ dX1_bit_28 ic_1 ?_
    refine qa_iload_n hΓ dX1_bit_29 rfl ?_
    refine qz_ishl hΓ dX1_bit_30 (by omega) ?_
    exact qr_i hR dX1_bit_31 ⟨by unfold bitV; simp, rfl⟩
  · refine qa_iload_n hΓ dX1_bit_0 rfl ?_
    refine qa_lookup (tgt := 32) (off := 31) hΓ dX1_bit_1 (by decide) (by decide) (by decide) ?_
    refine qa_iconst (v := nI 1) hΓ dX1_bit_32 ic_1 ?_
    refine qa_bipush (v := nI 16) hΓ dX1_bit_33 bp_16 ?_
    refine qa_iload_n hΓ dX1_bit_35 rfl ?_
    refine qz_iadd hΓ dX1_bit_36 ?_
    refine qz_ishl hΓ dX1_bit_37 (by omega) ?_
    exact qr_i hR dX1_bit_38 ⟨by unfold bitV; simp, rfl⟩

set_option maxRecDepth 100000 in
set_option maxHeartbeats 4000000 in
theorem c_X1_howOf (l : Launch) (d : Nat) (hd : 1 ≤ d) {n : Nat} {w : Nat → AC} (g x : Nat) (hg : g < 4294967296) (hx : x < 16) : Sq l yX1_howOf cX1_howOf 2 (some .int) d [aZ g, aZ x] n w (Rs (some (aZ (howO g x))) w) := by
  refine Sp.of (plainFor_of_name (by decide)) (Nat.le_of_ble_eq_true rfl) (fun Γ hΓ hR => ?_)
  show Γ 0 [aZ g, aZ x] [] (0, 0) n w
  refine qa_iload_n hΓ dX1_howOf_0 rfl ?_
  refine qa_iload_n hΓ dX1_howOf_1 rfl ?_
  refine qa_iconst (v := nI 1) hΓ dX1_howOf_2 ic_1 ?_
  refine qc_S1 hΓ dX1_howOf_3 lk_X1_9 vw_X1_bit (by omega) (c_X1_bit l (d - 1) x 1 hx (by omega)) rfl rfl (Nat.le_of_ble_eq_true rfl) ?_
  rw [show bitV x 1 = 1 <<< x from rfl]
  refine qz_iand hΓ dX1_howOf_6 ?_
  have hlt : g &&& 1 <<< x < 4294967296 := Nat.lt_of_le_of_lt Nat.and_le_left hg
  refine qz_if_eq (tgt := 12) hΓ dX1_howOf_7 (by decide) (by omega) (fun h_7 => ?_) (fun h_7 => ?_)
  · refine qa_iload_n hΓ dX1_howOf_12 rfl ?_
    refine qa_iload_n hΓ dX1_howOf_13 rfl ?_
    refine qa_iconst (v := nI 2) hΓ dX1_howOf_14 ic_2 ?_
    refine qc_S1 hΓ dX1_howOf_15 lk_X1_9 vw_X1_bit (by omega) (c_X1_bit l (d - 1) x 2 hx (by omega)) rfl rfl (Nat.le_of_ble_eq_true rfl) ?_
    rw [show bitV x 2 = 1 <<< (16 + x) from rfl]
    refine qz_iand hΓ dX1_howOf_18 ?_
    have hlt2 : g &&& 1 <<< (16 + x) < 4294967296 := Nat.lt_of_le_of_lt Nat.and_le_left hg
    refine qz_if_eq (tgt := 26) hΓ dX1_howOf_19 (by decide) (by omega) (fun h_19 => ?_) (fun h_19 => ?_)
    · refine qa_iconst (v := nI 0) hΓ dX1_howOf_26 ic_0 ?_
      exact qr_i hR dX1_howOf_27 ⟨by unfold howO; rw [if_neg (by rw [lo_t g hx, (and1_bit g x).mp h_7]; exact Bool.false_ne_true), if_neg (by rw [hi_bit, (and1_bit g (16 + x)).mp h_19]; exact Bool.false_ne_true)], rfl⟩
    · refine qa_iconst (v := nI 2) hΓ dX1_howOf_22 ic_2 ?_
      refine qa_goto (tgt := 27) hΓ dX1_howOf_23 (by decide) ?_
      exact qr_i hR dX1_howOf_27 ⟨by unfold howO; rw [if_neg (by rw [lo_t g hx, (and1_bit g x).mp h_7]; exact Bool.false_ne_true), if_pos ((hi_bit g x).trans (and1_t h_19))], rfl⟩
  · refine qa_iconst (v := nI 1) hΓ dX1_howOf_10 ic_1 ?_
    exact qr_i hR dX1_howOf_11 ⟨by unfold howO; rw [if_pos ((lo_t g hx).trans (and1_t h_7))], rfl⟩

set_option maxRecDepth 100000 in
set_option maxHeartbeats 4000000 in
theorem c_X1_with (l : Launch) (d : Nat) (hd : 1 ≤ d) {n : Nat} {w : Nat → AC} (g x how : Nat) (hg : g < 4294967296) (hx : x < 16) (hh : how < 3) : Sq l yX1_with cX1_with 4 (some .int) d [aZ g, aZ x, aZ how] n w (Rs (some (aZ (wi g x how))) w) := by
  refine Sp.of (plainFor_of_name (by decide)) (Nat.le_of_ble_eq_true rfl) (fun Γ hΓ hR => ?_)
  show Γ 0 [aZ g, aZ x, aZ how, none] [] (0, 0) n w
  refine qa_iload_n hΓ dX1_with_0 rfl ?_
  refine qa_iload_n hΓ dX1_with_1 rfl ?_
  refine qa_iconst (v := nI 1) hΓ dX1_with_2 ic_1 ?_
  refine qc_S1 hΓ dX1_with_3 lk_X1_9 vw_X1_bit (by omega) (c_X1_bit l (d - 1) x 1 hx (by omega)) rfl rfl (Nat.le_of_ble_eq_true rfl) ?_
  rw [show bitV x 1 = 1 <<< x from rfl]
  refine qa_iload_n hΓ dX1_with_6 rfl ?_
  refine qa_iconst (v := nI 2) hΓ dX1_with_7 ic_2 ?_
  refine qc_S1 hΓ dX1_with_8 lk_X1_9 vw_X1_bit (by omega) (c_X1_bit l (d - 1) x 2 hx (by omega)) rfl rfl (Nat.le_of_ble_eq_true rfl) ?_
  rw [show bitV x 2 = 1 <<< (16 + x) from rfl]
  refine qz_ior hΓ dX1_with_11 ?_
  refine qa_iconst (v := -1) hΓ dX1_with_12 ic_m1 ?_
  refine qa_ixor hΓ dX1_with_13 ?_
  refine qa_iand hΓ dX1_with_14 ?_
  refine qa_istore_n hΓ dX1_with_15 (by decide) ?_
  refine qa_iload_n hΓ dX1_with_16 rfl ?_
  refine qa_iload_n hΓ dX1_with_17 rfl ?_
  refine qa_iload_n hΓ dX1_with_18 rfl ?_
  refine qc_S1 hΓ dX1_with_19 lk_X1_9 vw_X1_bit (by omega) (c_X1_bit l (d - 1) x how hx (by omega)) rfl rfl (Nat.le_of_ble_eq_true rfl) ?_
  refine qa_ior hΓ dX1_with_22 ?_
  exact qr_i hR dX1_with_23 ⟨by rw [wi_int hg hx], rfl⟩

set_option maxRecDepth 100000 in
set_option maxHeartbeats 4000000 in
theorem c_X0_has (l : Launch) (d : Nat) (hd : 1 ≤ d) {n kb : Nat} {w : Nat → AC} {b : Bk} (hB : BkAt n w kb b) (v : Int32) : Sq l yX0_has cX0_has 2 (some .boolean) d [aR kb, aI v] n w (Rs (some (aZ (decide (isR (b 6 0) v)).toNat)) w) := by
  refine Sp.of (plainFor_of_name (by decide)) (Nat.le_of_ble_eq_true rfl) (fun Γ hΓ hR => ?_)
  show Γ 0 [aR kb, aI v] [] (0, 0) n w
  refine qa_iload_n hΓ dX0_has_0 rfl ?_
  refine qa_iconst (v := nI 0) hΓ dX0_has_1 ic_0 ?_
  refine qa_aload_n hΓ dX0_has_2 rfl ?_
  refine qa_get hΓ dX0_has_3 fk_X0_37 hB.lt hB.o rfl ?_
  refine qa_iconst (v := nI 1) hΓ dX0_has_6 ic_1 ?_
  refine qa_isub hΓ dX0_has_7 ?_
  refine qc_N1 hΓ dX0_has_8 nk_X0_65 vw_X5_isWithin (by omega) (c_X5_isWithin l (d - 1) _ _ _) rfl rfl (Nat.le_of_ble_eq_true rfl) ?_
  exact qr_b hR dX0_has_11 ⟨rfl, rfl⟩

set_option maxRecDepth 100000 in
set_option maxHeartbeats 4000000 in
theorem c_X0_branchesOf (l : Launch) (d : Nat) (hd : 1 ≤ d) {n kb : Nat} {w : Nat → AC} {b : Bk} (hB : BkAt n w kb b) (r : Nat) (hr : r < 8) : Sq l yX0_branchesOf cX0_branchesOf 2 (some .int) d [aR kb, aZ r] n w (Rs (some (aZ (b 3 r))) w) := by
  refine Sp.of (plainFor_of_name (by decide)) (Nat.le_of_ble_eq_true rfl) (fun Γ hΓ hR => ?_)
  show Γ 0 [aR kb, aZ r] [] (0, 0) n w
  refine qa_aload_n hΓ dX0_branchesOf_0 rfl ?_
  refine qa_get hΓ dX0_branchesOf_1 fk_X0_21 hB.lt hB.o rfl ?_
  refine qa_iload_n hΓ dX0_branchesOf_4 rfl ?_
  refine qc_N1 hΓ dX0_branchesOf_5 nk_X0_73 vw_X5_at (by omega) (c_X5_at l (d - 1) (hB.lti (i := 4) (by decide)) hB.a3 _ (by omega) (by decide)) rfl rfl (Nat.le_of_ble_eq_true rfl) ?_
  exact qr_i hR dX0_branchesOf_8 ⟨rfl, rfl⟩

set_option maxRecDepth 100000 in
set_option maxHeartbeats 4000000 in
theorem c_X0_branchAt (l : Launch) (d : Nat) (hd : 1 ≤ d) {n kb : Nat} {w : Nat → AC} {b : Bk} (hB : BkAt n w kb b) (r j : Nat) (hr : r < 8) (hj : j < 6) : Sq l yX0_branchAt cX0_branchAt 3 (some .int) d [aR kb, aZ r, aZ j] n w (Rs (some (aZ (b 4 (r * 6 + j)))) w) := by
  refine Sp.of (plainFor_of_name (by decide)) (Nat.le_of_ble_eq_true rfl) (fun Γ hΓ hR => ?_)
  show Γ 0 [aR kb, aZ r, aZ j] [] (0, 0) n w
  refine qa_aload_n hΓ dX0_branchAt_0 rfl ?_
  refine qa_get hΓ dX0_branchAt_1 fk_X0_24 hB.lt hB.o rfl ?_
  refine qa_iload_n hΓ dX0_branchAt_4 rfl ?_
  refine qa_bipush (v := nI 6) hΓ dX0_branchAt_5 bp_6 ?_
  refine qz_imul hΓ dX0_branchAt_7 ?_
  refine qa_iload_n hΓ dX0_branchAt_8 rfl ?_
  refine qz_iadd hΓ dX0_branchAt_9 ?_
  refine qc_N1 hΓ dX0_branchAt_10 nk_X0_73 vw_X5_at (by omega) (c_X5_at l (d - 1) (hB.lti (i := 5) (by decide)) hB.a4 _ (by omega) (by decide)) rfl rfl (Nat.le_of_ble_eq_true rfl) ?_
  exact qr_i hR dX0_branchAt_13 ⟨rfl, rfl⟩

set_option maxRecDepth 100000 in
set_option maxHeartbeats 4000000 in
theorem c_X0_putBranch (l : Launch) (d : Nat) (hd : 1 ≤ d) {n kb : Nat} {w : Nat → AC} {b : Bk} (hB : BkAt n w kb b) (r j x : Nat) (hr : r < 8) (hj : j < 6) : Sq l yX0_putBranch cX0_putBranch 4 none d [aR kb, aZ r, aZ j, aZ x] n w (Qn (PB n kb (bset b 4 (r * 6 + j) x) w)) := by
  refine Sp.of (plainFor_of_name (by decide)) (Nat.le_of_ble_eq_true rfl) (fun Γ hΓ hR => ?_)
  show Γ 0 [aR kb, aZ r, aZ j, aZ x] [] (0, 0) n w
  refine qa_aload_n hΓ dX0_putBranch_0 rfl ?_
  refine qa_get hΓ dX0_putBranch_1 fk_X0_24 hB.lt hB.o rfl ?_
  refine qa_iload_n hΓ dX0_putBranch_4 rfl ?_
  refine qa_bipush (v := nI 6) hΓ dX0_putBranch_5 bp_6 ?_
  refine qz_imul hΓ dX0_putBranch_7 ?_
  refine qa_iload_n hΓ dX0_putBranch_8 rfl ?_
  refine qz_iadd hΓ dX0_putBranch_9 ?_
  refine qa_iload_n hΓ dX0_putBranch_10 rfl ?_
  refine qc_N0q hΓ dX0_putBranch_11 nk_X0_77 vw_X5_put (by omega) (c_X5_putB l (d - 1) hB 4 (r * 6 + j) x (by decide) (by show _ < 48; omega)) rfl rfl (Nat.le_of_ble_eq_true rfl) (fun w hq => ?_)
  obtain ⟨hB, hF⟩ := hq
  exact qr_v hR dX0_putBranch_14 ⟨rfl, hB, hF⟩

set_option maxRecDepth 100000 in
set_option maxHeartbeats 4000000 in
theorem c_X0_faultOf (l : Launch) (d : Nat) (hd : 1 ≤ d) {n kb : Nat} {w : Nat → AC} {b : Bk} (hB : BkAt n w kb b) {s : Nat → Nat} (hR0 : RepC s b) {B : Nat} (hW : Wt s B) (hBd : B < 900000000) (r : Nat) (hr : r < s 1) : Sq l yX0_faultOf cX0_faultOf 2 (some .int) d [aR kb, aZ r] n w (Rs (some (aZ (vv s r 6))) w) := by
  refine Sp.of (plainFor_of_name (by decide)) (Nat.le_of_ble_eq_true rfl) (fun Γ hΓ hR => ?_)
  show Γ 0 [aR kb, aZ r] [] (0, 0) n w
  obtain ⟨e3, e4, e5, e6, e7, e8⟩ := hR0.2.2.1
  have h8 := hW.2.1
  have h6 := hW.c2 hr (x := 6) (by omega)
  have b7 : (b 6 7).testBit r = decide (vv s r 6 = 1) := by rw [e7, mk_bit]; unfold pM; simp [hr]
  have b8 : (b 6 8).testBit r = decide (vv s r 6 = 2) := by rw [e8, mk_bit]; unfold pM; simp [hr]
  refine qa_aload_n hΓ dX0_faultOf_0 rfl ?_
  refine qa_get hΓ dX0_faultOf_1 fk_X0_59 hB.lt hB.o rfl ?_
  refine qa_iload_n hΓ dX0_faultOf_4 rfl ?_
  refine qc_N1 hΓ dX0_faultOf_5 nk_X0_106 vw_X5_isIn (by omega) (c_X5_isIn l (d - 1) _ _ (by have := pm_lt hW e7; omega) (by omega)) rfl rfl (Nat.le_of_ble_eq_true rfl) ?_
  refine qb_if_eq (tgt := 15) hΓ dX0_faultOf_8 (by decide) (fun h_8 => ?_) (fun h_8 => ?_)
  · refine qa_aload_n hΓ dX0_faultOf_15 rfl ?_
    refine qa_get hΓ dX0_faultOf_16 fk_X0_62 hB.lt hB.o rfl ?_
    refine qa_iload_n hΓ dX0_faultOf_19 rfl ?_
    refine qc_N1 hΓ dX0_faultOf_20 nk_X0_106 vw_X5_isIn (by omega) (c_X5_isIn l (d - 1) _ _ (by have := pm_lt hW e8; omega) (by omega)) rfl rfl (Nat.le_of_ble_eq_true rfl) ?_
    refine qb_if_eq (tgt := 30) hΓ dX0_faultOf_23 (by decide) (fun h_23 => ?_) (fun h_23 => ?_)
    · refine qa_iconst (v := nI 0) hΓ dX0_faultOf_30 ic_0 ?_
      exact qr_i hR dX0_faultOf_31 ⟨by rw [show vv s r 6 = 0 from by have := of_decide_eq_false (b7.symm.trans h_8); have := of_decide_eq_false (b8.symm.trans h_23); omega], rfl⟩
    · refine qa_iconst (v := nI 2) hΓ dX0_faultOf_26 ic_2 ?_
      refine qa_goto (tgt := 31) hΓ dX0_faultOf_27 (by decide) ?_
      exact qr_i hR dX0_faultOf_31 ⟨by rw [show vv s r 6 = 2 from of_decide_eq_true (b8.symm.trans h_23)], rfl⟩
  · refine qa_iconst (v := nI 1) hΓ dX0_faultOf_11 ic_1 ?_
    refine qa_goto (tgt := 31) hΓ dX0_faultOf_12 (by decide) ?_
    exact qr_i hR dX0_faultOf_31 ⟨by rw [show vv s r 6 = 1 from of_decide_eq_true (b7.symm.trans h_8)], rfl⟩

set_option maxRecDepth 100000 in
set_option maxHeartbeats 4000000 in
theorem c_X0_kindOf (l : Launch) (d : Nat) (hd : 1 ≤ d) {n kb : Nat} {w : Nat → AC} {b : Bk} (hB : BkAt n w kb b) {s : Nat → Nat} (hR0 : RepC s b) {B : Nat} (hW : Wt s B) (hBd : B < 900000000) (q : Nat) (hr : q / 2 < s 1) : Sq l yX0_kindOf cX0_kindOf 2 (some .int) d [aR kb, aZ q] n w (Rs (some (aZ (if q % 2 = 1 then 2 else 1 - vv s (q / 2) 4))) w) := by
  refine Sp.of (plainFor_of_name (by decide)) (Nat.le_of_ble_eq_true rfl) (fun Γ hΓ hR => ?_)
  show Γ 0 [aR kb, aZ q] [] (0, 0) n w
  obtain ⟨e3, e4, e5, e6, e7, e8⟩ := hR0.2.2.1
  have h8 := hW.2.1
  have hf := pbit hW hr (x := 4) (by omega) e3
  refine qa_iload_n hΓ dX0_kindOf_0 rfl ?_
  refine qc_S1 hΓ dX0_kindOf_1 lk_X0_124 vw_X0_isBounceEnd (by omega) (c_X0_isBounceEnd l (d - 1) _) rfl rfl (Nat.le_of_ble_eq_true rfl) ?_
  refine qb_if_eq (tgt := 9) hΓ dX0_kindOf_4 (by decide) (fun h_4 => ?_) (fun h_4 => ?_)
  · refine qa_aload_n hΓ dX0_kindOf_9 rfl ?_
    refine qa_get hΓ dX0_kindOf_10 fk_X0_47 hB.lt hB.o rfl ?_
    refine qa_iload_n hΓ dX0_kindOf_13 rfl ?_
    refine qc_S1 hΓ dX0_kindOf_14 lk_X0_128 vw_X0_relayOf (by omega) (c_X0_relayOf l (d - 1) q (by omega)) rfl rfl (Nat.le_of_ble_eq_true rfl) ?_
    refine qc_N1 hΓ dX0_kindOf_17 nk_X0_106 vw_X5_isIn (by omega) (c_X5_isIn l (d - 1) _ _ (by have := pm_lt hW e3; omega) (by omega)) rfl rfl (Nat.le_of_ble_eq_true rfl) ?_
    refine qb_if_eq (tgt := 27) hΓ dX0_kindOf_20 (by decide) (fun h_20 => ?_) (fun h_20 => ?_)
    · refine qa_iconst (v := nI 1) hΓ dX0_kindOf_27 ic_1 ?_
      exact qr_i hR dX0_kindOf_28 ⟨by rw [if_neg (of_decide_eq_false h_4), show vv s (q / 2) 4 = 0 from by rw [h_20] at hf; exact hf.symm], rfl⟩
    · refine qa_iconst (v := nI 0) hΓ dX0_kindOf_23 ic_0 ?_
      refine qa_goto (tgt := 28) hΓ dX0_kindOf_24 (by decide) ?_
      exact qr_i hR dX0_kindOf_28 ⟨by rw [if_neg (of_decide_eq_false h_4), show vv s (q / 2) 4 = 1 from by rw [h_20] at hf; exact hf.symm], rfl⟩
  · refine qa_iconst (v := nI 2) hΓ dX0_kindOf_7 ic_2 ?_
    exact qr_i hR dX0_kindOf_8 ⟨by rw [if_pos (of_decide_eq_true h_4)], rfl⟩
