/-! Leaves: the static methods of RelayBank, Branch, Bank; Math.floorMod; the model's in, of, puts -/
theorem bt1 (a j : Nat) : (a >>> j) &&& 1 = (a.testBit j).toNat := by
  rw [Nat.toNat_testBit, Nat.and_one_is_mod, Nat.shiftRight_eq_div_pow]
set_option maxRecDepth 100000 in
set_option maxHeartbeats 4000000 in
theorem c_X5_isWithin (l : Launch) (d : Nat) {n : Nat} {w : Nat → AC} (v a b : Int32) : Sq l yX5_isWithin cX5_isWithin 3 (some .boolean) d [aI v, aI a, aI b] n w (Rs (some (aZ (decide (a ≤ v ∧ v ≤ b)).toNat)) w) := by
  refine Sp.of (plainFor_of_name (by decide)) (Nat.le_of_ble_eq_true rfl) (fun Γ hΓ hR => ?_)
  show Γ 0 [aI v, aI a, aI b] [] (0, 0) n w
  refine qa_iload_n hΓ dX5_isWithin_0 rfl ?_
  refine qa_iload_n hΓ dX5_isWithin_1 rfl ?_
  refine qa_icmp_gt (tgt := 14) hΓ dX5_isWithin_2 (by decide) (fun h_2 => ?_) (fun h_2 => ?_)
  · refine qa_iconst (v := nI 0) hΓ dX5_isWithin_14 ic_0 ?_
    exact qr_b (p := false) hR dX5_isWithin_15 ⟨congrArg (fun p : Bool => some (aZ p.toNat)) ((decide_eq_false (fun q => by first | exact absurd h_2 (Int32.not_lt.mpr q.1) | exact absurd h_7 (Int32.not_lt.mpr q.2))).symm), rfl⟩
  · refine qa_iload_n hΓ dX5_isWithin_5 rfl ?_
    refine qa_iload_n hΓ dX5_isWithin_6 rfl ?_
    refine qa_icmp_gt (tgt := 14) hΓ dX5_isWithin_7 (by decide) (fun h_7 => ?_) (fun h_7 => ?_)
    · refine qa_iconst (v := nI 0) hΓ dX5_isWithin_14 ic_0 ?_
      exact qr_b (p := false) hR dX5_isWithin_15 ⟨congrArg (fun p : Bool => some (aZ p.toNat)) ((decide_eq_false (fun q => by first | exact absurd h_2 (Int32.not_lt.mpr q.1) | exact absurd h_7 (Int32.not_lt.mpr q.2))).symm), rfl⟩
    · refine qa_iconst (v := nI 1) hΓ dX5_isWithin_10 ic_1 ?_
      refine qa_goto (tgt := 15) hΓ dX5_isWithin_11 (by decide) ?_
      exact qr_b (p := true) hR dX5_isWithin_15 ⟨congrArg (fun p : Bool => some (aZ p.toNat)) ((decide_eq_true ⟨Int32.not_lt.mp h_2, Int32.not_lt.mp h_7⟩).symm), rfl⟩

set_option maxRecDepth 100000 in
set_option maxHeartbeats 4000000 in
theorem c_X5_bitOf (l : Launch) (d : Nat) {n : Nat} {w : Nat → AC} (a j : Nat) (ha : a < 4294967296) (hj : j < 32) : Sq l yX5_bitOf cX5_bitOf 2 (some .int) d [aZ a, aZ j] n w (Rs (some (aZ (a.testBit j).toNat)) w) := by
  refine Sp.of (plainFor_of_name (by decide)) (Nat.le_of_ble_eq_true rfl) (fun Γ hΓ hR => ?_)
  show Γ 0 [aZ a, aZ j] [] (0, 0) n w
  refine qa_iload_n hΓ dX5_bitOf_0 rfl ?_
  refine qa_iload_n hΓ dX5_bitOf_1 rfl ?_
  refine qz_iushr hΓ dX5_bitOf_2 (by omega) (by omega) ?_
  refine qa_iconst (v := nI 1) hΓ dX5_bitOf_3 ic_1 ?_
  refine qz_iand hΓ dX5_bitOf_4 ?_
  exact qr_i hR dX5_bitOf_5 ⟨by rw [bt1], rfl⟩

set_option maxRecDepth 100000 in
set_option maxHeartbeats 4000000 in
theorem c_X5_isIn (l : Launch) (d : Nat) {n : Nat} {w : Nat → AC} (a j : Nat) (ha : a < 4294967296) (hj : j < 32) : Sq l yX5_isIn cX5_isIn 2 (some .boolean) d [aZ a, aZ j] n w (Rs (some (aZ (a.testBit j).toNat)) w) := by
  refine Sp.of (plainFor_of_name (by decide)) (Nat.le_of_ble_eq_true rfl) (fun Γ hΓ hR => ?_)
  show Γ 0 [aZ a, aZ j] [] (0, 0) n w
  refine qa_iload_n hΓ dX5_isIn_0 rfl ?_
  refine qa_iload_n hΓ dX5_isIn_1 rfl ?_
  refine qz_iushr hΓ dX5_isIn_2 (by omega) (by omega) ?_
  refine qa_iconst (v := nI 1) hΓ dX5_isIn_3 ic_1 ?_
  refine qz_iand hΓ dX5_isIn_4 ?_
  refine qa_iconst (v := nI 1) hΓ dX5_isIn_5 ic_1 ?_
  refine qz_icmp_ne (tgt := 13) hΓ dX5_isIn_6 (by decide) (Nat.lt_of_le_of_lt (Nat.and_le_right) (by decide)) (by decide) (fun h_6 => ?_) (fun h_6 => ?_)
  · refine qa_iconst (v := nI 0) hΓ dX5_isIn_13 ic_0 ?_
    exact qr_b (p := false) hR dX5_isIn_14 ⟨congrArg (fun p : Bool => some (aZ p.toNat)) (by cases q : a.testBit j <;> rw [bt1, q] at h_6 <;> first | rfl | exact absurd rfl h_6 | cases h_6), rfl⟩
  · refine qa_iconst (v := nI 1) hΓ dX5_isIn_9 ic_1 ?_
    refine qa_goto (tgt := 14) hΓ dX5_isIn_10 (by decide) ?_
    exact qr_b (p := true) hR dX5_isIn_14 ⟨congrArg (fun p : Bool => some (aZ p.toNat)) (by cases q : a.testBit j <;> rw [bt1, q] at h_6 <;> first | rfl | exact absurd rfl h_6 | cases h_6), rfl⟩

set_option maxRecDepth 100000 in
set_option maxHeartbeats 4000000 in
theorem c_X5_at (l : Launch) (d : Nat) {n : Nat} {w : Nat → AC} {k0 N : Nat} {f : Nat → Nat} (hk : k0 < n) (hw : w k0 = zA N f) (j : Nat) (hj : j < N) (hN : N < 2147483648) : Sq l yX5_at cX5_at 2 (some .int) d [aR k0, aZ j] n w (Rs (some (aZ (f j))) w) := by
  refine Sp.of (plainFor_of_name (by decide)) (Nat.le_of_ble_eq_true rfl) (fun Γ hΓ hR => ?_)
  show Γ 0 [aR k0, aZ j] [] (0, 0) n w
  refine qa_iconst (v := nI 0) hΓ dX5_at_0 ic_0 ?_
  refine qa_iload_n hΓ dX5_at_1 rfl ?_
  refine qz_icmp_gt (tgt := 17) hΓ dX5_at_2 (by decide) (by decide) (by omega) (fun h_2 => absurd h_2 (by omega)) (fun h_2 => ?_)
  refine qa_iload_n hΓ dX5_at_5 rfl ?_
  refine qa_aload_n hΓ dX5_at_6 rfl ?_
  refine qa_alen hΓ dX5_at_7 hk hw (by decide) rfl ?_
  refine qz_icmp_ge (tgt := 17) hΓ dX5_at_8 (by decide) (by omega) (by omega) (fun h_8 => absurd h_8 (by omega)) (fun h_8 => ?_)
  refine qa_aload_n hΓ dX5_at_11 rfl ?_
  refine qa_iload_n hΓ dX5_at_12 rfl ?_
  refine qz_iald hΓ dX5_at_13 hk hw hj hN ?_
  refine qa_goto (tgt := 18) hΓ dX5_at_14 (by decide) ?_
  exact qr_i hR dX5_at_18 ⟨rfl, rfl⟩

set_option maxRecDepth 100000 in
set_option maxHeartbeats 4000000 in
theorem c_X5_put (l : Launch) (d : Nat) {n : Nat} {w : Nat → AC} {k0 N : Nat} {f : Nat → Nat} (hk : k0 < n) (hw : w k0 = zA N f) (j x : Nat) (hj : j < N) (hN : N < 2147483648) : Sq l yX5_put cX5_put 3 none d [aR k0, aZ j, aZ x] n w (Rs none (upw w k0 (zA N (upN f j x)))) := by
  refine Sp.of (plainFor_of_name (by decide)) (Nat.le_of_ble_eq_true rfl) (fun Γ hΓ hR => ?_)
  show Γ 0 [aR k0, aZ j, aZ x] [] (0, 0) n w
  refine qa_iconst (v := nI 0) hΓ dX5_put_0 ic_0 ?_
  refine qa_iload_n hΓ dX5_put_1 rfl ?_
  refine qz_icmp_gt (tgt := 15) hΓ dX5_put_2 (by decide) (by decide) (by omega) (fun h_2 => absurd h_2 (by omega)) (fun h_2 => ?_)
  refine qa_iload_n hΓ dX5_put_5 rfl ?_
  refine qa_aload_n hΓ dX5_put_6 rfl ?_
  refine qa_alen hΓ dX5_put_7 hk hw (by decide) rfl ?_
  refine qz_icmp_ge (tgt := 15) hΓ dX5_put_8 (by decide) (by omega) (by omega) (fun h_8 => absurd h_8 (by omega)) (fun h_8 => ?_)
  refine qa_aload_n hΓ dX5_put_11 rfl ?_
  refine qa_iload_n hΓ dX5_put_12 rfl ?_
  refine qa_iload_n hΓ dX5_put_13 rfl ?_
  refine qz_iast hΓ dX5_put_14 hk hw hj hN ?_
  exact qr_v hR dX5_put_15 (⟨rfl, rfl⟩)

set_option maxRecDepth 100000 in
set_option maxHeartbeats 4000000 in
theorem c_X5_isKey (l : Launch) (d : Nat) (hd : 1 ≤ d) {n : Nat} {w : Nat → AC} (v : Int32) : Sq l yX5_isKey cX5_isKey 1 (some .boolean) d [aI v] n w (Rs (some (aZ (decide (nI 0 ≤ v ∧ v ≤ nI 7)).toNat)) w) := by
  refine Sp.of (plainFor_of_name (by decide)) (Nat.le_of_ble_eq_true rfl) (fun Γ hΓ hR => ?_)
  show Γ 0 [aI v] [] (0, 0) n w
  refine qa_iload_n hΓ dX5_isKey_0 rfl ?_
  refine qa_iconst (v := nI 0) hΓ dX5_isKey_1 ic_0 ?_
  refine qa_bipush (v := nI 7) hΓ dX5_isKey_2 bp_7 ?_
  refine qc_S1 hΓ dX5_isKey_4 lk_X5_71 vw_X5_isWithin (by omega) (c_X5_isWithin l (d - 1) _ _ _) rfl rfl (Nat.le_of_ble_eq_true rfl) ?_
  exact qr_b hR dX5_isKey_7 ⟨rfl, rfl⟩

set_option maxRecDepth 100000 in
set_option maxHeartbeats 4000000 in
theorem c_X5_areDelays (l : Launch) (d : Nat) (hd : 1 ≤ d) {n : Nat} {w : Nat → AC} (u v x : Int32) : Sq l yX5_areDelays cX5_areDelays 3 (some .boolean) d [aI u, aI v, aI x] n w (Rs (some (aZ (decide ((nI 1 ≤ u ∧ u ≤ nI 20) ∧ (nI 1 ≤ v ∧ v ≤ nI 20) ∧ (nI 0 ≤ x ∧ x ≤ nI 5))).toNat)) w) := by
  refine Sp.of (plainFor_of_name (by decide)) (Nat.le_of_ble_eq_true rfl) (fun Γ hΓ hR => ?_)
  show Γ 0 [aI u, aI v, aI x] [] (0, 0) n w
  refine qa_iload_n hΓ dX5_areDelays_0 rfl ?_
  refine qa_iconst (v := nI 1) hΓ dX5_areDelays_1 ic_1 ?_
  refine qa_bipush (v := nI 20) hΓ dX5_areDelays_2 bp_20 ?_
  refine qc_S1 hΓ dX5_areDelays_4 lk_X5_71 vw_X5_isWithin (by omega) (c_X5_isWithin l (d - 1) _ _ _) rfl rfl (Nat.le_of_ble_eq_true rfl) ?_
  refine qb_if_eq (tgt := 33) hΓ dX5_areDelays_7 (by decide) (fun h_7 => ?_) (fun h_7 => ?_)
  · refine qa_iconst (v := nI 0) hΓ dX5_areDelays_33 ic_0 ?_
    exact qr_b (p := false) hR dX5_areDelays_34 ⟨congrArg (fun p : Bool => some (aZ p.toNat)) (decide_eq_false (fun q => by first | exact of_decide_eq_false h_7 q.1 | exact of_decide_eq_false h_17 q.2.1 | exact of_decide_eq_false h_26 q.2.2)).symm, rfl⟩
  · refine qa_iload_n hΓ dX5_areDelays_10 rfl ?_
    refine qa_iconst (v := nI 1) hΓ dX5_areDelays_11 ic_1 ?_
    refine qa_bipush (v := nI 20) hΓ dX5_areDelays_12 bp_20 ?_
    refine qc_S1 hΓ dX5_areDelays_14 lk_X5_71 vw_X5_isWithin (by omega) (c_X5_isWithin l (d - 1) _ _ _) rfl rfl (Nat.le_of_ble_eq_true rfl) ?_
    refine qb_if_eq (tgt := 33) hΓ dX5_areDelays_17 (by decide) (fun h_17 => ?_) (fun h_17 => ?_)
    · refine qa_iconst (v := nI 0) hΓ dX5_areDelays_33 ic_0 ?_
      exact qr_b (p := false) hR dX5_areDelays_34 ⟨congrArg (fun p : Bool => some (aZ p.toNat)) (decide_eq_false (fun q => by first | exact of_decide_eq_false h_7 q.1 | exact of_decide_eq_false h_17 q.2.1 | exact of_decide_eq_false h_26 q.2.2)).symm, rfl⟩
    · refine qa_iload_n hΓ dX5_areDelays_20 rfl ?_
      refine qa_iconst (v := nI 0) hΓ dX5_areDelays_21 ic_0 ?_
      refine qa_iconst (v := nI 5) hΓ dX5_areDelays_22 ic_5 ?_
      refine qc_S1 hΓ dX5_areDelays_23 lk_X5_71 vw_X5_isWithin (by omega) (c_X5_isWithin l (d - 1) _ _ _) rfl rfl (Nat.le_of_ble_eq_true rfl) ?_
      refine qb_if_eq (tgt := 33) hΓ dX5_areDelays_26 (by decide) (fun h_26 => ?_) (fun h_26 => ?_)
      · refine qa_iconst (v := nI 0) hΓ dX5_areDelays_33 ic_0 ?_
        exact qr_b (p := false) hR dX5_areDelays_34 ⟨congrArg (fun p : Bool => some (aZ p.toNat)) (decide_eq_false (fun q => by first | exact of_decide_eq_false h_7 q.1 | exact of_decide_eq_false h_17 q.2.1 | exact of_decide_eq_false h_26 q.2.2)).symm, rfl⟩
      · refine qa_iconst (v := nI 1) hΓ dX5_areDelays_29 ic_1 ?_
        refine qa_goto (tgt := 34) hΓ dX5_areDelays_30 (by decide) ?_
        exact qr_b (p := true) hR dX5_areDelays_34 ⟨congrArg (fun p : Bool => some (aZ p.toNat)) (decide_eq_true ⟨of_decide_eq_true h_7, of_decide_eq_true h_17, of_decide_eq_true h_26⟩).symm, rfl⟩

set_option maxRecDepth 100000 in
set_option maxHeartbeats 4000000 in
theorem c_X0_relayOf (l : Launch) (d : Nat) {n : Nat} {w : Nat → AC} (a : Nat) (ha : a < 2147483648) : Sq l yX0_relayOf cX0_relayOf 1 (some .int) d [aZ a] n w (Rs (some (aZ (a / 2))) w) := by
  refine Sp.of (plainFor_of_name (by decide)) (Nat.le_of_ble_eq_true rfl) (fun Γ hΓ hR => ?_)
  show Γ 0 [aZ a] [] (0, 0) n w
  refine qa_iload_n hΓ dX0_relayOf_0 rfl ?_
  refine qa_iconst (v := nI 1) hΓ dX0_relayOf_1 ic_1 ?_
  refine qz_ishr hΓ dX0_relayOf_2 (by omega) (by omega) ?_
  exact qr_i hR dX0_relayOf_3 ⟨by rw [Nat.shiftRight_eq_div_pow], rfl⟩

set_option maxRecDepth 100000 in
set_option maxHeartbeats 4000000 in
theorem c_X0_isBounceEnd (l : Launch) (d : Nat) {n : Nat} {w : Nat → AC} (a : Nat) : Sq l yX0_isBounceEnd cX0_isBounceEnd 1 (some .boolean) d [aZ a] n w (Rs (some (aZ (decide (a % 2 = 1)).toNat)) w) := by
  refine Sp.of (plainFor_of_name (by decide)) (Nat.le_of_ble_eq_true rfl) (fun Γ hΓ hR => ?_)
  show Γ 0 [aZ a] [] (0, 0) n w
  refine qa_iload_n hΓ dX0_isBounceEnd_0 rfl ?_
  refine qa_iconst (v := nI 1) hΓ dX0_isBounceEnd_1 ic_1 ?_
  refine qz_iand hΓ dX0_isBounceEnd_2 ?_
  refine qa_iconst (v := nI 1) hΓ dX0_isBounceEnd_3 ic_1 ?_
  refine qz_icmp_ne (tgt := 11) hΓ dX0_isBounceEnd_4 (by decide) (Nat.lt_of_le_of_lt (Nat.and_le_right) (by decide)) (by decide) (fun h_4 => ?_) (fun h_4 => ?_)
  · refine qa_iconst (v := nI 0) hΓ dX0_isBounceEnd_11 ic_0 ?_
    exact qr_b (p := false) hR dX0_isBounceEnd_12 ⟨congrArg (fun p : Bool => some (aZ p.toNat)) (by rw [Nat.and_one_is_mod] at h_4; simp; omega), rfl⟩
  · refine qa_iconst (v := nI 1) hΓ dX0_isBounceEnd_7 ic_1 ?_
    refine qa_goto (tgt := 12) hΓ dX0_isBounceEnd_8 (by decide) ?_
    exact qr_b (p := true) hR dX0_isBounceEnd_12 ⟨congrArg (fun p : Bool => some (aZ p.toNat)) (by rw [Nat.and_one_is_mod] at h_4; simp; omega), rfl⟩

set_option maxRecDepth 100000 in
set_option maxHeartbeats 4000000 in
theorem c_J9_floorMod_7cf53 (l : Launch) (d : Nat) {n : Nat} {w : Nat → AC} (a b : Nat) (ha : a < 2147483648) (hb : b < 2147483648) (h0 : 0 < b) : Sq l yJ9_floorMod_7cf53 cJ9_floorMod_7cf53 3 (some .int) d [aZ a, aZ b] n w (Rs (some (aZ (a % b))) w) := by
  refine Sp.of (by decide +kernel) (Nat.le_of_ble_eq_true rfl) (fun Γ hΓ hR => ?_)
  show Γ 0 [aZ a, aZ b, none] [] (0, 0) n w
  refine qa_iload_n hΓ dJ9_floorMod_7cf53_0 rfl ?_
  refine qa_iload_n hΓ dJ9_floorMod_7cf53_1 rfl ?_
  refine qz_irem hΓ dJ9_floorMod_7cf53_2 ha hb h0 ?_
  refine qa_istore_n hΓ dJ9_floorMod_7cf53_3 (by decide) ?_
  refine qa_iload_n hΓ dJ9_floorMod_7cf53_4 rfl ?_
  refine qa_iload_n hΓ dJ9_floorMod_7cf53_5 rfl ?_
  refine qz_ixor hΓ dJ9_floorMod_7cf53_6 ?_
  refine qz_if_ge (tgt := 18) hΓ dJ9_floorMod_7cf53_7 (by decide) (Nat.xor_lt_two_pow (n := 31) ha hb) ?_
  refine qa_iload_n hΓ dJ9_floorMod_7cf53_18 rfl ?_
  exact qr_i hR dJ9_floorMod_7cf53_19 ⟨rfl, rfl⟩
