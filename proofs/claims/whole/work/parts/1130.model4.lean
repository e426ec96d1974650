/-! The model: settling, its ends, races, the states kept for undo -/
theorem stl_0 (s : Nat → Nat) (rev : Bool) : stl s rev 0 = (0, s) := rfl
theorem stl_none {s : Nat → Nat} {rev : Bool} (m : Nat) (h : nx s rev = none) : stl s rev m = (0, s) := by
  cases m with
  | zero => rfl
  | succ m => unfold stl; rw [h]
theorem stl_some {s : Nat → Nat} {rev : Bool} {e : Nat} (m : Nat) (h : nx s rev = some e) : stl s rev (m + 1) = ((stl (hap s e) rev m).1 + 1, (stl (hap s e) rev m).2) := by
  rw [stl, h]
theorem nx_kind {s : Nat → Nat} {rev : Bool} {e : Nat} (h : nx s rev = some e) : e % 4 < 3 := by
  have h1 := nxt_wt h
  unfold wtB at h1
  split at h1
  · omega
  · simp at h1
    omega
set_option maxRecDepth 100000 in
set_option maxHeartbeats 4000000 in
theorem c_X6_settles (l : Launch) (d : Nat) (hd : 4 ≤ d) {n k : Nat} {w : Nat → AC} {M : Bk} (hM : MdAt n w k M) {B : Nat} (hW : Wt (M 0) B) (rev : Bool) (most : Nat) (hm : most < 1000) (hB : B < 1000000000) : Sq l yX6_settles cX6_settles 5 (some .int) d [aR k, aZ rev.toNat, aZ most] n w (Qv (aZ (stl (M 0) rev most).1) (PS n k M (stl (M 0) rev most).2 w)) := by
  refine Sp.of (plainFor_of_name (by decide)) (Nat.le_of_ble_eq_true rfl) (fun Γ hΓ hR => ?_)
  show Γ 0 [aR k, aZ rev.toNat, aZ most, none, none] [] (0, 0) n w
  have loop : ∀ (m j : Nat) (w1 : Nat → AC) (M1 : Bk), j + m = most → MdAt n w1 k M1 → Mup M (M1 0) M1 → Fr k 6 w w1 → Wt (M1 0) (B + 20 * j) → stl (M 0) rev most = ((stl (M1 0) rev m).1 + j, (stl (M1 0) rev m).2) → Γ 9 [aR k, aZ rev.toNat, aZ most, aZ j, aI (nI9 (nx (M1 0) rev))] [] (0, 0) n w1 := by
    intro m
    induction m with
    | zero =>
      intro j w M1 hj hM hU hF0 hW hs
      rw [stl_0] at hs
      refine qa_iload_n hΓ dX6_settles_9 rfl ?_
      refine qa_iload_n hΓ dX6_settles_10 rfl ?_
      refine qz_icmp_ge (tgt := 40) hΓ dX6_settles_11 (by decide) (by omega) (by omega) (fun _ => ?_) (fun h => absurd h (by omega))
      refine qa_iload_n hΓ dX6_settles_40 rfl ?_
      exact qr_i hR dX6_settles_41 ⟨by rw [hs]; simp, M1, hM, by rw [hs]; exact hU, hF0⟩
    | succ m ih =>
      intro j w M1 hj hM hU hF0 hW hs
      have h8 := hW.2.1
      cases ho : nx (M1 0) rev with
      | none =>
        rw [stl_none _ ho] at hs
        show Γ 9 [aR k, aZ rev.toNat, aZ most, aZ j, aI (-9)] [] (0, 0) n w
        refine qa_iload_n hΓ dX6_settles_9 rfl ?_
        refine qa_iload_n hΓ dX6_settles_10 rfl ?_
        refine qz_icmp_ge (tgt := 40) hΓ dX6_settles_11 (by decide) (by omega) (by omega) (fun h => absurd h (by omega)) (fun _ => ?_)
        refine qa_iload hΓ dX6_settles_14 rfl ?_
        refine qa_bipush (v := (-9)) hΓ dX6_settles_16 bp_m9 ?_
        refine qa_icmp_eq (tgt := 40) hΓ dX6_settles_18 (by decide) (fun _ => ?_) (fun h => absurd rfl h)
        refine qa_iload_n hΓ dX6_settles_40 rfl ?_
        exact qr_i hR dX6_settles_41 ⟨by rw [hs]; simp, M1, hM, by rw [hs]; exact hU, hF0⟩
      | some q =>
        have hq9 := nx_lt ho
        rw [stl_some _ ho] at hs
        show Γ 9 [aR k, aZ rev.toNat, aZ most, aZ j, aZ q] [] (0, 0) n w
        refine qa_iload_n hΓ dX6_settles_9 rfl ?_
        refine qa_iload_n hΓ dX6_settles_10 rfl ?_
        refine qz_icmp_ge (tgt := 40) hΓ dX6_settles_11 (by decide) (by omega) (by omega) (fun h => absurd h (by omega)) (fun _ => ?_)
        refine qa_iload hΓ dX6_settles_14 rfl ?_
        refine qa_bipush (v := (-9)) hΓ dX6_settles_16 bp_m9 ?_
        refine qa_icmp_eq (tgt := 40) hΓ dX6_settles_18 (by decide) (fun h => absurd h (nI_m9 q (by omega))) (fun _ => ?_)
        refine qa_aload_n hΓ dX6_settles_21 rfl ?_
        refine qa_iload hΓ dX6_settles_22 rfl ?_
        refine qc_V0q hΓ dX6_settles_24 lk_X6_75 vw_X6_happens (by omega) (c_X6_happens l (d - 1) (by omega) hM hW (by omega) q (nx_lt ho) (nx_kind ho)) rfl hM.lt hM.o rfl rfl (Nat.le_of_ble_eq_true rfl) (fun w hq => ?_)
        obtain ⟨M2, hM, hU2, hF⟩ := hq
        have hF0 := hF0.tr hF
        have hW2 : Wt (M2 0) (B + 20 * (j + 1)) := by
          rw [hU2.1, show B + 20 * (j + 1) = B + 20 * j + 20 by omega]
          exact hW.hap hq9
        refine qz_iinc hΓ dX6_settles_27 ii_1 rfl (by decide) ?_
        refine qa_aload_n hΓ dX6_settles_30 rfl ?_
        refine qa_iload_n hΓ dX6_settles_31 rfl ?_
        refine qc_V1 hΓ dX6_settles_32 lk_X6_71 vw_X6_next (by omega) (c_X6_next l (d - 1) (by omega) hM hW2 (by omega) _) rfl hM.lt hM.o rfl rfl (Nat.le_of_ble_eq_true rfl) ?_
        refine qa_istore hΓ dX6_settles_35 (by decide) ?_
        refine qa_goto (tgt := 9) hΓ dX6_settles_37 (by decide) ?_
        refine ih (j + 1) w M2 (by omega) hM (by rw [hU2.1]; exact hU.tr hU2) hF0 hW2 ?_
        rw [hs, hU2.1]
        simp
        omega
  refine qa_iconst (v := nI 0) hΓ dX6_settles_0 ic_0 ?_
  refine qa_istore_n hΓ dX6_settles_1 (by decide) ?_
  refine qa_aload_n hΓ dX6_settles_2 rfl ?_
  refine qa_iload_n hΓ dX6_settles_3 rfl ?_
  refine qc_V1 hΓ dX6_settles_4 lk_X6_71 vw_X6_next (by omega) (c_X6_next l (d - 1) (by omega) hM hW (by omega) _) rfl hM.lt hM.o rfl rfl (Nat.le_of_ble_eq_true rfl) ?_
  refine qa_istore hΓ dX6_settles_7 (by decide) ?_
  exact loop most 0 w M (by omega) hM (Mup.rf M) Fr.rf hW rfl

theorem stl_le : ∀ (s : Nat → Nat) (rev : Bool) (m : Nat), (stl s rev m).1 ≤ m
  | s, rev, 0 => Nat.le_refl _
  | s, rev, m + 1 => by
    cases h : nx s rev with
    | none => rw [stl_none _ h]; exact Nat.zero_le _
    | some e =>
      rw [stl_some _ h]
      have := stl_le (hap s e) rev m
      show _ + 1 ≤ _
      omega
set_option maxRecDepth 100000 in
set_option maxHeartbeats 4000000 in
theorem c_X6_ends (l : Launch) (d : Nat) (hd : 5 ≤ d) {n k : Nat} {w : Nat → AC} {M : Bk} (hM : MdAt n w k M) {B : Nat} (hW : Wt (M 0) B) (rev : Bool) (most : Nat) (hm : most < 1000) (hB : B < 1000000000) : Sq l yX6_ends cX6_ends 4 (some .int) d [aR k, aZ rev.toNat, aZ most] n w (Qv (aZ (ndE (M 0) rev most)) (PS n k M (stl (M 0) rev most).2 w)) := by
  refine Sp.of (plainFor_of_name (by decide)) (Nat.le_of_ble_eq_true rfl) (fun Γ hΓ hR => ?_)
  show Γ 0 [aR k, aZ rev.toNat, aZ most, none] [] (0, 0) n w
  refine qa_aload_n hΓ dX6_ends_0 rfl ?_
  refine qa_iload_n hΓ dX6_ends_1 rfl ?_
  refine qa_iload_n hΓ dX6_ends_2 rfl ?_
  refine qc_V1q hΓ dX6_ends_3 lk_X6_127 vw_X6_settles (by omega) (c_X6_settles l (d - 1) (by omega) hM hW _ _ (by omega) (by omega)) rfl hM.lt hM.o rfl rfl (Nat.le_of_ble_eq_true rfl) (fun w hq => ?_)
  obtain ⟨M1, hM, hU, hF⟩ := hq
  have hW1 : Wt (M1 0) (B + 20 * most) := by rw [hU.1]; exact hW.stl
  have hle := stl_le (M 0) rev most
  refine qa_istore_n hΓ dX6_ends_6 (by decide) ?_
  refine qa_aload_n hΓ dX6_ends_7 rfl ?_
  refine qa_iconst (v := nI 3) hΓ dX6_ends_8 ic_3 ?_
  refine qc_V1 hΓ dX6_ends_9 lk_X6_132 vw_X6_set (by omega) (c_X6_set l (d - 1) (by omega) hM _ (by decide) hW1.2.1 (fun r hr => by have := hW1.b (x := 3) hr (by decide); omega)) rfl hM.lt hM.o rfl rfl (Nat.le_of_ble_eq_true rfl) ?_
  refine qa_iload_n hΓ dX6_ends_12 rfl ?_
  refine qz_if_lt (tgt := 32) hΓ dX6_ends_13 (by decide) (by omega) ?_
  refine qa_aload_n hΓ dX6_ends_16 rfl ?_
  refine qa_iload_n hΓ dX6_ends_17 rfl ?_
  refine qc_V1 hΓ dX6_ends_18 lk_X6_71 vw_X6_next (by omega) (c_X6_next l (d - 1) (by omega) hM hW1 (by omega) _) rfl hM.lt hM.o rfl rfl (Nat.le_of_ble_eq_true rfl) ?_
  refine qa_bipush (v := (-9)) hΓ dX6_ends_21 bp_m9 ?_
  cases ho : nx (M1 0) rev with
  | none =>
    refine qa_icmp_ne (tgt := 32) hΓ dX6_ends_23 (by decide) (fun h => absurd rfl h) (fun _ => ?_)
    refine qa_sipush (v := nI 256) hΓ dX6_ends_26 sp_256 ?_
    refine qa_goto (tgt := 33) hΓ dX6_ends_29 (by decide) ?_
    refine qz_iadd hΓ dX6_ends_33 ?_
    exact qr_i hR dX6_ends_34 ⟨by unfold ndE; rw [← hU.1, ho]; rfl, M1, hM, hU, hF⟩
  | some q =>
    have hq9 := nx_lt ho
    have h18 := hW1.2.1
    refine qa_icmp_ne (tgt := 32) hΓ dX6_ends_23 (by decide) (fun _ => ?_) (fun h => absurd h (nI_m9 q (by omega)))
    refine qa_iconst (v := nI 0) hΓ dX6_ends_32 ic_0 ?_
    refine qz_iadd hΓ dX6_ends_33 ?_
    exact qr_i hR dX6_ends_34 ⟨by unfold ndE; rw [← hU.1, ho]; rfl, M1, hM, hU, hF⟩

