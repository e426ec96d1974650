/-! The class: runs of events -/
def rnL (rev : Bool) (en : Nat) (s : Nat → Nat) : Nat → Nat × (Nat → Nat)
  | 0 => (0, s)
  | m + 1 => match nx s rev with
    | none => (0, s)
    | some e => if tmO s e ≤ en then ((rnL rev en (hap s e) m).1 + 1, (rnL rev en (hap s e) m).2) else (0, s)
theorem rnL_ps (en : Nat) : ∀ (m : Nat) (s : Nat → Nat), rnL false en s m = psL en s m
  | 0, s => rfl
  | m + 1, s => by
    unfold rnL psL
    cases nx s false with
    | none => rfl
    | some e => simp only [rnL_ps en m (hap s e)]
theorem rnL_st (rev : Bool) : ∀ (m : Nat) (s : Nat → Nat) (B : Nat), Wt s B → B + 20 * m < NV → rnL rev NV s m = stl s rev m
  | 0, s, B, _, _ => rfl
  | m + 1, s, B, hW, hB => by
    unfold rnL stl
    cases he : nx s rev with
    | none => rfl
    | some e =>
      have h1 := hW.tm (nx_lt he)
      simp only
      rw [if_pos (by omega), rnL_st rev m (hap s e) (B + 20) (hW.hap (nx_lt he)) (by omega)]
theorem nx_wt {s : Nat → Nat} {rev : Bool} {e : Nat} (h : nx s rev = some e) : wtB s e = true := nxt_wt h
theorem nI_n1 {q : Nat} (h : q < 2147483648) : ¬ nI q = -1 := fun e => absurd (e ▸ nI_pos' h : (0 : Int32) ≤ -1) (by decide)
set_option maxRecDepth 100000 in
set_option maxHeartbeats 4000000 in
theorem c_X0_isQuiet (l : Launch) (d : Nat) (hd : 2 ≤ d) {n kb : Nat} {w : Nat → AC} {b : Bk} (hB : BkAt n w kb b) {s : Nat → Nat} (hR0 : RepC s b) {B : Nat} (hW : Wt s B) (hBd : B < 900000000) : Sq l yX0_isQuiet cX0_isQuiet 1 (some .boolean) d [aR kb] n w (Rs (some (aZ (decide (nx s false = none)).toNat)) w) := by
  refine Sp.of (plainFor_of_name (by decide)) (Nat.le_of_ble_eq_true rfl) (fun Γ hΓ hR => ?_)
  show Γ 0 [aR kb] [] (0, 0) n w
  have h8 := hW.2.1
  refine qa_aload_n hΓ dX0_isQuiet_0 rfl ?_
  refine qa_iconst (v := nI 0) hΓ dX0_isQuiet_1 ic_0 ?_
  show Γ _ _ (aZ false.toNat :: _) _ _ _
  refine qc_V1 hΓ dX0_isQuiet_2 lk_X0_131 vw_X0_nextSlot (by omega) (c_X0_nextSlot l (d - 1) (by omega) hB hR0 hW hBd false) rfl hB.lt hB.o rfl rfl (Nat.le_of_ble_eq_true rfl) ?_
  refine qa_iconst (v := -1) hΓ dX0_isQuiet_5 ic_m1 ?_
  refine qa_icmp_ne (tgt := 13) hΓ dX0_isQuiet_6 (by decide) (fun h_6 => ?_) (fun h_6 => ?_)
  · refine qa_iconst (v := nI 0) hΓ dX0_isQuiet_13 ic_0 ?_
    exact qr_b (p := false) hR dX0_isQuiet_14 ⟨by rw [decide_eq_false (fun q => h_6 (by rw [q]; rfl))], rfl⟩
  · refine qa_iconst (v := nI 1) hΓ dX0_isQuiet_9 ic_1 ?_
    refine qa_goto (tgt := 14) hΓ dX0_isQuiet_10 (by decide) ?_
    have e : nx s false = none := by
      cases q : nx s false with
      | none => rfl
      | some e =>
        rw [q] at h_6
        exact absurd h_6 (nI_n1 (by have := nx_lt q; unfold slE; split <;> omega))
    exact qr_b (p := true) hR dX0_isQuiet_14 ⟨by rw [decide_eq_true e], rfl⟩

set_option maxRecDepth 100000 in
set_option maxHeartbeats 4000000 in
theorem c_X0_run (l : Launch) (d : Nat) (hd : 4 ≤ d) {n kb : Nat} {w : Nat → AC} {b : Bk} (hB : BkAt n w kb b) {s : Nat → Nat} (hR0 : RepC s b) {B : Nat} (hW : Wt s B) (hBd : B < 900000000) (hS : SeC s) (m en : Nat) (rev : Bool) (hm : B + 20 * m + 20 < 900000000) (hen : en < 2147483648) : Sq l yX0_run cX0_run 6 (some .int) d [aR kb, aZ m, aZ en, aZ rev.toNat] n w (Qv (aZ (rnL rev en s m).1) (PR n kb (rnL rev en s m).2 w)) := by
  refine Sp.of (plainFor_of_name (by decide)) (Nat.le_of_ble_eq_true rfl) (fun Γ hΓ hR => ?_)
  show Γ 0 [aR kb, aZ m, aZ en, aZ rev.toNat, none, none] [] (0, 0) n w
  obtain ⟨w0, hw0⟩ : ∃ X, X = w ∧ ∀ w2, Fr kb 7 X w2 → Fr kb 7 w w2 := ⟨w, rfl, fun _ h => h⟩
  obtain ⟨hww, hw0⟩ := hw0
  have hF0 : Fr kb 7 w0 w := hww ▸ Fr.rf
  have h8 := hW.2.1
  refine qa_iconst (v := nI 0) hΓ dX0_run_0 ic_0 ?_
  refine qa_istore hΓ dX0_run_1 (by decide) ?_
  have loop : ∀ (j i : Nat) (w1 : Nat → AC) (b1 : Bk) (t : Nat → Nat) (v : AV), i + j = m → BkAt n w1 kb b1 → Fr kb 7 w0 w1 → RepC t b1 → SeC t → Wt t (B + 20 * i) → rnL rev en s m = ((rnL rev en t j).1 + i, (rnL rev en t j).2) → Γ 3 [aR kb, aZ m, aZ en, aZ rev.toNat, aZ i, v] [] (0, 0) n w1 := by
    intro j
    induction j with
    | zero =>
      intro i w b t v hij hB hF0 hR0 hS hWt hz
      refine qa_iload hΓ dX0_run_3 rfl ?_
      refine qa_iload_n hΓ dX0_run_5 rfl ?_
      refine qz_icmp_ge (tgt := 50) hΓ dX0_run_6 (by decide) (by omega) (by omega) (fun _ => ?_) (fun h => absurd h (by omega))
      refine qa_iload_n hΓ dX0_run_50 rfl ?_
      have e1 : (rnL rev en s m).1 = m := by rw [hz]; show 0 + i = m; omega
      have e2 : (rnL rev en s m).2 = t := by rw [hz]; rfl
      exact qr_i hR dX0_run_51 ⟨by rw [e1], b, hB, hw0 _ hF0, by rw [e2]; exact ⟨hR0, hS⟩⟩
    | succ j ih =>
      intro i w b t v hij hB hF0 hR0 hS hWt hz
      have h8 : t 1 ≤ 8 := hWt.2.1
      cases ho : nx t rev with
      | none =>
        refine qa_iload hΓ dX0_run_3 rfl ?_
        refine qa_iload_n hΓ dX0_run_5 rfl ?_
        refine qz_icmp_ge (tgt := 50) hΓ dX0_run_6 (by decide) (by omega) (by omega) (fun h => absurd h (by omega)) (fun _ => ?_)
        refine qa_aload_n hΓ dX0_run_9 rfl ?_
        refine qa_iload_n hΓ dX0_run_10 rfl ?_
        refine qc_V1 hΓ dX0_run_11 lk_X0_131 vw_X0_nextSlot (by omega) (c_X0_nextSlot l (d - 1) (by omega) hB hR0 hWt (by omega) rev) rfl hB.lt hB.o rfl rfl (Nat.le_of_ble_eq_true rfl) ?_
        rw [ho]
        refine qa_istore hΓ dX0_run_14 (by decide) ?_
        refine qa_iload hΓ dX0_run_16 rfl ?_
        refine qa_iconst (v := -1) hΓ dX0_run_18 ic_m1 ?_
        refine qa_icmp_eq (tgt := 35) hΓ dX0_run_19 (by decide) (fun _ => ?_) (fun h => absurd rfl h)
        refine qa_iload hΓ dX0_run_35 rfl ?_
        have e0 : rnL rev en t (j + 1) = (0, t) := by unfold rnL; rw [ho]
        have e1 : (rnL rev en s m).1 = i := by rw [hz, e0]; show 0 + i = i; omega
        have e2 : (rnL rev en s m).2 = t := by rw [hz, e0]
        exact qr_i hR dX0_run_37 ⟨by rw [e1], b, hB, hw0 _ hF0, by rw [e2]; exact ⟨hR0, hS⟩⟩
      | some e =>
        have he := nx_lt ho
        have hsl : slE e < 16 := by unfold slE; split <;> omega
        have htm := hWt.tm he
        refine qa_iload hΓ dX0_run_3 rfl ?_
        refine qa_iload_n hΓ dX0_run_5 rfl ?_
        refine qz_icmp_ge (tgt := 50) hΓ dX0_run_6 (by decide) (by omega) (by omega) (fun h => absurd h (by omega)) (fun _ => ?_)
        refine qa_aload_n hΓ dX0_run_9 rfl ?_
        refine qa_iload_n hΓ dX0_run_10 rfl ?_
        refine qc_V1 hΓ dX0_run_11 lk_X0_131 vw_X0_nextSlot (by omega) (c_X0_nextSlot l (d - 1) (by omega) hB hR0 hWt (by omega) rev) rfl hB.lt hB.o rfl rfl (Nat.le_of_ble_eq_true rfl) ?_
        rw [ho]
        refine qa_istore hΓ dX0_run_14 (by decide) ?_
        refine qa_iload hΓ dX0_run_16 rfl ?_
        refine qa_iconst (v := -1) hΓ dX0_run_18 ic_m1 ?_
        refine qa_icmp_eq (tgt := 35) hΓ dX0_run_19 (by decide) (fun h => absurd h (nI_n1 (by omega))) (fun _ => ?_)
        refine qa_aload_n hΓ dX0_run_22 rfl ?_
        refine qa_get hΓ dX0_run_23 fk_X0_27 hB.lt hB.o rfl ?_
        refine qa_iload hΓ dX0_run_26 rfl ?_
        refine qc_N1 hΓ dX0_run_28 nk_X0_73 vw_X5_at (by omega) (c_X5_at l (d - 1) (hB.lti (i := 6) (by decide)) hB.a5 _ (by omega) (by decide)) rfl rfl (Nat.le_of_ble_eq_true rfl) ?_
        rw [du_e hR0 he (nx_kind ho) (nx_wt ho)]
        refine qa_iload_n hΓ dX0_run_31 rfl ?_
        refine qz_icmp_le (tgt := 38) hΓ dX0_run_32 (by decide) (by omega) (by omega) (fun h_32 => ?_) (fun h_32 => ?_)
        · refine qa_aload_n hΓ dX0_run_38 rfl ?_
          refine qa_iload hΓ dX0_run_39 rfl ?_
          refine qc_V0q hΓ dX0_run_41 lk_X0_141 vw_X0_happen (by omega) (c_X0_happen l (d - 1) (by omega) hB hR0 hWt (by omega) (by omega) hS e he (nx_kind ho) (nx_wt ho)) rfl hB.lt hB.o rfl rfl (Nat.le_of_ble_eq_true rfl) (fun w hq => ?_)
          obtain ⟨b', hB, hF, hR2, hS2⟩ := hq
          have hF0 := hF0.tr hF
          refine qz_iinc hΓ dX0_run_44 ii_1 rfl (by decide) ?_
          refine qa_goto (tgt := 3) hΓ dX0_run_47 (by decide) ?_
          refine ih (i + 1) w b' (hap t e) _ (by omega) hB hF0 hR2 hS2 (by have := hWt.hap he; rw [show B + 20 * (i + 1) = B + 20 * i + 20 by omega]; exact this) ?_
          rw [hz]
          have e0 : rnL rev en t (j + 1) = ((rnL rev en (hap t e) j).1 + 1, (rnL rev en (hap t e) j).2) := by
            show (match nx t rev with | none => _ | some e => _) = _
            rw [ho]
            show (if _ then _ else _) = _
            rw [if_pos h_32]
          rw [e0]
          show ((rnL rev en (hap t e) j).1 + 1 + i, _) = _
          rw [show (rnL rev en (hap t e) j).1 + 1 + i = (rnL rev en (hap t e) j).1 + (i + 1) by omega]
        · refine qa_iload hΓ dX0_run_35 rfl ?_
          have e0 : rnL rev en t (j + 1) = (0, t) := by unfold rnL; rw [ho]; show (if _ then _ else _) = _; rw [if_neg (by omega)]
          have e1 : (rnL rev en s m).1 = i := by rw [hz, e0]; show 0 + i = i; omega
          have e2 : (rnL rev en s m).2 = t := by rw [hz, e0]
          exact qr_i hR dX0_run_37 ⟨by rw [e1], b, hB, hw0 _ hF0, by rw [e2]; exact ⟨hR0, hS⟩⟩
  exact loop m 0 w b s none (by omega) hB hF0 hR0 hS hW rfl
