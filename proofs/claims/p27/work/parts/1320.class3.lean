/-! The class: looking at the coils -/
def PR (n kb : Nat) (s : Nat → Nat) (w : Nat → AC) : (Nat → AC) → Prop := fun w' => ∃ b', BkAt n w' kb b' ∧ Fr kb 7 w w' ∧ RepC s b' ∧ SeC s
theorem pbit {s : Nat → Nat} {b : Bk} {B r x j : Nat} (hW : Wt s B) (hr : r < s 1) (hx : x = 3 ∨ x = 4 ∨ x = 5 ∨ x = 7 ∨ x = 10) (h : b 6 j = mk (pM s x 1) (s 1)) : ((b 6 j).testBit r).toNat = vv s r x := by
  have h1 := hW.c1 hr hx
  rw [h, mk_bit]
  unfold pM
  rcases (show vv s r x = 0 ∨ vv s r x = 1 by omega) with u | u <;> simp [u, hr]
theorem pm_lt {s : Nat → Nat} {b : Bk} {B x v j : Nat} (hW : Wt s B) (h : b 6 j = mk (pM s x v) (s 1)) : b 6 j < 256 := by
  rw [h]
  exact mk_256 _ hW.2.1
theorem lk_4 (on : Nat) (s : Nat → Nat) {r : Nat} (h6 : vv s r 12 ≤ 6) : ∀ m, r < m → vv (lk on s m).2 r 4 = (cnd s r on).toNat
  | 0, h => absurd h (Nat.not_lt_zero _)
  | m + 1, h => by
    have hc : cnd (lk on s m).2 r on = cnd s r on := cnd_congr (by rw [lk_oth on s (by decide) (by decide) m]; exact h6) (fun x h1 h2 => lk_oth on s h2 (by omega) m)
    unfold lk
    by_cases e : r = m
    · subst e
      split
      · rename_i q
        rw [← hc]
        exact q.symm
      · show vv (lkT _ _ _) r 4 = _
        rw [lkT_4, hc]
    · split
      · exact lk_4 on s h6 m (by omega)
      · show vv (lkT _ _ _) r 4 = _
        rw [lkT_oth _ _ _ (by decide) (Or.inl e)]
        exact lk_4 on s h6 m (by omega)
theorem onS_lk (on : Nat) (s : Nat → Nat) (m : Nat) : onS (lk on s m).2 = onS s := by
  unfold onS
  rw [lk_hd on s (by decide) m, lk_hd on s (by decide) m]
  congr 2
  apply mk_congr
  intro i hi
  unfold clB
  rw [lk_oth on s (by decide) (by decide) m, lk_oth on s (by decide) (by decide) m, lk_oth on s (by decide) (by decide) m]
theorem CC_lks {s : Nat → Nat} {B : Nat} (h : Wt s B) : CC (lks s).2 := by
  intro r hr
  have e1 : (lks s).2 1 = s 1 := lk_hd _ _ (by decide) _
  rw [e1] at hr
  have h6 := h.m6 hr
  have e2 : onS (lks s).2 = onS s := onS_lk _ _ _
  rw [e2]
  rw [show cnd (lks s).2 r (onS s) = cnd s r (onS s) from cnd_congr (by unfold lks; rw [lk_oth _ s (by decide) (by decide) _]; exact h6) (fun x h1 h2 => lk_oth _ s h2 (by omega) _)]
  exact lk_4 (onS s) s h6 (s 1) hr
theorem lk_none (on : Nat) (s : Nat → Nat) : ∀ m, (∀ r, r < m → vv s r 4 = (cnd s r on).toNat) → lk on s m = (0, s)
  | 0, _ => rfl
  | m + 1, h => by
    unfold lk
    rw [lk_none on s m (fun r hr => h r (by omega)), if_pos (h m (by omega)).symm]
theorem CC.lks {s : Nat → Nat} (h : CC s) : lks s = (0, s) := lk_none _ _ _ h
set_option maxRecDepth 100000 in
set_option maxHeartbeats 4000000 in
theorem c_X0_lookAtCoils (l : Launch) (d : Nat) (hd : 2 ≤ d) {n kb : Nat} {w : Nat → AC} {b : Bk} (hB : BkAt n w kb b) {s : Nat → Nat} (hR0 : RepC s b) {B : Nat} (hW : Wt s B) (hBd : B < 900000000) (hS : SeC s) : Sq l yX0_lookAtCoils cX0_lookAtCoils 4 (some .int) d [aR kb] n w (Qv (aZ (lks s).1) (PR n kb (lks s).2 w)) := by
  refine Sp.of (plainFor_of_name (by decide)) (Nat.le_of_ble_eq_true rfl) (fun Γ hΓ hR => ?_)
  show Γ 0 [aR kb, none, none, none] [] (0, 0) n w
  obtain ⟨w0, hw0⟩ : ∃ X, X = w ∧ ∀ w2, Fr kb 7 X w2 → Fr kb 7 w w2 := ⟨w, rfl, fun _ h => h⟩
  obtain ⟨hww, hw0⟩ := hw0
  have hF0 : Fr kb 7 w0 w := hww ▸ Fr.rf
  have h8 := hW.2.1
  have hon := on_lt hW
  refine qa_aload_n hΓ dX0_lookAtCoils_0 rfl ?_
  refine qc_V1 hΓ dX0_lookAtCoils_1 lk_X0_114 vw_X0_failing (by omega) (c_X0_failing l (d - 1) (by omega) hB hR0 hW hBd) rfl hB.lt hB.o rfl rfl (Nat.le_of_ble_eq_true rfl) ?_
  refine qa_istore_n hΓ dX0_lookAtCoils_4 (by decide) ?_
  refine qa_iconst (v := nI 0) hΓ dX0_lookAtCoils_5 ic_0 ?_
  refine qa_istore_n hΓ dX0_lookAtCoils_6 (by decide) ?_
  refine qa_iconst (v := nI 0) hΓ dX0_lookAtCoils_7 ic_0 ?_
  refine qa_istore_n hΓ dX0_lookAtCoils_8 (by decide) ?_
  have loop : ∀ (m r : Nat) (w1 : Nat → AC) (b1 : Bk), r ≤ s 1 → s 1 < r + m → BkAt n w1 kb b1 → Fr kb 7 w0 w1 → RepC (lk (onS s) s r).2 b1 → SeC (lk (onS s) s r).2 → Γ 9 [aR kb, aZ (Fn (onS s)), aZ (lk (onS s) s r).1, aZ r] [] (0, 0) n w1 := by
    intro m
    induction m with
    | zero => intro r w b h1 h2; exact absurd h2 (by omega)
    | succ m ih =>
      intro r w b hr0 hm hB hF0 hR0 hS
      have hW1 := Wt.lk (onS s) hW r hr0
      have e1 : (lk (onS s) s r).2 1 = s 1 := lk_hd _ _ (by decide) _
      have e60 : b 6 0 = s 1 := hR0.1.1.trans e1
      refine qa_iload_n hΓ dX0_lookAtCoils_9 rfl ?_
      refine qa_aload_n hΓ dX0_lookAtCoils_10 rfl ?_
      refine qa_get hΓ dX0_lookAtCoils_11 fk_X0_37 hB.lt hB.o rfl ?_
      refine qz_icmp_ge (tgt := 48) hΓ dX0_lookAtCoils_14 (by decide) (by omega) (by omega) (fun h_14 => ?_) (fun h_14 => ?_)
      · refine qa_iload_n hΓ dX0_lookAtCoils_48 rfl ?_
        have er : r = s 1 := by omega
        subst er
        exact qr_i hR dX0_lookAtCoils_49 ⟨rfl, b, hB, hw0 _ hF0, hR0, hS⟩
      · refine qa_aload_n hΓ dX0_lookAtCoils_17 rfl ?_
        refine qa_iload_n hΓ dX0_lookAtCoils_18 rfl ?_
        refine qa_iload_n hΓ dX0_lookAtCoils_19 rfl ?_
        refine qc_V1 hΓ dX0_lookAtCoils_20 lk_X0_117 vw_X0_conducts (by omega) (c_X0_conducts l (d - 1) (by omega) hB hR0 hW1 hBd r (onS s) (by omega) hon) rfl hB.lt hB.o rfl rfl (Nat.le_of_ble_eq_true rfl) ?_
        have hc1 : (cnd (lk (onS s) s r).2 r (onS s)).toNat ≤ 1 := Bool.toNat_le _
        have hf1 := hW1.c1 (show r < (lk (onS s) s r).2 1 by omega) (x := 4) (by omega)
        have h63 := pm_lt hW1 hR0.2.2.1.1
        refine qa_aload_n hΓ dX0_lookAtCoils_23 rfl ?_
        refine qa_get hΓ dX0_lookAtCoils_24 fk_X0_47 hB.lt hB.o rfl ?_
        refine qa_iload_n hΓ dX0_lookAtCoils_27 rfl ?_
        refine qc_N1 hΓ dX0_lookAtCoils_28 nk_X0_106 vw_X5_isIn (by omega) (c_X5_isIn l (d - 1) _ _ (by omega) (by omega)) rfl rfl (Nat.le_of_ble_eq_true rfl) ?_
        rw [pbit hW1 (show r < (lk (onS s) s r).2 1 by omega) (by omega) hR0.2.2.1.1]
        refine qz_icmp_eq (tgt := 42) hΓ dX0_lookAtCoils_31 (by decide) (by omega) (by omega) (fun h_31 => ?_) (fun h_31 => ?_)
        · refine qz_iinc hΓ dX0_lookAtCoils_42 ii_1 rfl (by decide) ?_
          refine qa_goto (tgt := 9) hΓ dX0_lookAtCoils_45 (by decide) ?_
          have e9 : lk (onS s) s (r + 1) = lk (onS s) s r := by
            show (if _ then _ else _) = _
            rw [if_pos h_31]
          have h9 := ih (r + 1) w b (by omega) (by omega) hB hF0 (by rw [e9]; exact hR0) (by rw [e9]; exact hS)
          rw [e9] at h9
          exact h9
        · refine qa_aload_n hΓ dX0_lookAtCoils_34 rfl ?_
          refine qa_iload_n hΓ dX0_lookAtCoils_35 rfl ?_
          refine qc_V0q hΓ dX0_lookAtCoils_36 lk_X0_120 vw_X0_turnCoil (by omega) (c_X0_turnCoil l (d - 1) (by omega) hB hR0 hW1 hBd hS r (by omega)) rfl hB.lt hB.o rfl rfl (Nat.le_of_ble_eq_true rfl) (fun w hq => ?_)
          obtain ⟨b', hB, hF, hR2⟩ := hq
          have hF0 := hF0.tr hF
          refine qz_iinc hΓ dX0_lookAtCoils_39 ii_1 rfl (by decide) ?_
          refine qz_iinc hΓ dX0_lookAtCoils_42 ii_1 rfl (by decide) ?_
          refine qa_goto (tgt := 9) hΓ dX0_lookAtCoils_45 (by decide) ?_
          have ei : 1 - vv (lk (onS s) s r).2 r 4 = (cnd (lk (onS s) s r).2 r (onS s)).toNat := by omega
          have e9 : lk (onS s) s (r + 1) = ((lk (onS s) s r).1 + 1, lkT (1 - vv (lk (onS s) s r).2 r 4) (lk (onS s) s r).2 r) := by
            show (if _ then _ else _) = _
            rw [if_neg h_31, ei]
          have h9 := ih (r + 1) w b' (by omega) (by omega) hB hF0 (by rw [e9]; exact hR2) (by rw [e9]; exact hS.turn hW1 (by omega) rfl)
          rw [e9] at h9
          exact h9
  exact loop (s 1 + 1) 0 w b (Nat.zero_le _) (by omega) hB hF0 hR0 hS
