/-! The class: the coils -/
theorem BkAt.setE {n kb i j x : Nat} {w : Nat → AC} {b : Bk} (h : BkAt n w kb (bset b i j x)) : ∃ b', BkAt n w kb b' ∧ b' = bset b i j x := ⟨_, h, rfl⟩
theorem lkT_4 (is : Nat) (t : Nat → Nat) (r : Nat) : vv (lkT is t r) r 4 = is := by
  unfold lkT
  rw [vv_oth _ _ _ _ _ _ (by decide) (by decide) (by omega), vv_oth _ _ _ _ _ _ (by decide) (by decide) (by omega), vv_same]
theorem lkT_8 (is : Nat) (t : Nat → Nat) (r : Nat) : vv (lkT is t r) r 8 = if vv t r 3 ≠ is then 2 - is else if vv t r 8 = 1 + is then 0 else vv t r 8 := by
  unfold lkT
  rw [vv_oth _ _ _ _ _ _ (by decide) (by decide) (by omega), vv_same]
theorem lkT_9 (is : Nat) (t : Nat → Nat) (r : Nat) : vv (lkT is t r) r 9 = if vv t r 3 ≠ is then t 2 + vv t r (if is = 1 then 0 else 1) else vv t r 9 := by
  unfold lkT
  rw [vv_same]
def dueT (t : Nat → Nat) (is r : Nat) : Nat := if vv t r 3 ≠ is then t 2 + vv t r (if is = 1 then 0 else 1) else NV
theorem SeC.turn {t : Nat → Nat} {B r is : Nat} (hS : SeC t) (hW : Wt t B) (hr : r < t 1) (hi : is = 1 - vv t r 4) : SeC (lkT is t r) := by
  intro q hq
  rw [lkT_hd _ _ _ (by decide)] at hq
  obtain ⟨h1, h2⟩ := hS q hq
  refine ⟨fun h => ?_, ?_⟩
  · by_cases e : q = r
    · subst e
      rw [lkT_8] at h ⊢
      rw [lkT_4, lkT_oth _ _ _ (x := 3) (by decide) (by omega)]
      have h4 := hW.c1 hr (x := 4) (by omega)
      by_cases e3 : vv t q 3 ≠ is
      · rw [if_pos e3]
        exact ⟨rfl, e3⟩
      · rw [if_neg e3] at h
        exfalso
        by_cases e8 : vv t q 8 = 0
        · rw [e8] at h
          split at h <;> exact h rfl
        · have := (h1 e8).1
          rw [if_pos (by omega)] at h
          exact h rfl
    · rw [lkT_oth _ _ _ (by decide) (by omega)] at h
      rw [lkT_oth _ _ _ (by decide) (by omega), lkT_oth _ _ _ (by decide) (by omega), lkT_oth _ _ _ (by decide) (by omega)]
      exact h1 h
  · rw [lkT_oth _ _ _ (by decide) (by omega), lkT_oth _ _ _ (by decide) (by omega)]
    exact h2
theorem RepC.turn {t : Nat → Nat} {b : Bk} {B r is : Nat} (h : RepC t b) (hS : SeC t) (hW : Wt t B) (hr : r < t 1) (hi : is = 1 - vv t r 4) : RepC (lkT is t r) (bset (bset b 6 3 (b 6 3 ^^^ 1 <<< r)) 5 (2 * r) (dueT t is r)) := by
  obtain ⟨⟨h1, h2, h3⟩, h4, ⟨e3, e4, e5, e6, e7, e8⟩, hd, hz⟩ := h
  have hh : ∀ j, j < 3 → lkT is t r j = t j := fun j hj => lkT_hd _ _ _ hj
  have b6 : ∀ j, j ≠ 3 → bset (bset b 6 3 (b 6 3 ^^^ 1 <<< r)) 5 (2 * r) (dueT t is r) 6 j = b 6 j := fun j hj => by rw [bset_ne _ _ _ (by decide), bset_eq, upN_ne _ _ _ hj]
  have bi : ∀ i, i < 5 → bset (bset b 6 3 (b 6 3 ^^^ 1 <<< r)) 5 (2 * r) (dueT t is r) i = b i := fun i hi => by rw [bset_ne _ _ _ (by omega), bset_ne _ _ _ (by omega)]
  have b5 : ∀ j, bset (bset b 6 3 (b 6 3 ^^^ 1 <<< r)) 5 (2 * r) (dueT t is r) 5 j = if j = 2 * r then dueT t is r else b 5 j := fun j => by
    rw [bset_eq, bset_ne _ _ _ (by decide)]
    by_cases e : j = 2 * r
    · rw [if_pos e, e, upN_self]
    · rw [if_neg e, upN_ne _ _ _ e]
  have pe : ∀ x v, x < 25 → (x ≠ 4 ∧ x ≠ 8 ∧ x ≠ 9) → pM (lkT is t r) x v = pM t x v := fun x v hx hc => by
    funext q
    unfold pM
    rw [lkT_oth _ _ _ hx (Or.inr hc)]
  refine ⟨⟨?_, ?_, ?_⟩, fun q hq => ?_, ⟨?_, ?_, ?_, ?_, ?_, ?_⟩, fun q hq => ?_, fun q hq1 hq2 => ?_⟩
  · rw [b6 0 (by decide), hh 1 (by decide)]; exact h1
  · rw [b6 1 (by decide), hh 2 (by decide)]; exact h2
  · rw [b6 2 (by decide), hh 0 (by decide)]; exact h3
  · rw [hh 1 (by decide)] at hq
    obtain ⟨g1, g2, g3, g4, g5⟩ := h4 q hq
    refine ⟨?_, ?_, ?_, ?_, fun j hj => ?_⟩
    · rw [bi 0 (by decide), lkT_oth _ _ _ (by decide) (by omega)]; exact g1
    · rw [bi 1 (by decide), lkT_oth _ _ _ (by decide) (by omega)]; exact g2
    · rw [bi 2 (by decide), lkT_oth _ _ _ (by decide) (by omega)]; exact g3
    · rw [bi 3 (by decide), lkT_oth _ _ _ (by decide) (by omega)]; exact g4
    · rw [lkT_oth _ _ _ (by decide) (by omega)] at hj
      have h6 := hW.m6 hq
      rw [bi 4 (by decide), lkT_oth _ _ _ (by omega) (by omega), lkT_oth _ _ _ (by omega) (by omega)]
      exact g5 j hj
  · rw [bset_ne _ _ _ (by decide), bset_eq, upN_self, e3, hh 1 (by decide)]
    refine mk_xor hr (fun q hq => ?_)
    have h4q := hW.c1 hq (x := 4) (by omega)
    unfold pM
    by_cases e : q = r
    · subst e
      rw [if_pos rfl, lkT_4, hi]
      rcases (show vv t q 4 = 0 ∨ vv t q 4 = 1 by omega) with u | u <;> rw [u] <;> decide
    · rw [if_neg e, lkT_oth _ _ _ (by decide) (by omega)]
  · rw [b6 4 (by decide), hh 1 (by decide), pe 3 1 (by decide) (by decide)]; exact e4
  · rw [b6 5 (by decide), hh 1 (by decide), pe 5 1 (by decide) (by decide)]; exact e5
  · rw [b6 6 (by decide), hh 1 (by decide), pe 7 1 (by decide) (by decide)]; exact e6
  · rw [b6 7 (by decide), hh 1 (by decide), pe 6 1 (by decide) (by decide)]; exact e7
  · rw [b6 8 (by decide), hh 1 (by decide), pe 6 2 (by decide) (by decide)]; exact e8
  · rw [hh 1 (by decide)] at hq
    obtain ⟨d1, d2⟩ := hd q hq
    have h4q := hW.c1 hq (x := 4) (by omega)
    refine ⟨?_, ?_⟩
    · rw [b5]
      unfold duA
      by_cases e : q = r
      · subst e
        rw [if_pos rfl, lkT_8, lkT_9]
        unfold dueT
        by_cases e3 : vv t q 3 ≠ is
        · rw [if_pos e3, if_pos e3, if_pos e3]
          exact (if_neg (show ¬ 2 - is = 0 by omega)).symm
        · rw [if_neg e3, if_neg e3]
          rw [if_pos ?_]
          by_cases e8 : vv t q 8 = 0
          · rw [e8]
            split <;> rfl
          · have := ((hS q hq).1 e8).1
            rw [if_pos (by omega)]
      · rw [if_neg (by omega), lkT_oth _ _ _ (by decide) (by omega), lkT_oth _ _ _ (by decide) (by omega)]
        exact d1
    · rw [b5, if_neg (by omega)]
      unfold duE
      rw [lkT_oth _ _ _ (by decide) (by omega), lkT_oth _ _ _ (by decide) (by omega)]
      exact d2
  · rw [hh 1 (by decide)] at hq1
    rw [bi 3 (by decide), b5, b5, if_neg (by omega), if_neg (by omega)]
    exact hz q hq1 hq2
theorem PBr {n kb : Nat} {b : Bk} {w w' : Nat → AC} (h : PB n kb b w w') : BkAt n w' kb b ∧ Fr kb 7 w w' := h

set_option maxRecDepth 100000 in
set_option maxHeartbeats 4000000 in
theorem c_X0_turnCoil (l : Launch) (d : Nat) (hd : 1 ≤ d) {n kb : Nat} {w : Nat → AC} {b : Bk} (hB : BkAt n w kb b) {s : Nat → Nat} (hR0 : RepC s b) {B : Nat} (hW : Wt s B) (hBd : B < 900000000) (hS : SeC s) (r : Nat) (hr : r < s 1) : Sq l yX0_turnCoil cX0_turnCoil 3 none d [aR kb, aZ r] n w (Qn (fun w' => ∃ b', BkAt n w' kb b' ∧ Fr kb 7 w w' ∧ RepC (lkT (1 - vv s r 4) s r) b')) := by
  refine Sp.of (plainFor_of_name (by decide)) (Nat.le_of_ble_eq_true rfl) (fun Γ hΓ hR => ?_)
  show Γ 0 [aR kb, aZ r, none] [] (0, 0) n w
  have hb8 := hW.2.1
  have h84 : b 6 3 = mk (pM s 4 1) (s 1) := hR0.2.2.1.1
  have h83 : b 6 4 = mk (pM s 3 1) (s 1) := hR0.2.2.1.2.1
  have h4c := hW.c1 hr (x := 4) (by omega)
  have h3c := hW.c1 hr (x := 3) (by omega)
  have hF0 : Fr kb 7 w w := Fr.rf
  have hl1 : b 6 3 ^^^ 1 <<< r < 65536 := Nat.xor_lt_two_pow (n := 16) (by rw [h84]; exact mk_16' _ hb8) (by rw [Nat.one_shiftLeft]; exact Nat.pow_lt_pow_right (by decide) (by omega))
  have hl2 : b 6 4 < 65536 := by rw [h83]; exact mk_16' _ hb8
  have hl3 : b 6 3 ^^^ 1 <<< r ^^^ b 6 4 < 65536 := Nat.xor_lt_two_pow (n := 16) hl1 hl2
  have hfb : (b 6 3 ^^^ 1 <<< r).testBit r = decide (1 - vv s r 4 = 1) := by
    rw [Nat.testBit_xor, sh1_bit, h84, mk_bit]
    unfold pM
    rcases (show vv s r 4 = 0 ∨ vv s r 4 = 1 by omega) with u | u <;> simp [u, hr]
  have hxb : (b 6 3 ^^^ 1 <<< r ^^^ b 6 4).testBit r = decide (vv s r 3 ≠ 1 - vv s r 4) := by
    rw [Nat.testBit_xor, hfb, h83, mk_bit]
    unfold pM
    rcases (show vv s r 4 = 0 ∨ vv s r 4 = 1 by omega) with u | u <;> rcases (show vv s r 3 = 0 ∨ vv s r 3 = 1 by omega) with u3 | u3 <;> simp [u, u3, hr]
  refine qa_aload_n hΓ dX0_turnCoil_0 rfl ?_
  refine qa_dup hΓ dX0_turnCoil_1 ?_
  refine qa_get hΓ dX0_turnCoil_2 fk_X0_47 hB.lt hB.o rfl ?_
  refine qa_iconst (v := nI 1) hΓ dX0_turnCoil_5 ic_1 ?_
  refine qa_iload_n hΓ dX0_turnCoil_6 rfl ?_
  refine qz_ishl hΓ dX0_turnCoil_7 (by omega) ?_
  refine qz_ixor hΓ dX0_turnCoil_8 ?_
  refine qB_put hΓ 3 dX0_turnCoil_9 fk_X0_47 (by decide) hB (fun w hB hF => ?_)
  have hF0 := hF0.tr hF
  obtain ⟨b1, hB, hb1⟩ := BkAt.setE hB
  have h63 : b1 6 3 = b 6 3 ^^^ 1 <<< r := by rw [hb1, bset_eq, upN_self]
  have h64 : b1 6 4 = b 6 4 := by rw [hb1, bset_eq, upN_ne _ _ _ (by decide)]
  have h61 : b1 6 1 = b 6 1 := by rw [hb1, bset_eq, upN_ne _ _ _ (by decide)]
  have h0 : b1 0 = b 0 := by rw [hb1, bset_ne _ _ _ (by decide)]
  have h1 : b1 1 = b 1 := by rw [hb1, bset_ne _ _ _ (by decide)]
  refine qa_ldc (v := nI 2147483647) hΓ dX0_turnCoil_12 ck_X0_30 ?_
  refine qa_istore_n hΓ dX0_turnCoil_14 (by decide) ?_
  refine qa_aload_n hΓ dX0_turnCoil_15 rfl ?_
  refine qa_get hΓ dX0_turnCoil_16 fk_X0_47 hB.lt hB.o rfl ?_
  refine qa_aload_n hΓ dX0_turnCoil_19 rfl ?_
  refine qa_get hΓ dX0_turnCoil_20 fk_X0_50 hB.lt hB.o rfl ?_
  refine qz_ixor hΓ dX0_turnCoil_23 ?_
  refine qa_iload_n hΓ dX0_turnCoil_24 rfl ?_
  refine qc_N1 hΓ dX0_turnCoil_25 nk_X0_106 vw_X5_isIn (by omega) (c_X5_isIn l (d - 1) _ _ (by rw [h63, h64]; omega) (by omega)) rfl rfl (Nat.le_of_ble_eq_true rfl) ?_
  refine qb_if_eq (tgt := 63) hΓ dX0_turnCoil_28 (by decide) (fun h_28 => ?_) (fun h_28 => ?_)
  · refine qa_aload_n hΓ dX0_turnCoil_63 rfl ?_
    refine qa_get hΓ dX0_turnCoil_64 fk_X0_27 hB.lt hB.o rfl ?_
    refine qa_iconst (v := nI 2) hΓ dX0_turnCoil_67 ic_2 ?_
    refine qa_iload_n hΓ dX0_turnCoil_68 rfl ?_
    refine qz_imul hΓ dX0_turnCoil_69 ?_
    refine qa_iload_n hΓ dX0_turnCoil_70 rfl ?_
    refine qc_N0q hΓ dX0_turnCoil_71 nk_X0_77 vw_X5_put (by omega) (c_X5_putB l (d - 1) hB 5 (2 * r) _ (by decide) (by show _ < 16; omega)) rfl rfl (Nat.le_of_ble_eq_true rfl) (fun w hq => ?_)
    obtain ⟨hB, hF⟩ := hq
    have hF0 := hF0.tr hF
    have h9 := hR0.turn hS hW hr rfl
    have e : dueT s (1 - vv s r 4) r = NV := by
      unfold dueT
      rw [if_neg (fun q => by rw [h63, h64, hxb] at h_28; exact of_decide_eq_false h_28 q)]
    rw [e, ← hb1] at h9
    exact qr_v hR dX0_turnCoil_74 ⟨rfl, _, hB, hF0, h9⟩
  · refine qa_aload_n hΓ dX0_turnCoil_31 rfl ?_
    refine qa_get hΓ dX0_turnCoil_32 fk_X0_41 hB.lt hB.o rfl ?_
    refine qa_aload_n hΓ dX0_turnCoil_35 rfl ?_
    refine qa_get hΓ dX0_turnCoil_36 fk_X0_47 hB.lt hB.o rfl ?_
    refine qa_iload_n hΓ dX0_turnCoil_39 rfl ?_
    refine qc_N1 hΓ dX0_turnCoil_40 nk_X0_106 vw_X5_isIn (by omega) (c_X5_isIn l (d - 1) _ _ (by rw [h63]; omega) (by omega)) rfl rfl (Nat.le_of_ble_eq_true rfl) ?_
    refine qb_if_eq (tgt := 53) hΓ dX0_turnCoil_43 (by decide) (fun h_43 => ?_) (fun h_43 => ?_)
    · refine qa_aload_n hΓ dX0_turnCoil_53 rfl ?_
      refine qa_get hΓ dX0_turnCoil_54 fk_X0_15 hB.lt hB.o rfl ?_
      refine qa_iload_n hΓ dX0_turnCoil_57 rfl ?_
      refine qc_N1 hΓ dX0_turnCoil_58 nk_X0_73 vw_X5_at (by omega) (c_X5_at l (d - 1) (hB.lti (i := 2) (by decide)) hB.a1 _ (by omega) (by decide)) rfl rfl (Nat.le_of_ble_eq_true rfl) ?_
      refine qz_iadd hΓ dX0_turnCoil_61 ?_
      refine qa_istore_n hΓ dX0_turnCoil_62 (by decide) ?_
      refine qa_aload_n hΓ dX0_turnCoil_63 rfl ?_
      refine qa_get hΓ dX0_turnCoil_64 fk_X0_27 hB.lt hB.o rfl ?_
      refine qa_iconst (v := nI 2) hΓ dX0_turnCoil_67 ic_2 ?_
      refine qa_iload_n hΓ dX0_turnCoil_68 rfl ?_
      refine qz_imul hΓ dX0_turnCoil_69 ?_
      refine qa_iload_n hΓ dX0_turnCoil_70 rfl ?_
      refine qc_N0q hΓ dX0_turnCoil_71 nk_X0_77 vw_X5_put (by omega) (c_X5_putB l (d - 1) hB 5 (2 * r) _ (by decide) (by show _ < 16; omega)) rfl rfl (Nat.le_of_ble_eq_true rfl) (fun w hq => ?_)
      obtain ⟨hB, hF⟩ := hq
      have hF0 := hF0.tr hF
      have h9 := hR0.turn hS hW hr rfl
      have e : dueT s (1 - vv s r 4) r = b1 6 1 + b1 1 r := by
        unfold dueT
        rw [if_pos (by rw [h63, h64, hxb] at h_28; exact of_decide_eq_true h_28), if_neg (by rw [h63, hfb] at h_43; exact of_decide_eq_false h_43), h61, h1, hR0.1.2.1, (hR0.2.1 r hr).2.1]
      rw [e, ← hb1] at h9
      exact qr_v hR dX0_turnCoil_74 ⟨rfl, _, hB, hF0, h9⟩
    · refine qa_aload_n hΓ dX0_turnCoil_46 rfl ?_
      refine qa_get hΓ dX0_turnCoil_47 fk_X0_9 hB.lt hB.o rfl ?_
      refine qa_goto (tgt := 57) hΓ dX0_turnCoil_50 (by decide) ?_
      refine qa_iload_n hΓ dX0_turnCoil_57 rfl ?_
      refine qc_N1 hΓ dX0_turnCoil_58 nk_X0_73 vw_X5_at (by omega) (c_X5_at l (d - 1) (hB.lti (i := 1) (by decide)) hB.a0 _ (by omega) (by decide)) rfl rfl (Nat.le_of_ble_eq_true rfl) ?_
      refine qz_iadd hΓ dX0_turnCoil_61 ?_
      refine qa_istore_n hΓ dX0_turnCoil_62 (by decide) ?_
      refine qa_aload_n hΓ dX0_turnCoil_63 rfl ?_
      refine qa_get hΓ dX0_turnCoil_64 fk_X0_27 hB.lt hB.o rfl ?_
      refine qa_iconst (v := nI 2) hΓ dX0_turnCoil_67 ic_2 ?_
      refine qa_iload_n hΓ dX0_turnCoil_68 rfl ?_
      refine qz_imul hΓ dX0_turnCoil_69 ?_
      refine qa_iload_n hΓ dX0_turnCoil_70 rfl ?_
      refine qc_N0q hΓ dX0_turnCoil_71 nk_X0_77 vw_X5_put (by omega) (c_X5_putB l (d - 1) hB 5 (2 * r) _ (by decide) (by show _ < 16; omega)) rfl rfl (Nat.le_of_ble_eq_true rfl) (fun w hq => ?_)
      obtain ⟨hB, hF⟩ := hq
      have hF0 := hF0.tr hF
      have h9 := hR0.turn hS hW hr rfl
      have e : dueT s (1 - vv s r 4) r = b1 6 1 + b1 0 r := by
        unfold dueT
        rw [if_pos (by rw [h63, h64, hxb] at h_28; exact of_decide_eq_true h_28), if_pos (by rw [h63, hfb] at h_43; exact of_decide_eq_true h_43), h61, h0, hR0.1.2.1, (hR0.2.1 r hr).1]
      rw [e, ← hb1] at h9
      exact qr_v hR dX0_turnCoil_74 ⟨rfl, _, hB, hF0, h9⟩
