/-! The class: conditions set, branches removed -/
theorem bset_bset (b : Bk) (i j x y : Nat) : bset (bset b i j x) i j y = bset b i j y := by
  funext a q
  by_cases e : a = i
  · subst e
    rw [bset_eq, bset_eq, bset_eq]
    by_cases e2 : q = j
    · rw [e2, upN_self, upN_self]
    · rw [upN_ne _ _ _ e2, upN_ne _ _ _ e2, upN_ne _ _ _ e2]
  · rw [bset_ne _ _ _ e, bset_ne _ _ _ e, bset_ne _ _ _ e]
theorem cnS_v (s : Nat → Nat) (r j x how q y : Nat) (hj : j < 6) (hy : y < 25) : vv (cnS s r j x how) q y = if q = r ∧ y = 13 + 2 * j + 1 then (if how = 2 then clr (vv s r (13 + 2 * j + 1)) x ||| 1 <<< x else clr (vv s r (13 + 2 * j + 1)) x) else if q = r ∧ y = 13 + 2 * j then (if how = 1 then clr (vv s r (13 + 2 * j)) x ||| 1 <<< x else clr (vv s r (13 + 2 * j)) x) else vv s q y := by
  unfold cnS
  rw [vv_up _ _ _ _ _ _ (by omega) hy, vv_up _ _ _ _ _ _ (by omega) hy]
theorem cnS_hd (s : Nat → Nat) (r j x how : Nat) {i : Nat} (hi : i < 3) : cnS s r j x how i = s i := by
  unfold cnS
  rw [hd_up _ _ _ _ hi, hd_up _ _ _ _ hi]
theorem opS_v (s : Nat → Nat) (r q y : Nat) (hk : vv s r 12 < 6) (hy : y < 25) : vv (opS s r) q y = if q = r ∧ y = 12 then vv s r 12 + 1 else if q = r ∧ y = 13 + 2 * vv s r 12 + 1 then 0 else if q = r ∧ y = 13 + 2 * vv s r 12 then 0 else vv s q y := by
  unfold opS
  rw [vv_up _ _ _ _ _ _ (by decide) hy, vv_up _ _ _ _ _ _ (by omega) hy, vv_up _ _ _ _ _ _ (by omega) hy]
theorem opS_hd (s : Nat → Nat) (r : Nat) {i : Nat} (hi : i < 3) : opS s r i = s i := by
  unfold opS
  rw [hd_up _ _ _ _ hi, hd_up _ _ _ _ hi, hd_up _ _ _ _ hi]
theorem RepC.cn {s : Nat → Nat} {b : Bk} {B r j x how : Nat} (h : RepC s b) (hW : Wt s B) (hr : r < s 1) (hj : j < vv s r 12) : RepC (cnS s r j x how) (bset b 4 (r * 6 + j) (wi (b 4 (r * 6 + j)) x how)) := by
  have h6 := hW.m6 hr
  have hv := fun q y hy => cnS_v s r j x how q y (by omega) hy
  have hp := hW.m16 hr (x := 13 + 2 * j) (by omega) (by omega)
  have e12 : vv (cnS s r j x how) r 12 = vv s r 12 := by rw [hv r 12 (by decide), if_neg (by omega), if_neg (by omega)]
  refine h.brs hr (fun q hq => hW.m6 hq) (fun i hi => cnS_hd s r j x how hi) (fun q y hy hc => by rw [hv q y hy, if_neg (by omega), if_neg (by omega)]) (fun i h3 h4 => bset_ne _ _ _ h4) (fun q => ?_) (fun q i hq hi => by rw [set4, if_neg (by omega)]) (fun i hi => ?_)
  · rw [bset_ne _ _ _ (by decide), e12]
    by_cases e : q = r
    · rw [if_pos e, e]; exact (h.2.1 r hr).2.2.2.1
    · rw [if_neg e]
  · rw [e12] at hi
    rw [set4]
    by_cases e : i = j
    · subst e
      have a1 : vv (cnS s r i x how) r (13 + 2 * i) = if how = 1 then clr (vv s r (13 + 2 * i)) x ||| 1 <<< x else clr (vv s r (13 + 2 * i)) x := by rw [hv r _ (by omega), if_neg (by omega), if_pos ⟨rfl, rfl⟩]
      have a2 : vv (cnS s r i x how) r (13 + 2 * i + 1) = if how = 2 then clr (vv s r (13 + 2 * i + 1)) x ||| 1 <<< x else clr (vv s r (13 + 2 * i + 1)) x := by rw [hv r _ (by omega), if_pos ⟨rfl, rfl⟩]
      rw [if_pos rfl, a1, a2, (h.2.1 r hr).2.2.2.2 i hi]
      unfold wi
      rw [cmb_lo hp, cmb_hi hp]
    · have a1 : vv (cnS s r j x how) r (13 + 2 * i) = vv s r (13 + 2 * i) := by rw [hv r _ (by omega), if_neg (by omega), if_neg (by omega)]
      have a2 : vv (cnS s r j x how) r (13 + 2 * i + 1) = vv s r (13 + 2 * i + 1) := by rw [hv r _ (by omega), if_neg (by omega), if_neg (by omega)]
      rw [if_neg (by omega), a1, a2]
      exact (h.2.1 r hr).2.2.2.2 i hi
theorem RepC.op {s : Nat → Nat} {b : Bk} {B r : Nat} (h : RepC s b) (hW : Wt s B) (hr : r < s 1) (hk : vv s r 12 < 6) : RepC (opS s r) (bset (bset b 3 r (vv s r 12 + 1)) 4 (r * 6 + vv s r 12) 0) := by
  have hv := fun q y hy => opS_v s r q y hk hy
  have e12 : vv (opS s r) r 12 = vv s r 12 + 1 := by rw [hv r 12 (by decide), if_pos ⟨rfl, rfl⟩]
  refine h.brs hr (fun q hq => hW.m6 hq) (fun i hi => opS_hd s r hi) (fun q y hy hc => by rw [hv q y hy, if_neg (by omega), if_neg (by omega), if_neg (by omega)]) (fun i h3 h4 => by rw [bset_ne _ _ _ h4, bset_ne _ _ _ h3]) (fun q => by rw [bset_ne _ _ _ (by decide), set3, e12]) (fun q i hq hi => by rw [set4, if_neg (by omega), bset_ne _ _ _ (by decide)]) (fun i hi => ?_)
  rw [e12] at hi
  rw [set4]
  by_cases e : i = vv s r 12
  · have a1 : vv (opS s r) r (13 + 2 * i) = 0 := by rw [hv r _ (by omega), if_neg (by omega), if_neg (by omega), if_pos (by omega)]
    have a2 : vv (opS s r) r (13 + 2 * i + 1) = 0 := by rw [hv r _ (by omega), if_neg (by omega), if_pos (by omega)]
    rw [if_pos (by omega), a1, a2]
    rfl
  · have a1 : vv (opS s r) r (13 + 2 * i) = vv s r (13 + 2 * i) := by rw [hv r _ (by omega), if_neg (by omega), if_neg (by omega), if_neg (by omega)]
    have a2 : vv (opS s r) r (13 + 2 * i + 1) = vv s r (13 + 2 * i + 1) := by rw [hv r _ (by omega), if_neg (by omega), if_neg (by omega), if_neg (by omega)]
    rw [if_neg (by omega), a1, a2, bset_ne _ _ _ (by decide)]
    exact (h.2.1 r hr).2.2.2.2 i (by omega)
theorem SeC.cn {s : Nat → Nat} {r j x how : Nat} (h : SeC s) (hj : j < 6) : SeC (cnS s r j x how) := h.lo (cnS_hd s r j x how (by decide)) (fun q y hy => by rw [cnS_v s r j x how q y hj (by omega), if_neg (by omega), if_neg (by omega)])
theorem SeC.op {s : Nat → Nat} {r : Nat} (h : SeC s) (hk : vv s r 12 < 6) : SeC (opS s r) := h.lo (opS_hd s r (by decide)) (fun q y hy => by rw [opS_v s r q y hk (by omega), if_neg (by omega), if_neg (by omega), if_neg (by omega)])
def rmV (s : Nat → Nat) (r br q y : Nat) : Nat := if q = r ∧ 13 + 2 * br ≤ y ∧ y < 13 + 2 * (vv s r 12 - 1) then vv s r (y + 2) else if q = r ∧ y = 12 then vv s r 12 - 1 else vv s q y
theorem rmS_v (s : Nat → Nat) (r br q y : Nat) (hk : vv s r 12 ≤ 6) (hy : y < 25) : vv (rmS s r br) q y = rmV s r br q y := by
  unfold rmS rmV
  by_cases h : q = r ∧ 13 + 2 * br ≤ y ∧ y < 13 + 2 * (vv s r 12 - 1)
  · rw [if_pos h]
    unfold vv at h ⊢
    unfold shS
    rw [if_pos (by omega), upN_ne _ _ _ (by unfold ix; omega), h.1, show 3 + 25 * r + y + 2 = 3 + 25 * r + (y + 2) by omega]
  · rw [if_neg h]
    have e : vv (shS (upN s (ix r 12) (vv s r 12 - 1)) r (13 + 2 * br) (13 + 2 * (vv s r 12 - 1))) q y = vv (upN s (ix r 12) (vv s r 12 - 1)) q y := by
      show shS _ _ _ _ (3 + 25 * q + y) = _
      unfold shS
      rw [if_neg (by omega)]
      rfl
    rw [e, vv_up _ _ _ _ _ _ (by decide) hy]
theorem rmS_hd (s : Nat → Nat) (r br : Nat) {i : Nat} (hi : i < 3) : rmS s r br i = s i := by
  unfold rmS shS
  rw [if_neg (by omega), hd_up _ _ _ _ hi]
set_option maxRecDepth 100000 in
set_option maxHeartbeats 4000000 in
theorem c_X0_putCondition (l : Launch) (d : Nat) (hd : 3 ≤ d) {n kb : Nat} {w : Nat → AC} {b : Bk} (hB : BkAt n w kb b) {s : Nat → Nat} (hR0 : RepC s b) {B : Nat} (hW : Wt s B) (hBd : B < 900000000) (hS : SeC s) (r j x how : Nat) (hr : r < s 1) (hjk : j ≤ vv s r 12) (hj6 : j < 6) (hx : x < 16) (hh : how < 3) : Sq l yX0_putCondition cX0_putCondition 7 (some .int) d [aR kb, aZ r, aZ j, aZ x, aZ how] n w (Qv (aZ (how3 (scS s r j) r j x)) (PR n kb (lks (cnS (scS s r j) r j x how)).2 w)) := by
  refine Sp.of (plainFor_of_name (by decide)) (Nat.le_of_ble_eq_true rfl) (fun Γ hΓ hR => ?_)
  show Γ 0 [aR kb, aZ r, aZ j, aZ x, aZ how, none, none] [] (0, 0) n w
  have h6 := hW.m6 hr
  have hF0 : Fr kb 7 w w := Fr.rf
  have h8 := hW.2.1
  have e3 : b 3 r = vv s r 12 := (hR0.2.1 r hr).2.2.2.1
  refine qa_iload_n hΓ dX0_putCondition_0 rfl ?_
  refine qa_aload_n hΓ dX0_putCondition_1 rfl ?_
  refine qa_iload_n hΓ dX0_putCondition_2 rfl ?_
  refine qc_V1 hΓ dX0_putCondition_3 lk_X0_81 vw_X0_branchesOf (by omega) (c_X0_branchesOf l (d - 1) (by omega) hB r (by omega)) rfl hB.lt hB.o rfl rfl (Nat.le_of_ble_eq_true rfl) ?_
  rw [e3]
  refine qz_icmp_ne (tgt := 13) hΓ dX0_putCondition_6 (by decide) (by omega) (by omega) (fun h_6 => ?_) (fun h_6 => ?_)
  · have hgv : b 4 (r * 6 + j) = cmb (vv s r (13 + 2 * j)) (vv s r (13 + 2 * j + 1)) := (hR0.2.1 r hr).2.2.2.2 j (by omega)
    have hgl : b 4 (r * 6 + j) < 4294967296 := by rw [hgv]; exact cmb_32 hW hr hj6
    refine qa_iconst (v := nI 0) hΓ dX0_putCondition_13 ic_0 ?_
    refine qa_istore hΓ dX0_putCondition_14 (by decide) ?_
    refine qa_iload hΓ dX0_putCondition_16 rfl ?_
    refine qz_if_eq (tgt := 25) hΓ dX0_putCondition_18 (by decide) (by decide) (fun _ => ?_) (fun h => absurd h (by decide))
    refine qa_aload_n hΓ dX0_putCondition_25 rfl ?_
    refine qa_iload_n hΓ dX0_putCondition_26 rfl ?_
    refine qa_iload_n hΓ dX0_putCondition_27 rfl ?_
    refine qc_V1 hΓ dX0_putCondition_28 lk_X0_85 vw_X0_branchAt (by omega) (c_X0_branchAt l (d - 1) (by omega) hB r j (by omega) hj6) rfl hB.lt hB.o rfl rfl (Nat.le_of_ble_eq_true rfl) ?_
    refine qa_istore hΓ dX0_putCondition_31 (by decide) ?_
    refine qa_iload hΓ dX0_putCondition_33 rfl ?_
    refine qz_if_eq (tgt := 49) hΓ dX0_putCondition_35 (by decide) (by decide) (fun _ => ?_) (fun h => absurd h (by decide))
    refine qa_aload_n hΓ dX0_putCondition_49 rfl ?_
    refine qa_iload_n hΓ dX0_putCondition_50 rfl ?_
    refine qa_iload_n hΓ dX0_putCondition_51 rfl ?_
    refine qa_iload hΓ dX0_putCondition_52 rfl ?_
    refine qa_iload_n hΓ dX0_putCondition_54 rfl ?_
    refine qa_iload hΓ dX0_putCondition_55 rfl ?_
    refine qc_S1 hΓ dX0_putCondition_57 lk_X0_89 vw_X1_with (by omega) (c_X1_with l (d - 1) (by omega) (b 4 (r * 6 + j)) x how hgl hx hh) rfl rfl (Nat.le_of_ble_eq_true rfl) ?_
    refine qc_V0q hΓ dX0_putCondition_60 lk_X0_95 vw_X0_putBranch (by omega) (c_X0_putBranch l (d - 1) (by omega) hB r j _ (by omega) hj6) rfl hB.lt hB.o rfl rfl (Nat.le_of_ble_eq_true rfl) (fun w hq => ?_)
    obtain ⟨hB, hF⟩ := hq
    have hF0 := hF0.tr hF
    refine qa_aload_n hΓ dX0_putCondition_63 rfl ?_
    refine qc_V1q hΓ dX0_putCondition_64 lk_X0_99 vw_X0_lookAtCoils (by omega) (c_X0_lookAtCoils l (d - 1) (by omega) hB (by have h9 := hR0.cn (x := x) (how := how) hW hr (show j < vv s r 12 by omega); exact h9) (hW.cnS hr hj6 hx) hBd (hS.cn hj6)) rfl hB.lt hB.o rfl rfl (Nat.le_of_ble_eq_true rfl) (fun w hq => ?_)
    obtain ⟨b', hB, hF, hR2, hS2⟩ := hq
    have hF0 := hF0.tr hF
    refine qa_pop hΓ dX0_putCondition_67 ?_
    refine qa_iload hΓ dX0_putCondition_68 rfl ?_
    refine qa_iload_n hΓ dX0_putCondition_70 rfl ?_
    refine qc_S1 hΓ dX0_putCondition_71 lk_X0_103 vw_X1_howOf (by omega) (c_X1_howOf l (d - 1) (by omega) (b 4 (r * 6 + j)) x hgl hx) rfl rfl (Nat.le_of_ble_eq_true rfl) ?_
    have e1 : scS s r j = s := by unfold scS; rw [if_neg h_6]
    have e2 : how3 (scS s r j) r j x = howO (b 4 (r * 6 + j)) x := by
      rw [e1, hgv, how_cmb hW hr hj6]
    exact qr_i hR dX0_putCondition_74 ⟨by rw [e2], _, hB, hF0, by rw [e1]; exact ⟨hR2, hS2⟩⟩
  · refine qa_iconst (v := nI 1) hΓ dX0_putCondition_9 ic_1 ?_
    refine qa_goto (tgt := 14) hΓ dX0_putCondition_10 (by decide) ?_
    refine qa_istore hΓ dX0_putCondition_14 (by decide) ?_
    refine qa_iload hΓ dX0_putCondition_16 rfl ?_
    refine qz_if_eq (tgt := 25) hΓ dX0_putCondition_18 (by decide) (by decide) (fun h => absurd h (by decide)) (fun _ => ?_)
    refine qa_iconst (v := nI 0) hΓ dX0_putCondition_21 ic_0 ?_
    refine qa_goto (tgt := 31) hΓ dX0_putCondition_22 (by decide) ?_
    refine qa_istore hΓ dX0_putCondition_31 (by decide) ?_
    refine qa_iload hΓ dX0_putCondition_33 rfl ?_
    refine qz_if_eq (tgt := 49) hΓ dX0_putCondition_35 (by decide) (by decide) (fun h => absurd h (by decide)) (fun _ => ?_)
    refine qa_aload_n hΓ dX0_putCondition_38 rfl ?_
    refine qa_get hΓ dX0_putCondition_39 fk_X0_21 hB.lt hB.o rfl ?_
    refine qa_iload_n hΓ dX0_putCondition_42 rfl ?_
    refine qa_iload_n hΓ dX0_putCondition_43 rfl ?_
    refine qa_iconst (v := nI 1) hΓ dX0_putCondition_44 ic_1 ?_
    refine qz_iadd hΓ dX0_putCondition_45 ?_
    refine qc_N0q hΓ dX0_putCondition_46 nk_X0_77 vw_X5_put (by omega) (c_X5_putB l (d - 1) hB 3 r (j + 1) (by decide) (by show _ < 8; omega)) rfl rfl (Nat.le_of_ble_eq_true rfl) (fun w hq => ?_)
    obtain ⟨hB, hF⟩ := hq
    have hF0 := hF0.tr hF
    refine qa_aload_n hΓ dX0_putCondition_49 rfl ?_
    refine qa_iload_n hΓ dX0_putCondition_50 rfl ?_
    refine qa_iload_n hΓ dX0_putCondition_51 rfl ?_
    refine qa_iload hΓ dX0_putCondition_52 rfl ?_
    refine qa_iload_n hΓ dX0_putCondition_54 rfl ?_
    refine qa_iload hΓ dX0_putCondition_55 rfl ?_
    refine qc_S1 hΓ dX0_putCondition_57 lk_X0_89 vw_X1_with (by omega) (c_X1_with l (d - 1) (by omega) 0 x how (by decide) hx hh) rfl rfl (Nat.le_of_ble_eq_true rfl) ?_
    refine qc_V0q hΓ dX0_putCondition_60 lk_X0_95 vw_X0_putBranch (by omega) (c_X0_putBranch l (d - 1) (by omega) hB r j _ (by omega) hj6) rfl hB.lt hB.o rfl rfl (Nat.le_of_ble_eq_true rfl) (fun w hq => ?_)
    obtain ⟨hB, hF⟩ := hq
    have hF0 := hF0.tr hF
    refine qa_aload_n hΓ dX0_putCondition_63 rfl ?_
    refine qc_V1q hΓ dX0_putCondition_64 lk_X0_99 vw_X0_lookAtCoils (by omega) (c_X0_lookAtCoils l (d - 1) (by omega) hB (by have h9 := (hR0.op hW hr (by omega)).cn (j := j) (x := x) (how := how) (hW.opS (by omega)) (by rw [opS_hd s r (by decide)]; exact hr) (by rw [opS_v s r r 12 (by omega) (by decide), if_pos ⟨rfl, rfl⟩]; omega); rw [← h_6, bset_bset, set4, if_pos rfl] at h9; exact h9) ((hW.opS (by omega)).cnS (by rw [opS_hd s r (by decide)]; exact hr) hj6 hx) hBd ((hS.op (by omega)).cn hj6)) rfl hB.lt hB.o rfl rfl (Nat.le_of_ble_eq_true rfl) (fun w hq => ?_)
    obtain ⟨b', hB, hF, hR2, hS2⟩ := hq
    have hF0 := hF0.tr hF
    refine qa_pop hΓ dX0_putCondition_67 ?_
    refine qa_iload hΓ dX0_putCondition_68 rfl ?_
    refine qa_iload_n hΓ dX0_putCondition_70 rfl ?_
    refine qc_S1 hΓ dX0_putCondition_71 lk_X0_103 vw_X1_howOf (by omega) (c_X1_howOf l (d - 1) (by omega) 0 x (by decide) hx) rfl rfl (Nat.le_of_ble_eq_true rfl) ?_
    have e1 : scS s r j = opS s r := by unfold scS; rw [if_pos h_6]
    have e2 : how3 (scS s r j) r j x = howO 0 x := by
      have a1 : vv (opS s r) r (13 + 2 * j) = 0 := by rw [opS_v s r r _ (by omega) (by omega), if_neg (by omega), if_neg (by omega), if_pos (by omega)]
      have a2 : vv (opS s r) r (13 + 2 * j + 1) = 0 := by rw [opS_v s r r _ (by omega) (by omega), if_neg (by omega), if_pos (by omega)]
      rw [e1]
      unfold how3 howO
      rw [a1, a2]
    exact qr_i hR dX0_putCondition_74 ⟨by rw [e2], _, hB, hF0, by rw [e1]; exact ⟨hR2, hS2⟩⟩

set_option maxRecDepth 100000 in
set_option maxHeartbeats 4000000 in
theorem c_X0_dropBranch (l : Launch) (d : Nat) (hd : 3 ≤ d) {n kb : Nat} {w : Nat → AC} {b : Bk} (hB : BkAt n w kb b) {s : Nat → Nat} (hR0 : RepC s b) {B : Nat} (hW : Wt s B) (hBd : B < 900000000) (hS : SeC s) (r br : Nat) (hr : r < s 1) (hbr : br < vv s r 12) (hWd : Wt (rmS s r br) B) : Sq l yX0_dropBranch cX0_dropBranch 5 (some .int) d [aR kb, aZ r, aZ br] n w (Qv (aZ (vv s r 12 - 1)) (PR n kb (lks (rmS s r br)).2 w)) := by
  refine Sp.of (plainFor_of_name (by decide)) (Nat.le_of_ble_eq_true rfl) (fun Γ hΓ hR => ?_)
  show Γ 0 [aR kb, aZ r, aZ br, none, none] [] (0, 0) n w
  obtain ⟨w0, hw0⟩ : ∃ X, X = w ∧ ∀ w2, Fr kb 7 X w2 → Fr kb 7 w w2 := ⟨w, rfl, fun _ h => h⟩
  obtain ⟨hww, hw0⟩ := hw0
  have hF0 : Fr kb 7 w0 w := hww ▸ Fr.rf
  have h8 := hW.2.1
  have h6 := hW.m6 hr
  have e3 : b 3 r = vv s r 12 := (hR0.2.1 r hr).2.2.2.1
  refine qa_aload_n hΓ dX0_dropBranch_0 rfl ?_
  refine qa_iload_n hΓ dX0_dropBranch_1 rfl ?_
  refine qc_V1 hΓ dX0_dropBranch_2 lk_X0_81 vw_X0_branchesOf (by omega) (c_X0_branchesOf l (d - 1) (by omega) hB r (by omega)) rfl hB.lt hB.o rfl rfl (Nat.le_of_ble_eq_true rfl) ?_
  rw [e3]
  refine qa_iconst (v := nI 1) hΓ dX0_dropBranch_5 ic_1 ?_
  refine qz_isub hΓ dX0_dropBranch_6 (by omega) ?_
  refine qa_istore_n hΓ dX0_dropBranch_7 (by decide) ?_
  refine qa_iload_n hΓ dX0_dropBranch_8 rfl ?_
  refine qa_istore hΓ dX0_dropBranch_9 (by decide) ?_
  have loop : ∀ (m i : Nat) (w1 : Nat → AC) (b1 : Bk), br ≤ i → i ≤ vv s r 12 - 1 → vv s r 12 - 1 < i + m → BkAt n w1 kb b1 → Fr kb 7 w0 w1 → (∀ a, a ≠ 4 → b1 a = b a) → (∀ q j, q ≠ r → j < 6 → b1 4 (q * 6 + j) = b 4 (q * 6 + j)) → (∀ j, j < 6 → b1 4 (r * 6 + j) = if br ≤ j ∧ j < i then b 4 (r * 6 + (j + 1)) else b 4 (r * 6 + j)) → Γ 11 [aR kb, aZ r, aZ br, aZ (vv s r 12 - 1), aZ i] [] (0, 0) n w1 := by
    intro m
    induction m with
    | zero => intro i w1 b1 h0 h1 h2; exact absurd h2 (by omega)
    | succ m ih =>
      intro i w b1 hbi hi hm hB hF0 ha ho hg
      refine qa_iload hΓ dX0_dropBranch_11 rfl ?_
      refine qa_iload_n hΓ dX0_dropBranch_13 rfl ?_
      refine qz_icmp_ge (tgt := 39) hΓ dX0_dropBranch_14 (by decide) (by omega) (by omega) (fun h_14 => ?_) (fun h_14 => ?_)
      · refine qa_aload_n hΓ dX0_dropBranch_39 rfl ?_
        refine qa_get hΓ dX0_dropBranch_40 fk_X0_21 hB.lt hB.o rfl ?_
        refine qa_iload_n hΓ dX0_dropBranch_43 rfl ?_
        refine qa_iload_n hΓ dX0_dropBranch_44 rfl ?_
        refine qc_N0q hΓ dX0_dropBranch_45 nk_X0_77 vw_X5_put (by omega) (c_X5_putB l (d - 1) hB 3 r (vv s r 12 - 1) (by decide) (by show _ < 8; omega)) rfl rfl (Nat.le_of_ble_eq_true rfl) (fun w hq => ?_)
        obtain ⟨hB, hF⟩ := hq
        have hF0 := hF0.tr hF
        have hRd : RepC (rmS s r br) (bset b1 3 r (vv s r 12 - 1)) := by
          have e12 : vv (rmS s r br) r 12 = vv s r 12 - 1 := by rw [rmS_v s r br r 12 h6 (by decide)]; unfold rmV; rw [if_neg (by omega), if_pos ⟨rfl, rfl⟩]
          refine hR0.brs (r := r) (s' := rmS s r br) hr (fun q hq => hW.m6 hq) (fun a h => rmS_hd s r br h) (fun q y hy hc => ?_) (fun a h3 h4 => by rw [bset_ne _ _ _ h3]; exact ha a h4) (fun q => by rw [set3, e12, ha 3 (by decide)]) (fun q j hq hj => by rw [bset_ne _ _ _ (by decide)]; exact ho q j hq hj) (fun j hj => ?_)
          · rw [rmS_v s r br q y h6 hy]; unfold rmV; rw [if_neg (by omega), if_neg (by omega)]
          · rw [e12] at hj
            rw [bset_ne _ _ _ (by decide), hg j (by omega), rmS_v s r br r _ h6 (by omega), rmS_v s r br r _ h6 (by omega)]
            unfold rmV
            by_cases e : br ≤ j
            · rw [if_pos ⟨e, by omega⟩, if_pos ⟨rfl, by omega, by omega⟩, if_pos ⟨rfl, by omega, by omega⟩]
              exact (hR0.2.1 r hr).2.2.2.2 (j + 1) (by omega)
            · rw [if_neg (fun u => e u.1), if_neg (by omega), if_neg (by omega), if_neg (by omega), if_neg (by omega)]
              exact (hR0.2.1 r hr).2.2.2.2 j (by omega)
        have hSd : SeC (rmS s r br) := hS.lo (rmS_hd s r br (by decide)) (fun q y hy => by rw [rmS_v s r br q y h6 (by omega)]; unfold rmV; rw [if_neg (by omega), if_neg (by omega)])
        refine qa_aload_n hΓ dX0_dropBranch_48 rfl ?_
        refine qc_V1q hΓ dX0_dropBranch_49 lk_X0_99 vw_X0_lookAtCoils (by omega) (c_X0_lookAtCoils l (d - 1) (by omega) hB hRd hWd hBd hSd) rfl hB.lt hB.o rfl rfl (Nat.le_of_ble_eq_true rfl) (fun w hq => ?_)
        obtain ⟨b', hB, hF, hR2, hS2⟩ := hq
        have hF0 := hF0.tr hF
        refine qa_pop hΓ dX0_dropBranch_52 ?_
        refine qa_iload_n hΓ dX0_dropBranch_53 rfl ?_
        exact qr_i hR dX0_dropBranch_54 ⟨rfl, _, hB, hw0 _ hF0, hR2, hS2⟩
      · refine qa_aload_n hΓ dX0_dropBranch_17 rfl ?_
        refine qa_iload_n hΓ dX0_dropBranch_18 rfl ?_
        refine qa_iload hΓ dX0_dropBranch_19 rfl ?_
        refine qa_aload_n hΓ dX0_dropBranch_21 rfl ?_
        refine qa_iload_n hΓ dX0_dropBranch_22 rfl ?_
        refine qa_iload hΓ dX0_dropBranch_23 rfl ?_
        refine qa_iconst (v := nI 1) hΓ dX0_dropBranch_25 ic_1 ?_
        refine qz_iadd hΓ dX0_dropBranch_26 ?_
        refine qc_V1 hΓ dX0_dropBranch_27 lk_X0_85 vw_X0_branchAt (by omega) (c_X0_branchAt l (d - 1) (by omega) hB r (i + 1) (by omega) (by omega)) rfl hB.lt hB.o rfl rfl (Nat.le_of_ble_eq_true rfl) ?_
        refine qc_V0q hΓ dX0_dropBranch_30 lk_X0_95 vw_X0_putBranch (by omega) (c_X0_putBranch l (d - 1) (by omega) hB r i _ (by omega) (by omega)) rfl hB.lt hB.o rfl rfl (Nat.le_of_ble_eq_true rfl) (fun w hq => ?_)
        obtain ⟨hB, hF⟩ := hq
        have hF0 := hF0.tr hF
        refine qz_iinc hΓ dX0_dropBranch_33 ii_1 rfl (by decide) ?_
        refine qa_goto (tgt := 11) hΓ dX0_dropBranch_36 (by decide) ?_
        refine ih (i + 1) w _ (by omega) (by omega) (by omega) hB hF0 (fun a h => by rw [bset_ne _ _ _ h]; exact ha a h) (fun q j hq hj => by rw [set4, if_neg (by omega)]; exact ho q j hq hj) (fun j hj => ?_)
        rw [set4]
        by_cases e : j = i
        · rw [if_pos (by omega), if_pos (by omega), hg (i + 1) (by omega), if_neg (by omega), e]
        · rw [if_neg (by omega), hg j hj]
          by_cases e2 : br ≤ j ∧ j < i
          · rw [if_pos e2, if_pos (by omega)]
          · rw [if_neg e2, if_neg (by omega)]
  exact loop (vv s r 12) br w b (Nat.le_refl _) (by omega) (by omega) hB hF0 (fun _ _ => rfl) (fun _ _ _ _ => rfl) (fun j hj => by rw [if_neg (by omega)])
