/-! The class: circuits -/
theorem SeC.lo {s s' : Nat → Nat} (h : SeC s) (h1 : s' 1 = s 1) (hc : ∀ q x, x < 12 → vv s' q x = vv s q x) : SeC s' := by
  intro q hq
  rw [h1] at hq
  rw [hc q 8 (by omega), hc q 4 (by omega), hc q 3 (by omega), hc q 5 (by omega), hc q 10 (by omega)]
  exact h q hq
theorem RepC.brs {s s' : Nat → Nat} {b b' : Bk} {r : Nat} (h : RepC s b) (hr : r < s 1) (h6 : ∀ q, q < s 1 → vv s q 12 ≤ 6) (hh : ∀ j, j < 3 → s' j = s j) (hc : ∀ q x, x < 25 → (q ≠ r ∨ x < 12) → vv s' q x = vv s q x) (hi : ∀ i, i ≠ 3 → i ≠ 4 → b' i = b i) (h3 : ∀ q, b' 3 q = if q = r then vv s' r 12 else b 3 q) (h4o : ∀ q j, q ≠ r → j < 6 → b' 4 (q * 6 + j) = b 4 (q * 6 + j)) (h4 : ∀ j, j < vv s' r 12 → b' 4 (r * 6 + j) = cmb (vv s' r (13 + 2 * j)) (vv s' r (13 + 2 * j + 1))) : RepC s' b' := by
  obtain ⟨⟨g1, g2, g3⟩, g4, ⟨e3, e4, e5, e6, e7, e8⟩, gd, gz⟩ := h
  have h1 := hh 1 (by decide)
  have pe : ∀ x v, x < 12 → pM s' x v = pM s x v := fun x v hx => by
    funext q
    unfold pM
    rw [hc q x (by omega) (Or.inr hx)]
  refine ⟨⟨?_, ?_, ?_⟩, fun q hq => ?_, ⟨?_, ?_, ?_, ?_, ?_, ?_⟩, fun q hq => ?_, fun q hq1 hq2 => ?_⟩
  · rw [hi 6 (by decide) (by decide), h1]; exact g1
  · rw [hi 6 (by decide) (by decide), hh 2 (by decide)]; exact g2
  · rw [hi 6 (by decide) (by decide), hh 0 (by decide)]; exact g3
  · rw [h1] at hq
    obtain ⟨k1, k2, k3, k4, k5⟩ := g4 q hq
    have := h6 q hq
    rw [hi 0 (by decide) (by decide), hi 1 (by decide) (by decide), hi 2 (by decide) (by decide), h3, hc q 0 (by decide) (Or.inr (by decide)), hc q 1 (by decide) (Or.inr (by decide)), hc q 2 (by decide) (Or.inr (by decide))]
    by_cases e : q = r
    · subst e
      rw [if_pos rfl]
      exact ⟨k1, k2, k3, rfl, h4⟩
    · rw [if_neg e, hc q 12 (by decide) (Or.inl e)]
      refine ⟨k1, k2, k3, k4, fun j hj => ?_⟩
      rw [h4o q j e (by omega), hc q _ (by omega) (Or.inl e), hc q _ (by omega) (Or.inl e)]
      exact k5 j hj
  · rw [hi 6 (by decide) (by decide), h1, pe 4 1 (by decide)]; exact e3
  · rw [hi 6 (by decide) (by decide), h1, pe 3 1 (by decide)]; exact e4
  · rw [hi 6 (by decide) (by decide), h1, pe 5 1 (by decide)]; exact e5
  · rw [hi 6 (by decide) (by decide), h1, pe 7 1 (by decide)]; exact e6
  · rw [hi 6 (by decide) (by decide), h1, pe 6 1 (by decide)]; exact e7
  · rw [hi 6 (by decide) (by decide), h1, pe 6 2 (by decide)]; exact e8
  · rw [h1] at hq
    rw [hi 5 (by decide) (by decide)]
    unfold duA duE
    rw [hc q 8 (by decide) (Or.inr (by decide)), hc q 9 (by decide) (Or.inr (by decide)), hc q 10 (by decide) (Or.inr (by decide)), hc q 11 (by decide) (Or.inr (by decide))]
    exact gd q hq
  · rw [h1] at hq1
    rw [h3, if_neg (by omega), hi 5 (by decide) (by decide)]
    exact gz q hq1 hq2
theorem set3 (b : Bk) (r v q : Nat) : bset b 3 r v 3 q = if q = r then v else b 3 q := by
  rw [bset_eq]
  by_cases e : q = r
  · rw [if_pos e, e, upN_self]
  · rw [if_neg e, upN_ne _ _ _ e]
theorem set4 (b : Bk) (a v q : Nat) : bset b 4 a v 4 q = if q = a then v else b 4 q := by
  rw [bset_eq]
  by_cases e : q = a
  · rw [if_pos e, e, upN_self]
  · rw [if_neg e, upN_ne _ _ _ e]
theorem how_cmb {s : Nat → Nat} {B r j x : Nat} (hW : Wt s B) (hr : r < s 1) (hj : j < 6) : howO (cmb (vv s r (13 + 2 * j)) (vv s r (13 + 2 * j + 1))) x = how3 s r j x := by
  have hp := hW.m16 hr (x := 13 + 2 * j) (by omega) (by omega)
  unfold how3 howO
  rw [cmb_lo hp, cmb_hi hp]
theorem cmb_32 {s : Nat → Nat} {B r j : Nat} (hW : Wt s B) (hr : r < s 1) (hj : j < 6) : cmb (vv s r (13 + 2 * j)) (vv s r (13 + 2 * j + 1)) < 4294967296 := cmb_lt (hW.m16 hr (by omega) (by omega)) (hW.m16 hr (by omega) (by omega))
set_option maxRecDepth 100000 in
set_option maxHeartbeats 4000000 in
theorem c_X0_concerns (l : Launch) (d : Nat) (hd : 2 ≤ d) {n kb : Nat} {w : Nat → AC} {b : Bk} (hB : BkAt n w kb b) {s : Nat → Nat} (hR0 : RepC s b) {B : Nat} (hW : Wt s B) (hBd : B < 900000000) (r x : Nat) (hr : r < s 1) (hx : x < 16) : Sq l yX0_concerns cX0_concerns 5 (some .boolean) d [aR kb, aZ r, aZ x] n w (Rs (some (aZ (decide (∃ j, j < vv s r 12 ∧ ¬ how3 s r j x = 0)).toNat)) w) := by
  refine Sp.of (plainFor_of_name (by decide)) (Nat.le_of_ble_eq_true rfl) (fun Γ hΓ hR => ?_)
  show Γ 0 [aR kb, aZ r, aZ x, none, none] [] (0, 0) n w
  have h8 := hW.2.1
  have h6 := hW.m6 hr
  have loop : ∀ (m i : Nat), i ≤ vv s r 12 → vv s r 12 < i + m → (∀ j, j < i → how3 s r j x = 0) → Γ 9 [aR kb, aZ r, aZ x, aZ (vv s r 12), aZ i] [] (0, 0) n w := by
    intro m
    induction m with
    | zero => intro i h1 h2; exact absurd h2 (by omega)
    | succ m ih =>
      intro i hi hm hz
      refine qa_iload hΓ dX0_concerns_9 rfl ?_
      refine qa_iload_n hΓ dX0_concerns_11 rfl ?_
      refine qz_icmp_ge (tgt := 37) hΓ dX0_concerns_12 (by decide) (by omega) (by omega) (fun h_12 => ?_) (fun h_12 => ?_)
      · refine qa_iconst (v := nI 0) hΓ dX0_concerns_37 ic_0 ?_
        exact qr_b (p := false) hR dX0_concerns_38 ⟨by rw [decide_eq_false (fun q => by obtain ⟨j, hj, hn⟩ := q; exact hn (hz j (by omega)))], rfl⟩
      · refine qa_aload_n hΓ dX0_concerns_15 rfl ?_
        refine qa_iload_n hΓ dX0_concerns_16 rfl ?_
        refine qa_iload hΓ dX0_concerns_17 rfl ?_
        refine qc_V1 hΓ dX0_concerns_19 lk_X0_85 vw_X0_branchAt (by omega) (c_X0_branchAt l (d - 1) (by omega) hB r i (by omega) (by omega)) rfl hB.lt hB.o rfl rfl (Nat.le_of_ble_eq_true rfl) ?_
        rw [(hR0.2.1 r hr).2.2.2.2 i (by omega)]
        refine qa_iload_n hΓ dX0_concerns_22 rfl ?_
        refine qc_S1 hΓ dX0_concerns_23 lk_X0_103 vw_X1_howOf (by omega) (c_X1_howOf l (d - 1) (by omega) _ x (cmb_32 hW hr (by omega)) hx) rfl rfl (Nat.le_of_ble_eq_true rfl) ?_
        rw [how_cmb hW hr (by omega)]
        have hh2 := how3_le s r i x
        refine qz_if_eq (tgt := 31) hΓ dX0_concerns_26 (by decide) (by omega) (fun h_26 => ?_) (fun h_26 => ?_)
        · refine qz_iinc hΓ dX0_concerns_31 ii_1 rfl (by decide) ?_
          refine qa_goto (tgt := 9) hΓ dX0_concerns_34 (by decide) ?_
          refine ih (i + 1) (by omega) (by omega) (fun j hj => ?_)
          by_cases e : j = i
          · rw [e]; exact h_26
          · exact hz j (by omega)
        · refine qa_iconst (v := nI 1) hΓ dX0_concerns_29 ic_1 ?_
          exact qr_b (p := true) hR dX0_concerns_30 ⟨by rw [decide_eq_true ⟨i, by omega, h_26⟩], rfl⟩
  refine qa_aload_n hΓ dX0_concerns_0 rfl ?_
  refine qa_iload_n hΓ dX0_concerns_1 rfl ?_
  refine qc_V1 hΓ dX0_concerns_2 lk_X0_81 vw_X0_branchesOf (by omega) (c_X0_branchesOf l (d - 1) (by omega) hB r (by omega)) rfl hB.lt hB.o rfl rfl (Nat.le_of_ble_eq_true rfl) ?_
  rw [(hR0.2.1 r hr).2.2.2.1]
  refine qa_istore_n hΓ dX0_concerns_5 (by decide) ?_
  refine qa_iconst (v := nI 0) hΓ dX0_concerns_6 ic_0 ?_
  refine qa_istore hΓ dX0_concerns_7 (by decide) ?_
  exact loop (vv s r 12 + 1) 0 (Nat.zero_le _) (by omega) (fun j hj => absurd hj (Nat.not_lt_zero _))
