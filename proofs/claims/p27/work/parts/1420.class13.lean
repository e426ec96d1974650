/-! The class: stable states, events that wait -/
def stA (s : Nat → Nat) : Nat → Bool
  | 0 => true
  | r + 1 => stA s r && (decide (vv s r 7 = 1) || (cnd s r (onS s) == decide (vv s r 3 = 1)))
theorem stA_f {s : Nat → Nat} {r : Nat} (h : stA s r = false) : ∀ {m}, r ≤ m → stA s m = false
  | 0, q => by
    have : r = 0 := by omega
    subst this
    exact h
  | m + 1, q => by
    rcases Nat.lt_or_ge m r with u | u
    · have : r = m + 1 := by omega
      subst this
      exact h
    · show (stA s m && _) = false
      rw [stA_f h u]
      rfl
theorem pbitD {s : Nat → Nat} {b : Bk} {r x j : Nat} (hr : r < s 1) (h : b 6 j = mk (pM s x 1) (s 1)) : (b 6 j).testBit r = decide (vv s r x = 1) := by
  rw [h, mk_bit]
  unfold pM
  rw [decide_eq_true hr, Bool.true_and]
theorem bool_nat (p q : Bool) : p.toNat = q.toNat ↔ p = q := by cases p <;> cases q <;> decide
def duC (b : Bk) : Nat → Nat
  | 0 => 0
  | i + 1 => duC b i + (if b 5 i = NV then 0 else 1)
theorem duC_le (b : Bk) : ∀ i, duC b i ≤ i
  | 0 => Nat.le_refl _
  | i + 1 => by
    have := duC_le b i
    unfold duC
    split <;> omega
theorem duC_hi {s : Nat → Nat} {b : Bk} (h : RepC s b) : ∀ k, s 1 + k ≤ 8 → duC b (2 * (s 1 + k)) = duC b (2 * s 1)
  | 0, _ => rfl
  | k + 1, hk => by
    obtain ⟨_, h1, h2⟩ := h.2.2.2.2 (s 1 + k) (by omega) (by omega)
    rw [show 2 * (s 1 + (k + 1)) = 2 * (s 1 + k) + 1 + 1 by omega]
    show duC b (2 * (s 1 + k)) + (if b 5 (2 * (s 1 + k)) = NV then 0 else 1) + (if b 5 (2 * (s 1 + k) + 1) = NV then 0 else 1) = _
    rw [h1, h2, if_pos rfl]
    exact duC_hi h k (by omega)
theorem duC_lo {s : Nat → Nat} {b : Bk} {B : Nat} (h : RepC s b) (hW : Wt s B) (hB : B < 900000000) : ∀ r, r ≤ s 1 → duC b (2 * r) = cn2 s r
  | 0, _ => rfl
  | r + 1, hr => by
    have hNV : NV = 2147483647 := rfl
    obtain ⟨h1, h2⟩ := h.2.2.2.1 r (by omega)
    have k9 := hW.b (r := r) (by omega) (x := 9) (by decide)
    have k11 := hW.b (r := r) (by omega) (x := 11) (by decide)
    have k10 := hW.c1 (r := r) (by omega) (x := 10) (by omega)
    rw [show 2 * (r + 1) = 2 * r + 1 + 1 by omega]
    unfold duC
    unfold duC
    unfold cn2
    rw [duC_lo h hW hB r (by omega), h1, h2]
    have e1 : (if duA s r = NV then 0 else 1) = if 0 < vv s r 8 then 1 else 0 := by
      unfold duA
      by_cases e : vv s r 8 = 0
      · rw [if_pos e, if_pos rfl, if_neg (by omega)]
      · rw [if_neg e, if_neg (by omega), if_pos (by omega)]
    have e2 : (if duE s r = NV then 0 else 1) = vv s r 10 := by
      unfold duE
      by_cases e : vv s r 10 = 0
      · rw [if_pos e, if_pos rfl, e]
      · rw [if_neg e, if_neg (by omega)]; omega
    rw [e1, e2]
    omega
theorem duC_all {s : Nat → Nat} {b : Bk} {B : Nat} (h : RepC s b) (hW : Wt s B) (hB : B < 900000000) : duC b 16 = cn2 s (s 1) := by
  have h8 := hW.2.1
  rw [← duC_lo h hW hB (s 1) (Nat.le_refl _), ← duC_hi h (8 - s 1) (by omega), show 2 * (s 1 + (8 - s 1)) = 16 by omega]
theorem du_lt {s : Nat → Nat} {b : Bk} {B : Nat} (h : RepC s b) (hW : Wt s B) (hB : B < 900000000) (i : Nat) (hi : i < 16) : b 5 i ≤ 2147483647 := by
  have hNV : NV = 2147483647 := rfl
  rcases Nat.lt_or_ge (i / 2) (s 1) with q | q
  · obtain ⟨h1, h2⟩ := h.2.2.2.1 (i / 2) q
    have k9 := hW.b q (x := 9) (by decide)
    have k11 := hW.b q (x := 11) (by decide)
    unfold duA at h1
    unfold duE at h2
    rcases (show i = 2 * (i / 2) ∨ i = 2 * (i / 2) + 1 by omega) with e | e
    · rw [e, h1]
      split <;> omega
    · rw [e, h2]
      split <;> omega
  · obtain ⟨_, h1, h2⟩ := h.2.2.2.2 (i / 2) q (by omega)
    rcases (show i = 2 * (i / 2) ∨ i = 2 * (i / 2) + 1 by omega) with e | e
    · rw [e, h1]; omega
    · rw [e, h2]; omega
set_option maxRecDepth 100000 in
set_option maxHeartbeats 4000000 in
theorem c_X0_waiting (l : Launch) (d : Nat) {n kb : Nat} {w : Nat → AC} {b : Bk} (hB : BkAt n w kb b) {s : Nat → Nat} (hR0 : RepC s b) {B : Nat} (hW : Wt s B) (hBd : B < 900000000) : Sq l yX0_waiting cX0_waiting 3 (some .int) d [aR kb] n w (Rs (some (aZ (cn2 s (s 1)))) w) := by
  refine Sp.of (plainFor_of_name (by decide)) (Nat.le_of_ble_eq_true rfl) (fun Γ hΓ hR => ?_)
  show Γ 0 [aR kb, none, none] [] (0, 0) n w
  have hdu := du_lt hR0 hW hBd
  have loop : ∀ (m i : Nat), i ≤ 16 → 16 < i + m → Γ 4 [aR kb, aZ (duC b i), aZ i] [] (0, 0) n w := by
    intro m
    induction m with
    | zero => intro i h1 h2; exact absurd h2 (by omega)
    | succ m ih =>
      intro i hi hm
      have hl := duC_le b i
      refine qa_iload_n hΓ dX0_waiting_4 rfl ?_
      refine qa_aload_n hΓ dX0_waiting_5 rfl ?_
      refine qa_get hΓ dX0_waiting_6 fk_X0_27 hB.lt hB.o rfl ?_
      refine qa_alen hΓ dX0_waiting_9 (hB.lti (i := 6) (by decide)) hB.a5 (by decide) rfl ?_
      refine qz_icmp_ge (tgt := 33) hΓ dX0_waiting_10 (by decide) (by omega) (by omega) (fun h_10 => ?_) (fun h_10 => ?_)
      · refine qa_iload_n hΓ dX0_waiting_33 rfl ?_
        exact qr_i hR dX0_waiting_34 ⟨by rw [show i = 16 by omega, duC_all hR0 hW hBd], rfl⟩
      · refine qa_aload_n hΓ dX0_waiting_13 rfl ?_
        refine qa_get hΓ dX0_waiting_14 fk_X0_27 hB.lt hB.o rfl ?_
        refine qa_iload_n hΓ dX0_waiting_17 rfl ?_
        refine qz_iald hΓ dX0_waiting_18 (hB.lti (i := 6) (by decide)) hB.a5 (by omega) (by decide) ?_
        refine qa_ldc (v := nI 2147483647) hΓ dX0_waiting_19 ck_X0_30 ?_
        have hb5 := hdu i (by omega)
        refine qz_icmp_eq (tgt := 27) hΓ dX0_waiting_21 (by decide) (by omega) (by omega) (fun h_21 => ?_) (fun h_21 => ?_)
        · refine qz_iinc hΓ dX0_waiting_27 ii_1 rfl (by decide) ?_
          refine qa_goto (tgt := 4) hΓ dX0_waiting_30 (by decide) ?_
          have e9 : duC b (i + 1) = duC b i + (if b 5 i = NV then 0 else 1) := rfl
          rw [if_pos h_21] at e9
          have h9 := ih (i + 1) (by omega) (by omega)
          rw [e9] at h9
          exact h9
        · refine qz_iinc hΓ dX0_waiting_24 ii_1 rfl (by decide) ?_
          refine qz_iinc hΓ dX0_waiting_27 ii_1 rfl (by decide) ?_
          refine qa_goto (tgt := 4) hΓ dX0_waiting_30 (by decide) ?_
          have e9 : duC b (i + 1) = duC b i + (if b 5 i = NV then 0 else 1) := rfl
          rw [if_neg h_21] at e9
          have h9 := ih (i + 1) (by omega) (by omega)
          rw [e9] at h9
          exact h9
  refine qa_iconst (v := nI 0) hΓ dX0_waiting_0 ic_0 ?_
  refine qa_istore_n hΓ dX0_waiting_1 (by decide) ?_
  refine qa_iconst (v := nI 0) hΓ dX0_waiting_2 ic_0 ?_
  refine qa_istore_n hΓ dX0_waiting_3 (by decide) ?_
  exact loop 17 0 (Nat.zero_le _) (by omega)
