/-! The class: stable states, explanations -/
def dwS (s : Nat → Nat) (set : Nat) : Nat → Nat := fun j => if j < 3 then s j else if (j - 3) % 25 = 3 then (set.testBit ((j - 3) / 25)).toNat else if (j - 3) % 25 = 5 then 0 else s j
theorem dwS_hd (s : Nat → Nat) (set : Nat) {j : Nat} (hj : j < 3) : dwS s set j = s j := by unfold dwS; rw [if_pos hj]
theorem dwS_v (s : Nat → Nat) (set q x : Nat) (hx : x < 25) : vv (dwS s set) q x = if x = 3 then (set.testBit q).toNat else if x = 5 then 0 else vv s q x := by
  unfold vv dwS
  rw [if_neg (by omega), show (3 + 25 * q + x - 3) % 25 = x by omega, show (3 + 25 * q + x - 3) / 25 = q by omega]
theorem Wt.dw {s : Nat → Nat} {B : Nat} (h : Wt s B) (set : Nat) : Wt (dwS s set) B := by
  refine ⟨by rw [dwS_hd _ _ (by decide)]; exact h.1, by rw [dwS_hd _ _ (by decide)]; exact h.2.1, by rw [dwS_hd _ _ (by decide)]; exact h.2.2.1, fun r hr x hx => ?_⟩
  rw [dwS_hd _ _ (by decide)] at hr
  rw [dwS_v _ _ _ _ hx]
  by_cases e3 : x = 3
  · rw [if_pos e3, e3]
    have := Bool.toNat_le1 (set.testBit r)
    simpa [bdF] using this
  · rw [if_neg e3]
    by_cases e5 : x = 5
    · rw [if_pos e5]
      exact Nat.zero_le _
    · rw [if_neg e5]
      exact h.2.2.2 r hr x hx
theorem mk_set {set n : Nat} (h : set < 2 ^ n) : mk (fun i => set.testBit i) n = set := by
  apply Nat.eq_of_testBit_eq
  intro i
  rw [mk_bit]
  by_cases e : i < n
  · simp [e]
  · rw [decide_eq_false e, testBit_lt h (by omega)]
    rfl
theorem mk_none {p : Nat → Bool} : ∀ {n}, (∀ i, i < n → p i = false) → mk p n = 0
  | 0, _ => rfl
  | n + 1, h => by
    show mk p n ||| (if p n then 1 <<< n else 0) = 0
    rw [mk_none (fun i hi => h i (by omega)), h n (by omega)]
    simp
theorem bit_d (p : Bool) : decide (p.toNat = 1) = p := by cases p <;> rfl
/-- the bank on which a set is tried -/
def TrB (b c : Bk) : Prop := (∀ i, i < 6 → c i = b i) ∧ (∀ j, j < 9 → j ≠ 4 → j ≠ 5 → c 6 j = b 6 j) ∧ c 6 5 = 0
theorem RepC.dw {s : Nat → Nat} {b c : Bk} {set : Nat} {B : Nat} (h : RepC s b) (hW : Wt s B) (hT : TrB b c) (hs : set < 2 ^ s 1) : RepC (dwS s set) (bset c 6 4 set) := by
  obtain ⟨t1, t2, t3⟩ := hT
  obtain ⟨r1, r2, r3, r4, r5⟩ := h
  have e6 : ∀ i, i < 6 → bset c 6 4 set i = b i := fun i hi => by rw [bset_ne _ _ _ (by omega), t1 i hi]
  have ej : ∀ j, j < 9 → j ≠ 4 → j ≠ 5 → bset c 6 4 set 6 j = b 6 j := fun j hj h4 h5 => by rw [bset_eq, upN_ne _ _ _ h4, t2 j hj h4 h5]
  have e4 : bset c 6 4 set 6 4 = set := by rw [bset_eq, upN_self]
  have e5 : bset c 6 4 set 6 5 = 0 := by rw [bset_eq, upN_ne _ _ _ (by decide), t3]
  have hv : ∀ q x, x < 25 → x ≠ 3 → x ≠ 5 → vv (dwS s set) q x = vv s q x := fun q x hx h3 h5 => by rw [dwS_v _ _ _ _ hx, if_neg h3, if_neg h5]
  have hm : ∀ x v, x < 25 → x ≠ 3 → x ≠ 5 → mk (pM (dwS s set) x v) (s 1) = mk (pM s x v) (s 1) := fun x v hx h3 h5 => mk_congr (fun i _ => by unfold pM; rw [hv i x hx h3 h5])
  have m3 : mk (pM (dwS s set) 3 1) (s 1) = set := by
    refine Eq.trans (mk_congr (fun i hi => ?_)) (mk_set hs)
    unfold pM
    rw [dwS_v _ _ _ _ (by decide), if_pos rfl, bit_d]
  have m5 : mk (pM (dwS s set) 5 1) (s 1) = 0 := mk_none (fun i hi => by
    unfold pM
    rw [dwS_v _ _ _ _ (by decide), if_neg (by decide), if_pos rfl]
    rfl)
  unfold RepC
  rw [dwS_hd _ _ (show 0 < 3 by decide), dwS_hd _ _ (show 1 < 3 by decide), dwS_hd _ _ (show 2 < 3 by decide), e6 0 (by decide), e6 1 (by decide), e6 2 (by decide), e6 3 (by decide), e6 4 (by decide), e6 5 (by decide), ej 0 (by decide) (by decide) (by decide), ej 1 (by decide) (by decide) (by decide), ej 2 (by decide) (by decide) (by decide), ej 3 (by decide) (by decide) (by decide), e4, e5, ej 6 (by decide) (by decide) (by decide), ej 7 (by decide) (by decide) (by decide), ej 8 (by decide) (by decide) (by decide), hm 4 1 (by decide) (by decide) (by decide), m3, m5, hm 7 1 (by decide) (by decide) (by decide), hm 6 1 (by decide) (by decide) (by decide), hm 6 2 (by decide) (by decide) (by decide)]
  refine ⟨r1, fun r hr => ?_, ⟨r3.1, rfl, rfl, r3.2.2.2⟩, fun r hr => ?_, r5⟩
  · rw [hv r 0 (by decide) (by decide) (by decide), hv r 1 (by decide) (by decide) (by decide), hv r 2 (by decide) (by decide) (by decide), hv r 12 (by decide) (by decide) (by decide)]
    obtain ⟨a0, a1, a2, a3, a4⟩ := r2 r hr
    refine ⟨a0, a1, a2, a3, fun j hj => ?_⟩
    rw [a4 j hj]
    have h6 := hW.m6 hr
    rw [hv r _ (by omega) (by omega) (by omega), hv r _ (by omega) (by omega) (by omega)]
  · unfold duA duE
    rw [hv r 8 (by decide) (by decide) (by decide), hv r 9 (by decide) (by decide) (by decide), hv r 10 (by decide) (by decide) (by decide), hv r 11 (by decide) (by decide) (by decide)]
    exact r4 r hr
theorem stI_iff {s : Nat → Nat} {B set : Nat} (hW : Wt s B) : ((set ^^^ mk (pM s 3 1) (s 1)) &&& mk (pM s 7 1) (s 1) = 0) ↔ stI s set (s 1) = true := by
  have key : ∀ m, m ≤ s 1 → (stI s set m = true ↔ ∀ r, r < m → vv s r 7 = 0 ∨ vv s r 3 = (set.testBit r).toNat) := by
    intro m
    induction m with
    | zero => exact fun _ => ⟨fun _ r hr => absurd hr (by omega), fun _ => rfl⟩
    | succ m ih =>
      intro hm
      show (stI s set m && (decide (vv s m 7 = 0) || decide (vv s m 3 = (set.testBit m).toNat))) = true ↔ _
      rw [Bool.and_eq_true, ih (by omega), Bool.or_eq_true, decide_eq_true_eq, decide_eq_true_eq]
      constructor
      · rintro ⟨h1, h2⟩ r hr
        rcases Nat.lt_or_ge r m with u | u
        · exact h1 r u
        · rw [show r = m by omega]
          exact h2
      · exact fun h => ⟨fun r hr => h r (by omega), h m (by omega)⟩
  rw [key _ (Nat.le_refl _)]
  have hb : ∀ r, r < s 1 → ((set ^^^ mk (pM s 3 1) (s 1)) &&& mk (pM s 7 1) (s 1)).testBit r = ((set.testBit r ^^ decide (vv s r 3 = 1)) && decide (vv s r 7 = 1)) := fun r hr => by
    rw [Nat.testBit_and, Nat.testBit_xor, mk_bit, mk_bit, decide_eq_true hr, Bool.true_and, Bool.true_and]
    rfl
  constructor
  · intro h r hr
    have h1 := hb r hr
    rw [h, Nat.zero_testBit] at h1
    have c7 := hW.c1 hr (x := 7) (by omega)
    have c3 := hW.c1 hr (x := 3) (by omega)
    rcases (show vv s r 7 = 0 ∨ vv s r 7 = 1 by omega) with q | q
    · exact Or.inl q
    · refine Or.inr ?_
      rw [q] at h1
      rcases (show vv s r 3 = 0 ∨ vv s r 3 = 1 by omega) with u | u <;> rw [u] at h1 ⊢ <;> cases h9 : set.testBit r <;> rw [h9] at h1 <;> first | rfl | cases h1
  · intro h
    apply Nat.eq_of_testBit_eq
    intro r
    rw [Nat.zero_testBit]
    by_cases hr : r < s 1
    · rw [hb r hr]
      have c7 := hW.c1 hr (x := 7) (by omega)
      have c3 := hW.c1 hr (x := 3) (by omega)
      rcases h r hr with q | q
      · rw [q]
        simp
      · rw [q]
        cases set.testBit r <;> simp
    · rw [Nat.testBit_and, mk_bit (pM s 7 1), decide_eq_false hr, Bool.false_and, Bool.and_false]
theorem stC_iff {s : Nat → Nat} {B set : Nat} (hW : Wt s B) : stA (dwS s set) (s 1) = stC s set (mk (stO s set) (s 1)) (s 1) := by
  have hon : onS (dwS s set) = s 0 ||| mk (stO s set) (s 1) <<< 8 := by
    unfold onS
    rw [dwS_hd _ _ (show 0 < 3 by decide), dwS_hd _ _ (show 1 < 3 by decide), mk_congr (q := stO s set) (fun i _ => ?_)]
    unfold clB stO
    rw [dwS_v _ _ i 6 (by decide), dwS_v _ _ i 3 (by decide), dwS_v _ _ i 5 (by decide), if_neg (by decide), if_neg (by decide), if_pos rfl, if_neg (by decide), if_pos rfl, bit_d]
    simp
  have key : ∀ m, m ≤ s 1 → stA (dwS s set) m = stC s set (mk (stO s set) (s 1)) m := by
    intro m
    induction m with
    | zero => exact fun _ => rfl
    | succ m ih =>
      intro hm
      show (stA (dwS s set) m && (decide (vv (dwS s set) m 7 = 1) || (cnd (dwS s set) m (onS (dwS s set)) == decide (vv (dwS s set) m 3 = 1)))) = (stC s set (mk (stO s set) (s 1)) m && (decide (vv s m 7 = 1) || (cnd s m (s 0 ||| mk (stO s set) (s 1) <<< 8) == set.testBit m)))
      rw [ih (by omega), hon, dwS_v _ _ m 7 (by decide), dwS_v _ _ m 3 (by decide), if_neg (by decide), if_neg (by decide), if_pos rfl, bit_d]
      rw [cnd_congr (s := s) (t := dwS s set) (hW.m6 (by omega)) (fun x h1 h2 => by rw [dwS_v _ _ m x h2, if_neg (by omega), if_neg (by omega)])]
  exact key _ (Nat.le_refl _)
theorem mk_two {p : Nat → Bool} {r : Nat} (h0 : p (2 * r) = false) (h1 : p (2 * r + 1) = false) : mk p (2 * (r + 1)) = mk p (2 * r) := by
  rw [show 2 * (r + 1) = 2 * r + 1 + 1 by omega]
  show (mk p (2 * r) ||| (if p (2 * r) then 1 <<< (2 * r) else 0)) ||| (if p (2 * r + 1) then 1 <<< (2 * r + 1) else 0) = _
  rw [h0, h1]
  simp
theorem mk_st (p : Nat → Bool) (n : Nat) : mk p (n + 1) = mk p n ||| (if p n then 1 <<< n else 0) := rfl
