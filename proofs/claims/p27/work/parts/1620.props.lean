/-! What the law asks of a row: how many events wait, and in which order -/
def JV (M : Bk) : Prop := Iv (M 0) ∧ ∀ i, i < M 5 0 → Iv (pst M i)
theorem p5_le {M : Bk} (h6 : M 5 0 ≤ 6) : p5 M ≤ 5 := by
  unfold p5
  split <;> omega
theorem JV.op {M : Bk} {s : Nat → Nat} (h : JV M) (h6 : M 5 0 ≤ 6) (hs : Iv s) : JV (opM M s) := by
  refine ⟨hs, fun i hi => ?_⟩
  rw [opM_50] at hi
  by_cases e : i < p5 M
  · rw [opM_p1 _ _ e]
    refine h.2 _ ?_
    unfold p5 at e
    split
    · rename_i e6
      rw [if_pos e6] at e
      omega
    · rename_i e6
      rw [if_neg e6] at e
      exact e
  · have ei : i = p5 M := by omega
    rw [ei, opM_p2 _ _ h.1.1]
    exact h.1
theorem un_of {M : Bk} (h : 0 < M 5 0) : unM M = rset (bset M 5 0 (M 5 0 - 1)) 0 (pst M (M 5 0 - 1)) := by
  unfold unM
  rw [if_neg (by omega)]
theorem un_0 {M : Bk} (h : 0 < M 5 0) : unM M 0 = pst M (M 5 0 - 1) := by rw [un_of h, rset_eq]
theorem un_5 {M : Bk} (h : 0 < M 5 0) : unM M 5 = upN (M 5) 0 (M 5 0 - 1) := by rw [un_of h, rset_ne _ _ (by decide), bset_eq]
theorem un_50 {M : Bk} (h : 0 < M 5 0) : unM M 5 0 = M 5 0 - 1 := by rw [un_5 h, upN_self]
theorem un_51 {M : Bk} (h : 0 < M 5 0) : unM M 5 1 = M 5 1 := by rw [un_5 h, upN_ne _ _ _ (by decide)]
theorem un_1 {M : Bk} (h : 0 < M 5 0) : unM M 1 = M 1 := by rw [un_of h, rset_ne _ _ (by decide), bset_ne _ _ _ (by decide)]
theorem un_p {M : Bk} (h : 0 < M 5 0) (i : Nat) : pst (unM M) i = pst M i := by
  unfold pst
  rw [un_1 h]
theorem JV.un {M : Bk} (h : JV M) (h0 : 0 < M 5 0) : JV (unM M) := by
  refine ⟨by rw [un_0 h0]; exact h.2 _ (by omega), fun i hi => ?_⟩
  rw [un_50 h0] at hi
  rw [un_p h0]
  exact h.2 _ (by omega)
def wcn (s : Nat → Nat) : Nat → Nat
  | 0 => 0
  | e + 1 => wcn s e + (if wtB s e then 1 else 0)
theorem wcn_4 {s : Nat → Nat} {B : Nat} (hW : Wt s B) : ∀ r, r ≤ s 1 → wcn s (4 * r) = cn2 s r
  | 0, _ => rfl
  | r + 1, hr => by
    have ih := wcn_4 hW r (by omega)
    have h8 := hW.c8 (r := r) (by omega)
    have h10 := hW.c10 (r := r) (by omega)
    show wcn s (4 * r) + (if wtB s (4 * r) then 1 else 0) + (if wtB s (4 * r + 1) then 1 else 0) + (if wtB s (4 * r + 2) then 1 else 0) + (if wtB s (4 * r + 3) then 1 else 0) = cn2 s r + ((if 0 < vv s r 8 then 1 else 0) + vv s r 10)
    have d0 : (4 * r) / 4 = r := by omega
    have d1 : (4 * r + 1) / 4 = r := by omega
    have d2 : (4 * r + 2) / 4 = r := by omega
    have m0 : (4 * r) % 4 = 0 := by omega
    have m1 : (4 * r + 1) % 4 = 1 := by omega
    have m2 : (4 * r + 2) % 4 = 2 := by omega
    have m3 : (4 * r + 3) % 4 = 3 := by omega
    have w0 : wtB s (4 * r) = decide (vv s r 8 = 1) := by
      unfold wtB
      rw [d0, m0, if_neg (by decide)]
      simp
    have w1 : wtB s (4 * r + 1) = decide (vv s r 8 = 2) := by
      unfold wtB
      rw [d1, m1, if_neg (by decide)]
      simp
    have w2 : wtB s (4 * r + 2) = decide (vv s r 10 = 1) := by
      unfold wtB
      rw [d2, m2, if_pos rfl]
    have w3 : wtB s (4 * r + 3) = false := by
      unfold wtB
      rw [m3, if_neg (by decide)]
      rfl
    rw [ih, w0, w1, w2, w3]
    simp only [decide_eq_true_eq]
    have a8 : vv s r 8 = 0 ∨ vv s r 8 = 1 ∨ vv s r 8 = 2 := by omega
    have a10 : vv s r 10 = 0 ∨ vv s r 10 = 1 := by omega
    rcases a8 with e | e | e <;> rcases a10 with f | f <;> rw [e, f] <;> simp <;> omega
theorem cn2_le {s : Nat → Nat} {B : Nat} (hW : Wt s B) : ∀ r, r ≤ s 1 → cn2 s r ≤ 2 * r
  | 0, _ => Nat.le_refl _
  | r + 1, hr => by
    have ih := cn2_le hW r (by omega)
    have h10 := hW.c10 (r := r) (by omega)
    show cn2 s r + ((if 0 < vv s r 8 then 1 else 0) + vv s r 10) ≤ _
    split <;> omega
/-- how many of the first m events wait, with a key below t -/
def cK (s : Nat → Nat) (t : Nat) : Nat → Nat
  | 0 => 0
  | m + 1 => cK s t m + (if wtB s m && decide (Ky s false m < t) then 1 else 0)
theorem ahc_K {s : Nat → Nat} {e : Nat} (he : e < 32) : ∀ m, m ≤ 32 → ahc s e m = cK s (Ky s false e) m
  | 0, _ => rfl
  | m + 1, hm => by
    show ahc s e m + _ = cK s _ m + _
    rw [ahc_K he m (by omega), ahB_Ky (by omega) he]
theorem cK_0 (s : Nat → Nat) : ∀ m, cK s 0 m = 0
  | 0 => rfl
  | m + 1 => by
    show cK s 0 m + _ = 0
    rw [cK_0 s m]
    simp
theorem cK_le (s : Nat → Nat) (t : Nat) : ∀ m, cK s t m ≤ wcn s m
  | 0 => Nat.le_refl _
  | m + 1 => by
    have ih := cK_le s t m
    show cK s t m + _ ≤ wcn s m + _
    cases wtB s m <;> simp <;> (try split) <;> omega
theorem cK_mono {s : Nat → Nat} {t u : Nat} (h : t ≤ u) : ∀ m, cK s t m ≤ cK s u m
  | 0 => Nat.le_refl _
  | m + 1 => by
    have ih := cK_mono (s := s) h m
    show cK s t m + _ ≤ cK s u m + _
    by_cases q : Ky s false m < t
    · have q2 : Ky s false m < u := by omega
      rw [decide_eq_true q, decide_eq_true q2]
      omega
    · rw [decide_eq_false q]
      simp
      omega
theorem cK_all {s : Nat → Nat} {t : Nat} : ∀ m, (∀ e, e < m → Ky s false e < t) → cK s t m = wcn s m
  | 0, _ => rfl
  | m + 1, h => by
    show cK s t m + _ = wcn s m + _
    rw [cK_all m (fun e he => h e (by omega)), decide_eq_true (h m (by omega)), Bool.and_true]
theorem cK_step {s : Nat → Nat} {t : Nat} : ∀ m, m ≤ 32 → (cK s (t + 1) m = cK s t m ∧ ∀ e, e < m → wtB s e = true → Ky s false e ≠ t) ∨ (cK s (t + 1) m = cK s t m + 1 ∧ ∃ e, e < m ∧ wtB s e = true ∧ Ky s false e = t)
  | 0, _ => Or.inl ⟨rfl, fun e he => absurd he (Nat.not_lt_zero _)⟩
  | m + 1, hm => by
    have s1 : ∀ u, cK s u (m + 1) = cK s u m + (if wtB s m && decide (Ky s false m < u) then 1 else 0) := fun _ => rfl
    by_cases q : wtB s m = true ∧ Ky s false m = t
    · have n1 : decide (Ky s false m < t) = false := decide_eq_false (by omega)
      have n2 : decide (Ky s false m < t + 1) = true := decide_eq_true (by omega)
      rcases cK_step (s := s) (t := t) m (by omega) with ⟨h1, h2⟩ | ⟨h1, e, h2, h3, h4⟩
      · refine Or.inr ⟨?_, m, by omega, q.1, q.2⟩
        rw [s1, s1, n1, n2, q.1, h1]
        rfl
      · exact absurd (Ky_inj (s := s) (rev := false) (a := e) (b := m) (by omega) (by omega) (by rw [h4, q.2])) (by omega)
    · have n3 : (wtB s m && decide (Ky s false m < t + 1)) = (wtB s m && decide (Ky s false m < t)) := by
        cases hw : wtB s m with
        | false => rfl
        | true =>
          have : Ky s false m ≠ t := fun z => q ⟨hw, z⟩
          rw [Bool.true_and, Bool.true_and]
          apply decide_eq_decide.mpr
          omega
      rcases cK_step (s := s) (t := t) m (by omega) with ⟨h1, h2⟩ | ⟨h1, e, h2, h3, h4⟩
      · refine Or.inl ⟨?_, fun e he hw hk => ?_⟩
        · rw [s1, s1, n3, h1]
        · by_cases e2 : e = m
          · subst e2
            exact q ⟨hw, hk⟩
          · exact h2 e (by omega) hw hk
      · refine Or.inr ⟨?_, e, by omega, h3, h4⟩
        rw [s1, s1, n3, h1]
        omega
theorem cK_ivt {s : Nat → Nat} {m k : Nat} (hm : m ≤ 32) : ∀ T, k < cK s T m → ∃ e, e < m ∧ wtB s e = true ∧ cK s (Ky s false e) m = k
  | 0, h => by
    rw [cK_0] at h
    exact absurd h (Nat.not_lt_zero _)
  | T + 1, h => by
    by_cases q : k < cK s T m
    · exact cK_ivt hm T q
    · rcases cK_step (s := s) (t := T) m hm with ⟨h1, h2⟩ | ⟨h1, e, h2, h3, h4⟩
      · rw [h1] at h
        exact absurd h q
      · refine ⟨e, h2, h3, ?_⟩
        rw [h4]
        omega
theorem cK_up {s : Nat → Nat} {m e : Nat} (hm : m ≤ 32) (he : e < m) (hw : wtB s e = true) : cK s (Ky s false e) m < wcn s m := by
  rcases cK_step (s := s) (t := Ky s false e) m hm with ⟨h1, h2⟩ | ⟨h1, _⟩
  · exact absurd rfl (h2 e he hw)
  · have := cK_le s (Ky s false e + 1) m
    omega
theorem rank_ex {s : Nat → Nat} {B k : Nat} (hW : Wt s B) (hk : k < wcn s (4 * s 1)) : ∃ e, e < 4 * s 1 ∧ wtB s e = true ∧ ahc s e (4 * s 1) = k := by
  have h8 := hW.2.1
  have hT : ∀ e, e < 4 * s 1 → Ky s false e < (B + 20) * 32 + 32 := by
    intro e he
    have h1 := rk_lt (rev := false) (e := e) (by omega)
    have h2 := hW.tm he
    unfold Ky
    omega
  rw [← cK_all _ hT] at hk
  obtain ⟨e, h1, h2, h3⟩ := cK_ivt (by omega) _ hk
  exact ⟨e, h1, h2, by rw [ahc_K (by omega) _ (by omega)]; exact h3⟩
theorem evS_y {s : Nat → Nat} {i e : Nat} : ∀ {m}, evS s i m = some e → e < m ∧ wtB s e = true ∧ ahc s e (4 * s 1) = i
  | 0, h => by cases h
  | m + 1, h => by
    have e0 : evS s i (m + 1) = match evS s i m with
      | some e => some e
      | none => if wtB s m && decide (ahc s m (4 * s 1) = i) then some m else none := rfl
    rw [e0] at h
    cases ho : evS s i m with
    | some q =>
      rw [ho] at h
      cases h
      obtain ⟨h1, h2, h3⟩ := evS_y ho
      exact ⟨by omega, h2, h3⟩
    | none =>
      rw [ho] at h
      dsimp only at h
      split at h
      · rename_i q
        cases h
        have q2 := Bool.and_eq_true_iff.mp q
        exact ⟨by omega, q2.1, of_decide_eq_true q2.2⟩
      · cases h
theorem evS_n {s : Nat → Nat} {i : Nat} : ∀ {m}, evS s i m = none → ∀ e, e < m → wtB s e = true → ahc s e (4 * s 1) ≠ i
  | 0, _, e, he, _ => absurd he (Nat.not_lt_zero _)
  | m + 1, h, e, he, hw => by
    have e0 : evS s i (m + 1) = match evS s i m with
      | some e => some e
      | none => if wtB s m && decide (ahc s m (4 * s 1) = i) then some m else none := rfl
    rw [e0] at h
    cases ho : evS s i m with
    | some q =>
      rw [ho] at h
      cases h
    | none =>
      rw [ho] at h
      dsimp only at h
      split at h
      · cases h
      · rename_i q
        by_cases e2 : e = m
        · subst e2
          intro z
          exact q (by rw [hw, decide_eq_true z]; rfl)
        · exact evS_n ho e (by omega) hw
/-- the time of the event with the rank k -/
def evW (s : Nat → Nat) (k : Nat) : Nat := match evS s k (4 * s 1) with
  | none => 0
  | some e => tmO s e
theorem ev_some {s : Nat → Nat} {B k : Nat} (hW : Wt s B) (hk : k < cn2 s (s 1)) : ∃ e, evS s k (4 * s 1) = some e := by
  rw [← wcn_4 hW _ (Nat.le_refl _)] at hk
  obtain ⟨e, h1, h2, h3⟩ := rank_ex hW hk
  cases ho : evS s k (4 * s 1) with
  | some q => exact ⟨q, rfl⟩
  | none => exact absurd h3 (evS_n ho e h1 h2)
theorem ev_val {s : Nat → Nat} {B k : Nat} (hW : Wt s B) (hk : k < cn2 s (s 1)) : evR s k 0 = nI (evW s k) := by
  obtain ⟨e, he⟩ := ev_some hW hk
  unfold evR evW
  rw [he]
  rfl
theorem ev_le {s : Nat → Nat} {B k : Nat} (hW : Wt s B) (hk : k < cn2 s (s 1)) : evW s k ≤ B + 20 := by
  obtain ⟨e, he⟩ := ev_some hW hk
  unfold evW
  rw [he]
  exact hW.tm (evS_y he).1
theorem ev_ge {s : Nat → Nat} {B k : Nat} (hW : Wt s B) (hF : Fu s) (hk : k < cn2 s (s 1)) : s 2 ≤ evW s k := by
  obtain ⟨e, he⟩ := ev_some hW hk
  unfold evW
  rw [he]
  exact hF.ev (evS_y he).1 (evS_y he).2.1
theorem ev_mono {s : Nat → Nat} {B k : Nat} (hW : Wt s B) (hk : k + 1 < cn2 s (s 1)) : evW s k ≤ evW s (k + 1) := by
  have h8 := hW.2.1
  obtain ⟨a, ha⟩ := ev_some hW (k := k) (by omega)
  obtain ⟨b, hb⟩ := ev_some hW hk
  unfold evW
  rw [ha, hb]
  obtain ⟨a1, a2, a3⟩ := evS_y ha
  obtain ⟨b1, b2, b3⟩ := evS_y hb
  rw [ahc_K (by omega) _ (by omega)] at a3 b3
  refine Ky_tm (rev := false) (by omega) (by omega) ?_
  rcases Nat.lt_or_ge (Ky s false b) (Ky s false a) with q | q
  · have := cK_mono (s := s) (Nat.le_of_lt q) (4 * s 1)
    omega
  · exact q
theorem ev_end {s : Nat → Nat} {B : Nat} (hW : Wt s B) : evR s (cn2 s (s 1)) 0 = -9 := by
  have h8 := hW.2.1
  unfold evR
  cases ho : evS s (cn2 s (s 1)) (4 * s 1) with
  | none => rfl
  | some e =>
    obtain ⟨a1, a2, a3⟩ := evS_y ho
    have h1 := cK_up (s := s) (m := 4 * s 1) (e := e) (by omega) a1 a2
    rw [ahc_K (by omega) _ (by omega)] at a3
    rw [wcn_4 hW _ (Nat.le_refl _)] at h1
    omega
theorem wcn_0 {s : Nat → Nat} : ∀ {m}, wcn s m = 0 → ∀ e, e < m → wtB s e = false
  | 0, _, e, he => absurd he (Nat.not_lt_zero _)
  | m + 1, h, e, he => by
    have h : wcn s m + (if wtB s m then 1 else 0) = 0 := h
    by_cases e2 : e = m
    · subst e2
      cases hw : wtB s e with
      | false => rfl
      | true =>
        rw [hw] at h
        simp at h
    · exact wcn_0 (m := m) (by omega) e (by omega)
theorem nxt_0 {s : Nat → Nat} {rev : Bool} (h : ∀ e, e < 4 * s 1 → wtB s e = false) : nx s rev = none := by
  cases ho : nx s rev with
  | none => rfl
  | some e =>
    have h1 := h e (nx_lt ho)
    rw [nxt_wt ho] at h1
    cases h1
theorem quiet_nx {s : Nat → Nat} {B : Nat} {rev : Bool} (hW : Wt s B) (h : cn2 s (s 1) = 0) : nx s rev = none := by
  rw [← wcn_4 hW _ (Nat.le_refl _)] at h
  exact nxt_0 (wcn_0 h)
theorem quiet_nd {s : Nat → Nat} {B : Nat} {rev : Bool} (hW : Wt s B) (h : cn2 s (s 1) = 0) (m : Nat) : ndE s rev m = 256 + mk (stB s 3) (s 1) := by
  have hn := quiet_nx (rev := rev) hW h
  unfold ndE
  rw [stl_none m hn]
  show mk (stB s 3) (s 1) + (if nx s rev = none then 256 else 0) = _
  rw [if_pos hn]
  omega
theorem mk_sh (p : Nat → Bool) {n r : Nat} (hr : r < n) : (mk p n >>> r) &&& 1 = (p r).toNat := by
  have h := mk_bit p n r
  rw [decide_eq_true hr, Bool.true_and] at h
  rw [← h, Nat.and_one_is_mod, Nat.toNat_testBit, Nat.shiftRight_eq_div_pow]
