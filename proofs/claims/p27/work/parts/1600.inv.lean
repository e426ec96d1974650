/-! What stays true of a row from call to call: nothing stands behind the relays' places, and no event that waits is past -/
def Tz (s : Nat → Nat) : Prop := ∀ j, 203 ≤ j → s j = 0
/-- all that waits waits until T at least -/
def Pd (s : Nat → Nat) (T : Nat) : Prop := ∀ r, r < s 1 → (vv s r 8 ≠ 0 → T ≤ vv s r 9) ∧ (vv s r 10 ≠ 0 → T ≤ vv s r 11)
def Fu (s : Nat → Nat) : Prop := Pd s (s 2)
def Iv (s : Nat → Nat) : Prop := Tz s ∧ Fu s
theorem Tz.up {s : Nat → Nat} {k y : Nat} (h : Tz s) (hk : k < 203) : Tz (upN s k y) := fun j hj => by
  rw [upN_ne _ _ _ (by omega)]
  exact h j hj
theorem Tz.ix {s : Nat → Nat} {r x y : Nat} (h : Tz s) (hr : r < 8) (hx : x < 25) : Tz (upN s (ix r x) y) := h.up (by show 3 + 25 * r + x < 203; omega)
theorem Tz.kT {is r : Nat} {t : Nat → Nat} (h : Tz t) (hr : r < 8) : Tz (lkT is t r) := by
  unfold lkT
  exact ((h.ix hr (by decide)).ix hr (by decide)).ix hr (by decide)
theorem Tz.k {on : Nat} {t : Nat → Nat} (h : Tz t) : ∀ m, m ≤ 8 → Tz (lk on t m).2
  | 0, _ => h
  | m + 1, hm => by
    unfold lk
    split
    · exact Tz.k h m (by omega)
    · exact Tz.kT (Tz.k h m (by omega)) (by omega)
theorem Tz.ks {s : Nat → Nat} (h : Tz s) (h8 : s 1 ≤ 8) : Tz (lks s).2 := Tz.k h _ h8
theorem Tz.h1 {s : Nat → Nat} {e : Nat} (h : Tz s) (h8 : s 1 ≤ 8) (he : e < 4 * s 1) : Tz (hp1 s e) := by
  have hr : e / 4 < 8 := by omega
  have h0 := h.up (k := 2) (y := tmO s e) (by decide)
  unfold hp1
  split
  · exact (h0.ix hr (by decide)).ix hr (by decide)
  · split
    · split
      · exact ((((h0.ix hr (by decide)).ix hr (by decide)).ix hr (by decide)).ix hr (by decide)).ix hr (by decide)
      · exact (h0.ix hr (by decide)).ix hr (by decide)
    · exact h0.ix hr (by decide)
theorem hp1_1 (s : Nat → Nat) (e : Nat) : hp1 s e 1 = s 1 := by
  unfold hp1
  split
  · rw [hd_up _ _ _ _ (by decide), hd_up _ _ _ _ (by decide), upN_ne _ _ _ (by decide)]
  · split
    · split
      · rw [hd_up _ _ _ _ (by decide), hd_up _ _ _ _ (by decide), hd_up _ _ _ _ (by decide), hd_up _ _ _ _ (by decide), hd_up _ _ _ _ (by decide), upN_ne _ _ _ (by decide)]
      · rw [hd_up _ _ _ _ (by decide), hd_up _ _ _ _ (by decide), upN_ne _ _ _ (by decide)]
    · rw [hd_up _ _ _ _ (by decide), upN_ne _ _ _ (by decide)]
theorem hp1_t (s : Nat → Nat) (e : Nat) : hp1 s e 2 = tmO s e := by
  unfold hp1
  split
  · rw [hd_up _ _ _ _ (by decide), hd_up _ _ _ _ (by decide), upN_self]
  · split
    · split
      · rw [hd_up _ _ _ _ (by decide), hd_up _ _ _ _ (by decide), hd_up _ _ _ _ (by decide), hd_up _ _ _ _ (by decide), hd_up _ _ _ _ (by decide), upN_self]
      · rw [hd_up _ _ _ _ (by decide), hd_up _ _ _ _ (by decide), upN_self]
    · rw [hd_up _ _ _ _ (by decide), upN_self]
theorem lks_hd (s : Nat → Nat) {j : Nat} (hj : j < 3) : (lks s).2 j = s j := lk_hd _ _ hj _
theorem Tz.hp {s : Nat → Nat} {e : Nat} (h : Tz s) (h8 : s 1 ≤ 8) (he : e < 4 * s 1) : Tz (hap s e) := Tz.ks (h.h1 h8 he) (by rw [hp1_1]; exact h8)
theorem hap_1 (s : Nat → Nat) (e : Nat) : hap s e 1 = s 1 := (lks_hd _ (by decide)).trans (hp1_1 s e)
/-- the coils are looked at: no event comes to lie in the past -/
theorem Fu.kT {is r : Nat} {t : Nat → Nat} (h : Fu t) (hr : r < t 1) : Fu (lkT is t r) := by
  intro q hq
  rw [lkT_hd _ _ _ (by decide)] at hq
  rw [lkT_hd _ _ _ (by decide)]
  obtain ⟨h1, h2⟩ := h q hq
  rw [lkT_oth _ _ _ (x := 10) (by decide) (Or.inr (by decide)), lkT_oth _ _ _ (x := 11) (by decide) (Or.inr (by decide))]
  refine ⟨?_, h2⟩
  by_cases e : q = r
  · subst e
    rw [lkT_8, lkT_9]
    by_cases e3 : vv t q 3 ≠ is
    · rw [if_pos e3, if_pos e3]
      intro _
      omega
    · rw [if_neg e3, if_neg e3]
      intro h8
      refine h1 (fun z => h8 ?_)
      rw [z]
      split <;> rfl
  · rw [lkT_oth _ _ _ (x := 8) (by decide) (Or.inl e), lkT_oth _ _ _ (x := 9) (by decide) (Or.inl e)]
    exact h1
theorem Fu.k {on : Nat} {s : Nat → Nat} (h : Fu s) : ∀ m, m ≤ s 1 → Fu (lk on s m).2
  | 0, _ => h
  | m + 1, hm => by
    have ih := Fu.k (on := on) h m (by omega)
    unfold lk
    split
    · exact ih
    · exact Fu.kT ih (by rw [lk_hd _ _ (by decide)]; omega)
theorem Fu.ks {s : Nat → Nat} (h : Fu s) : Fu (lks s).2 := Fu.k h _ (Nat.le_refl _)
theorem Iv.ks {s : Nat → Nat} (h : Iv s) (h8 : s 1 ≤ 8) : Iv (lks s).2 := ⟨h.1.ks h8, h.2.ks⟩
theorem Wt.c8 {s : Nat → Nat} {B r : Nat} (h : Wt s B) (hr : r < s 1) : vv s r 8 ≤ 2 := by
  have := h.2.2.2 r hr 8 (by decide)
  simpa [bdF] using this
theorem Wt.c10 {s : Nat → Nat} {B r : Nat} (h : Wt s B) (hr : r < s 1) : vv s r 10 ≤ 1 := by
  have := h.2.2.2 r hr 10 (by decide)
  simpa [bdF] using this
/-- an armature's event, and a bounce's end, as events that wait -/
theorem w_arm {s : Nat → Nat} {B r : Nat} (hW : Wt s B) (hr : r < s 1) (h : vv s r 8 ≠ 0) : ∃ e, e < 4 * s 1 ∧ wtB s e = true ∧ tmO s e = vv s r 9 := by
  have h8 := hW.c8 hr
  refine ⟨4 * r + (vv s r 8 - 1), by omega, ?_, ?_⟩
  · unfold wtB
    have e1 : (4 * r + (vv s r 8 - 1)) / 4 = r := by omega
    have e2 : (4 * r + (vv s r 8 - 1)) % 4 = vv s r 8 - 1 := by omega
    rw [e1, e2, if_neg (by omega)]
    simp
    omega
  · unfold tmO
    have e1 : (4 * r + (vv s r 8 - 1)) / 4 = r := by omega
    have e2 : (4 * r + (vv s r 8 - 1)) % 4 = vv s r 8 - 1 := by omega
    rw [e1, e2, if_neg (by omega)]
theorem w_bnc {s : Nat → Nat} {B r : Nat} (hW : Wt s B) (hr : r < s 1) (h : vv s r 10 ≠ 0) : ∃ e, e < 4 * s 1 ∧ wtB s e = true ∧ tmO s e = vv s r 11 := by
  have h8 := hW.c10 hr
  refine ⟨4 * r + 2, by omega, ?_, ?_⟩
  · unfold wtB
    have e1 : (4 * r + 2) / 4 = r := by omega
    have e2 : (4 * r + 2) % 4 = 2 := by omega
    rw [e1, e2, if_pos rfl]
    simp
    omega
  · unfold tmO
    have e1 : (4 * r + 2) / 4 = r := by omega
    have e2 : (4 * r + 2) % 4 = 2 := by omega
    rw [e1, e2, if_pos rfl]
theorem Pd.of {s : Nat → Nat} {B T : Nat} (hW : Wt s B) (h : ∀ e, e < 4 * s 1 → wtB s e = true → T ≤ tmO s e) : Pd s T := by
  intro r hr
  refine ⟨fun h8 => ?_, fun h10 => ?_⟩
  · obtain ⟨e, e1, e2, e3⟩ := w_arm hW hr h8
    rw [← e3]
    exact h e e1 e2
  · obtain ⟨e, e1, e2, e3⟩ := w_bnc hW hr h10
    rw [← e3]
    exact h e e1 e2
theorem Pd.ev {s : Nat → Nat} {T e : Nat} (h : Pd s T) (he : e < 4 * s 1) (hw : wtB s e = true) : T ≤ tmO s e := by
  obtain ⟨h1, h2⟩ := h (e / 4) (by omega)
  unfold wtB at hw
  unfold tmO
  by_cases e2 : e % 4 = 2
  · rw [if_pos e2] at hw ⊢
    have hw := of_decide_eq_true hw
    exact h2 (by omega)
  · rw [if_neg e2] at hw ⊢
    have hw := of_decide_eq_true (Bool.and_eq_true_iff.mp hw).2
    exact h1 (by omega)
theorem Ky_tm {s : Nat → Nat} {rev : Bool} {a b : Nat} (ha : a < 32) (hb : b < 32) (h : Ky s rev a ≤ Ky s rev b) : tmO s a ≤ tmO s b := by
  have h1 := rk_lt (rev := rev) ha
  have h2 := rk_lt (rev := rev) hb
  unfold Ky at h
  omega
theorem nx_min {s : Nat → Nat} {rev : Bool} (h8 : s 1 ≤ 8) {e : Nat} (h : nx s rev = some e) : ∀ e', e' < 4 * s 1 → wtB s e' = true → tmO s e ≤ tmO s e' := by
  intro e' h1 h2
  unfold nx at h
  rcases nxt_best (s := s) (rev := rev) (4 * s 1) (by omega) with ⟨q1, q2⟩ | ⟨q, q1, q2, q3, q4⟩
  · rw [q1] at h
    cases h
  · rw [q1] at h
    cases h
    exact Ky_tm (by omega) (by omega) (q4 e' h1 h2)
theorem nx_not {s : Nat → Nat} {rev : Bool} (h8 : s 1 ≤ 8) (h : nx s rev = none) : ∀ e', e' < 4 * s 1 → wtB s e' = false := by
  unfold nx at h
  rcases nxt_best (s := s) (rev := rev) (4 * s 1) (by omega) with ⟨q1, q2⟩ | ⟨q, q1, q2, q3, q4⟩
  · exact q2
  · rw [q1] at h
    cases h
theorem Fu.h1 {s : Nat → Nat} {B e : Nat} (hW : Wt s B) (hx : nx s false = some e) : Fu (hp1 s e) := by
  have he := nx_lt hx
  have hP : Pd s (tmO s e) := Pd.of hW (nx_min hW.2.1 hx)
  suffices key : ∀ r, r < s 1 → (vv (hp1 s e) r 8 ≠ 0 → tmO s e ≤ vv (hp1 s e) r 9) ∧ (vv (hp1 s e) r 10 ≠ 0 → tmO s e ≤ vv (hp1 s e) r 11) by
    intro r hr
    rw [hp1_1] at hr
    rw [hp1_t]
    exact key r hr
  intro r hr
  obtain ⟨h1, h2⟩ := hP r hr
  have up0 : ∀ x, vv (upN s 2 (tmO s e)) r x = vv s r x := fun x => vv_hd _ _ _ _ _ (by decide)
  unfold hp1
  split
  · rw [vv_oth _ _ _ _ r 8 (by decide) (by decide) (Or.inr (by decide)), vv_oth _ _ _ _ r 8 (by decide) (by decide) (Or.inr (by decide)), vv_oth _ _ _ _ r 9 (by decide) (by decide) (Or.inr (by decide)), vv_oth _ _ _ _ r 9 (by decide) (by decide) (Or.inr (by decide)), up0, up0]
    refine ⟨h1, ?_⟩
    rw [vv_oth _ _ _ _ r 10 (by decide) (by decide) (Or.inr (by decide)), vv_oth _ _ _ _ r 11 (by decide) (by decide) (Or.inr (by decide)), vv_oth _ _ _ _ r 11 (by decide) (by decide) (Or.inr (by decide)), vv_up _ _ _ _ r 10 (by decide) (by decide), up0, up0]
    intro h
    by_cases q : r = e / 4 ∧ 10 = 10
    · rw [if_pos q] at h
      exact absurd rfl h
    · rw [if_neg q] at h
      exact h2 h
  · split
    · split
      · rw [vv_oth _ _ _ _ r 8 (by decide) (by decide) (Or.inr (by decide)), vv_oth _ _ _ _ r 8 (by decide) (by decide) (Or.inr (by decide)), vv_oth _ _ _ _ r 8 (by decide) (by decide) (Or.inr (by decide)), vv_oth _ _ _ _ r 8 (by decide) (by decide) (Or.inr (by decide)), vv_up _ _ _ _ r 8 (by decide) (by decide), up0]
        rw [vv_oth _ _ _ _ r 9 (by decide) (by decide) (Or.inr (by decide)), vv_oth _ _ _ _ r 9 (by decide) (by decide) (Or.inr (by decide)), vv_oth _ _ _ _ r 9 (by decide) (by decide) (Or.inr (by decide)), vv_oth _ _ _ _ r 9 (by decide) (by decide) (Or.inr (by decide)), vv_oth _ _ _ _ r 9 (by decide) (by decide) (Or.inr (by decide)), up0]
        rw [vv_oth _ _ _ _ r 10 (by decide) (by decide) (Or.inr (by decide)), vv_up _ _ _ _ r 10 (by decide) (by decide), vv_up _ _ _ _ r 11 (by decide) (by decide)]
        rw [vv_oth _ _ _ _ r 10 (by decide) (by decide) (Or.inr (by decide)), vv_oth _ _ _ _ r 10 (by decide) (by decide) (Or.inr (by decide)), vv_oth _ _ _ _ r 10 (by decide) (by decide) (Or.inr (by decide)), up0]
        rw [vv_oth _ _ _ _ r 11 (by decide) (by decide) (Or.inr (by decide)), vv_oth _ _ _ _ r 11 (by decide) (by decide) (Or.inr (by decide)), vv_oth _ _ _ _ r 11 (by decide) (by decide) (Or.inr (by decide)), vv_oth _ _ _ _ r 11 (by decide) (by decide) (Or.inr (by decide)), up0]
        by_cases q : r = e / 4
        · rw [if_pos ⟨q, rfl⟩, if_pos ⟨q, rfl⟩, if_pos ⟨q, rfl⟩]
          exact ⟨fun h => absurd rfl h, fun _ => Nat.le_add_right _ _⟩
        · rw [if_neg (fun z => q z.1), if_neg (fun z => q z.1), if_neg (fun z => q z.1)]
          exact ⟨h1, h2⟩
      · rw [vv_oth _ _ _ _ r 8 (by decide) (by decide) (Or.inr (by decide)), vv_up _ _ _ _ r 8 (by decide) (by decide), up0]
        rw [vv_oth _ _ _ _ r 9 (by decide) (by decide) (Or.inr (by decide)), vv_oth _ _ _ _ r 9 (by decide) (by decide) (Or.inr (by decide)), up0]
        rw [vv_oth _ _ _ _ r 10 (by decide) (by decide) (Or.inr (by decide)), vv_oth _ _ _ _ r 10 (by decide) (by decide) (Or.inr (by decide)), up0]
        rw [vv_oth _ _ _ _ r 11 (by decide) (by decide) (Or.inr (by decide)), vv_oth _ _ _ _ r 11 (by decide) (by decide) (Or.inr (by decide)), up0]
        by_cases q : r = e / 4
        · rw [if_pos ⟨q, rfl⟩]
          exact ⟨fun h => absurd rfl h, h2⟩
        · rw [if_neg (fun z => q z.1)]
          exact ⟨h1, h2⟩
    · rw [vv_up _ _ _ _ r 8 (by decide) (by decide), up0]
      rw [vv_oth _ _ _ _ r 9 (by decide) (by decide) (Or.inr (by decide)), up0]
      rw [vv_oth _ _ _ _ r 10 (by decide) (by decide) (Or.inr (by decide)), up0]
      rw [vv_oth _ _ _ _ r 11 (by decide) (by decide) (Or.inr (by decide)), up0]
      by_cases q : r = e / 4
      · rw [if_pos ⟨q, rfl⟩]
        exact ⟨fun h => absurd rfl h, h2⟩
      · rw [if_neg (fun z => q z.1)]
        exact ⟨h1, h2⟩
theorem Iv.hp {s : Nat → Nat} {B e : Nat} (h : Iv s) (hW : Wt s B) (hx : nx s false = some e) : Iv (hap s e) := ⟨h.1.hp hW.2.1 (nx_lt hx), (Fu.h1 hW hx).ks⟩
theorem Iv.st : ∀ {m : Nat} {s : Nat → Nat} {B : Nat}, Iv s → Wt s B → Iv (stl s false m).2
  | 0, s, B, h, _ => h
  | m + 1, s, B, h, hW => by
    cases ho : nx s false with
    | none => rw [stl_none _ ho]; exact h
    | some e =>
      rw [stl_some _ ho]
      exact Iv.st (h.hp hW ho) (hW.hap (nx_lt ho))
theorem Iv.ps {en : Nat} : ∀ {m : Nat} {s : Nat → Nat} {B : Nat}, Iv s → Wt s B → Iv (psL en s m).2
  | 0, s, B, h, _ => h
  | m + 1, s, B, h, hW => by
    unfold psL
    split
    · exact h
    · rename_i e ho
      split
      · exact Iv.ps (h.hp hW ho) (hW.hap (nx_lt ho))
      · exact h
theorem Pd.ps {en : Nat} : ∀ {m : Nat} {s : Nat → Nat} {B : Nat}, Wt s B → (psL en s m).1 < m → Pd (psL en s m).2 en
  | 0, s, B, _, hm => absurd hm (Nat.not_lt_zero _)
  | m + 1, s, B, hW, hm => by
    cases ho : nx s false with
    | none =>
      have e0 : psL en s (m + 1) = (0, s) := by
        show (match nx s false with
          | none => (0, s)
          | some e => if tmO s e ≤ en then ((psL en (hap s e) m).1 + 1, (psL en (hap s e) m).2) else (0, s)) = _
        rw [ho]
      rw [e0]
      exact Pd.of hW (fun e h1 h2 => by rw [nx_not hW.2.1 ho e h1] at h2; cases h2)
    | some e =>
      have e0 : psL en s (m + 1) = if tmO s e ≤ en then ((psL en (hap s e) m).1 + 1, (psL en (hap s e) m).2) else (0, s) := by
        show (match nx s false with
          | none => (0, s)
          | some e => if tmO s e ≤ en then ((psL en (hap s e) m).1 + 1, (psL en (hap s e) m).2) else (0, s)) = _
        rw [ho]
      rw [e0] at hm ⊢
      by_cases hle : tmO s e ≤ en
      · rw [if_pos hle] at hm ⊢
        exact Pd.ps (hW.hap (nx_lt ho)) (by have hm : (psL en (hap s e) m).1 + 1 < m + 1 := hm; omega)
      · rw [if_neg hle]
        exact Pd.of hW (fun e' h1 h2 => Nat.le_trans (Nat.le_of_lt (Nat.lt_of_not_le hle)) (nx_min hW.2.1 ho e' h1 h2))
theorem Pd.hd {s : Nat → Nat} {T t : Nat} (h : Pd s T) : Pd (upN s 2 t) T := by
  intro r hr
  rw [upN_ne _ _ _ (by decide)] at hr
  rw [vv_hd _ _ _ _ _ (by decide), vv_hd _ _ _ _ _ (by decide), vv_hd _ _ _ _ _ (by decide), vv_hd _ _ _ _ _ (by decide)]
  exact h r hr
/-- numbers that no event reads change -/
theorem Fu.gen {s s' : Nat → Nat} (h : Fu s) (h1 : s' 1 = s 1) (h2 : s' 2 = s 2) (hc : ∀ q, q < s 1 → ∀ x, 8 ≤ x → x < 12 → vv s' q x = vv s q x) : Fu s' := by
  intro q hq
  rw [h1] at hq
  rw [h2, hc q hq 8 (by decide) (by decide), hc q hq 9 (by decide) (by decide), hc q hq 10 (by decide) (by decide), hc q hq 11 (by decide) (by decide)]
  exact h q hq
theorem Iv.col {s : Nat → Nat} {r x y : Nat} (h : Iv s) (hr : r < 8) (hx : x < 25) (hn : x < 8 ∨ 12 ≤ x) : Iv (upN s (ix r x) y) :=
  ⟨h.1.ix hr hx, h.2.gen (hd_up _ _ _ _ (by decide)) (hd_up _ _ _ _ (by decide)) (fun q hq x' h8 h12 => vv_oth _ _ _ _ _ _ hx (by omega) (Or.inr (by omega)))⟩
theorem Iv.sd {s : Nat → Nat} {r a b c : Nat} (h : Iv s) (hr : r < 8) : Iv (sdS s r a b c) := ((h.col hr (by decide) (Or.inl (by decide))).col hr (by decide) (Or.inl (by decide))).col hr (by decide) (Or.inl (by decide))
theorem Iv.add {s : Nat → Nat} {a b c : Nat} (h : Iv s) (h7 : s 1 < 8) : Iv (addS s a b c) := by
  refine ⟨?_, ?_⟩
  · unfold addS sdS
    refine ((Tz.ix (Tz.ix (Tz.ix ?_ h7 (by decide)) h7 (by decide)) h7 (by decide)))
    intro j hj
    unfold zrS
    split
    · rfl
    · exact h.1.up (by decide) j hj
  · intro q hq
    rw [addS_hd _ _ _ _ (by decide), if_pos rfl] at hq
    rw [addS_hd _ _ _ _ (by decide), if_neg (by decide), addS_v _ _ _ _ _ _ (by decide), addS_v _ _ _ _ _ _ (by decide), addS_v _ _ _ _ _ _ (by decide), addS_v _ _ _ _ _ _ (by decide)]
    by_cases e : q = s 1
    · rw [if_pos e, if_pos e, if_pos e, if_pos e]
      exact ⟨fun h => absurd rfl h, fun h => absurd rfl h⟩
    · rw [if_neg e, if_neg e, if_neg e, if_neg e]
      exact h.2 q (by omega)
theorem Iv.pr {s : Nat → Nat} {k : Nat} (h : Iv s) : Iv (prS s k) := by
  unfold prS
  exact ⟨h.1.up (by decide), h.2.gen (upN_ne _ _ _ (by decide)) (upN_ne _ _ _ (by decide)) (fun q hq x h8 h12 => vv_hd _ _ _ _ _ (by decide))⟩
theorem Iv.op {s : Nat → Nat} {r : Nat} (h : Iv s) (hr : r < 8) (hk : vv s r 12 < 6) : Iv (opS s r) := by
  unfold opS
  exact ((h.col hr (by omega) (Or.inr (by omega))).col hr (by omega) (Or.inr (by omega))).col hr (by decide) (Or.inr (by decide))
theorem Iv.sc {s : Nat → Nat} {r b : Nat} (h : Iv s) (hr : r < 8) (hb : b < 6) : Iv (scS s r b) := by
  unfold scS
  split
  · rename_i e
    exact h.op hr (by omega)
  · exact h
theorem Iv.cn {s : Nat → Nat} {r b x how : Nat} (h : Iv s) (hr : r < 8) (hb : b < 6) : Iv (cnS s r b x how) := by
  unfold cnS
  exact (h.col hr (by omega) (Or.inr (by omega))).col hr (by omega) (Or.inr (by omega))
theorem Iv.rm {s : Nat → Nat} {r b : Nat} (h : Iv s) (hr : r < 8) (hk : vv s r 12 ≤ 6) : Iv (rmS s r b) := by
  have h0 := h.col (r := r) (x := 12) (y := vv s r 12 - 1) hr (by decide) (Or.inr (by decide))
  refine ⟨?_, ?_⟩
  · intro j hj
    unfold rmS shS
    rw [if_neg (by omega)]
    exact h0.1 j hj
  · refine h0.2.gen ?_ ?_ (fun q hq x h8 h12 => ?_)
    · unfold rmS shS
      rw [if_neg (by omega)]
    · unfold rmS shS
      rw [if_neg (by omega)]
    · show (rmS s r b) (3 + 25 * q + x) = _
      unfold rmS shS
      rw [if_neg (by omega)]
      rfl
