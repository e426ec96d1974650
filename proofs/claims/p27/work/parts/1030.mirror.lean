/-! What the model does, as functions of its row s: keys, relays, time, then 25 numbers a relay -/
def vv (s : Nat → Nat) (r x : Nat) : Nat := s (3 + 25 * r + x)
abbrev ix (r x : Nat) : Nat := 3 + 25 * r + x
theorem vv_up (s : Nat → Nat) (r x y r' x' : Nat) (hx : x < 25) (hx' : x' < 25) : vv (upN s (ix r x) y) r' x' = if r' = r ∧ x' = x then y else vv s r' x' := by
  unfold vv upN ix
  by_cases h : r' = r ∧ x' = x
  · obtain ⟨rfl, rfl⟩ := h
    simp
  · rw [if_neg h, if_neg (by omega)]
theorem vv_same (s : Nat → Nat) (r x y : Nat) : vv (upN s (ix r x) y) r x = y := by
  unfold vv
  exact upN_self _ _ _
theorem vv_oth (s : Nat → Nat) (r x y r' x' : Nat) (hx : x < 25) (hx' : x' < 25) (h : r' ≠ r ∨ x' ≠ x) : vv (upN s (ix r x) y) r' x' = vv s r' x' := by
  rw [vv_up _ _ _ _ _ _ hx hx', if_neg (by omega)]
theorem hd_up (s : Nat → Nat) (r x y : Nat) {j : Nat} (hj : j < 3) : upN s (ix r x) y j = s j := upN_ne _ _ _ (by unfold ix; omega)
theorem vv_hd (s : Nat → Nat) (j y r x : Nat) (hj : j < 3) : vv (upN s j y) r x = vv s r x := upN_ne _ _ _ (by omega)
def mk (p : Nat → Bool) : Nat → Nat
  | 0 => 0
  | n + 1 => mk p n ||| (if p n then 1 <<< n else 0)
theorem mk_bit (p : Nat → Bool) : ∀ n i, (mk p n).testBit i = (decide (i < n) && p i)
  | 0, i => by simp [mk]
  | n + 1, i => by
    show (mk p n ||| (if p n then 1 <<< n else 0)).testBit i = _
    rw [Nat.testBit_or, mk_bit p n i]
    by_cases h : i = n
    · subst h
      cases hp : p i <;> simp
    · have h1 : (if p n then 1 <<< n else 0).testBit i = false := by
        cases p n
        · simp
        · simp only [if_true, Nat.one_shiftLeft]
          rw [Nat.testBit_two_pow]
          simp
          omega
      rw [h1, Bool.or_false]
      have h2 : decide (i < n + 1) = decide (i < n) := by
        apply decide_eq_decide.mpr
        omega
      rw [h2]
theorem mk_lt (p : Nat → Bool) (n : Nat) : mk p n < 2 ^ n := by
  apply Nat.lt_pow_two_of_testBit
  intro i hi
  rw [mk_bit]
  simp
  omega
theorem mk_congr {p q : Nat → Bool} : ∀ {n : Nat}, (∀ i, i < n → p i = q i) → mk p n = mk q n
  | 0, _ => rfl
  | n + 1, h => by
    show mk p n ||| _ = mk q n ||| _
    rw [mk_congr (fun i hi => h i (by omega)), h n (by omega)]
theorem two8 {n : Nat} (h : n ≤ 8) : 2 ^ n ≤ 256 := Nat.pow_le_pow_right (by decide) h
theorem mk_256 (p : Nat → Bool) {n : Nat} (h : n ≤ 8) : mk p n < 256 := Nat.lt_of_lt_of_le (mk_lt p n) (two8 h)
def clB (s : Nat → Nat) (r : Nat) : Bool := decide (vv s r 6 = 2) || (decide (vv s r 6 = 0) && (decide (vv s r 3 = 1) && decide (vv s r 5 = 0)))
def onS (s : Nat → Nat) : Nat := s 0 ||| (mk (clB s) (s 1)) <<< 8
def brB (s : Nat → Nat) (r on b : Nat) : Bool := decide (vv s r (13 + 2 * b) &&& on = vv s r (13 + 2 * b)) && decide (vv s r (13 + 2 * b + 1) &&& on = 0)
def cdB (s : Nat → Nat) (r on : Nat) : Nat → Bool
  | 0 => false
  | b + 1 => cdB s r on b || brB s r on b
def cnd (s : Nat → Nat) (r on : Nat) : Bool := cdB s r on (vv s r 12)
def lkT (is : Nat) (t : Nat → Nat) (r : Nat) : Nat → Nat :=
  upN (upN (upN t (ix r 4) is) (ix r 8) (if vv t r 3 ≠ is then 2 - is else if vv t r 8 = 1 + is then 0 else vv t r 8)) (ix r 9) (if vv t r 3 ≠ is then t 2 + vv t r (if is = 1 then 0 else 1) else vv t r 9)
def lk (on : Nat) (t : Nat → Nat) : Nat → Nat × (Nat → Nat)
  | 0 => (0, t)
  | r + 1 => if (cnd (lk on t r).2 r on).toNat = vv (lk on t r).2 r 4 then lk on t r else ((lk on t r).1 + 1, lkT (cnd (lk on t r).2 r on).toNat (lk on t r).2 r)
def lks (s : Nat → Nat) : Nat × (Nat → Nat) := lk (onS s) s (s 1)
def tmO (s : Nat → Nat) (e : Nat) : Nat := if e % 4 = 2 then vv s (e / 4) 11 else vv s (e / 4) 9
def wtB (s : Nat → Nat) (e : Nat) : Bool := if e % 4 = 2 then decide (vv s (e / 4) 10 = 1) else decide (e % 4 < 2) && decide (vv s (e / 4) 8 = e % 4 + 1)
def ahB (s : Nat → Nat) (a b : Nat) (rev : Bool) : Bool := if tmO s a = tmO s b then (if a / 4 = b / 4 then decide (a < b) else if rev then decide (b < a) else decide (a < b)) else decide (tmO s a < tmO s b)
def ahO (s : Nat → Nat) (e : Nat) (rev : Bool) : Option Nat → Bool
  | none => true
  | some q => ahB s e q rev
def nxt (s : Nat → Nat) (rev : Bool) : Nat → Option Nat
  | 0 => none
  | e + 1 => if wtB s e && ahO s e rev (nxt s rev e) then some e else nxt s rev e
def nx (s : Nat → Nat) (rev : Bool) : Option Nat := nxt s rev (4 * s 1)
def nI9 : Option Nat → Int32
  | none => -9
  | some e => nI e
def hp1 (s : Nat → Nat) (e : Nat) : Nat → Nat :=
  if e % 4 = 2 then upN (upN (upN s 2 (tmO s e)) (ix (e / 4) 10) 0) (ix (e / 4) 5) 0
  else if vv s (e / 4) 7 = 0 then
    (if 0 < vv s (e / 4) 2 then upN (upN (upN (upN (upN (upN s 2 (tmO s e)) (ix (e / 4) 8) 0) (ix (e / 4) 3) (1 - e % 4)) (ix (e / 4) 5) 1) (ix (e / 4) 10) 1) (ix (e / 4) 11) (tmO s e + vv s (e / 4) 2)
    else upN (upN (upN s 2 (tmO s e)) (ix (e / 4) 8) 0) (ix (e / 4) 3) (1 - e % 4))
  else upN (upN s 2 (tmO s e)) (ix (e / 4) 8) 0
def hap (s : Nat → Nat) (e : Nat) : Nat → Nat := (lks (hp1 s e)).2
def stl (s : Nat → Nat) (rev : Bool) : Nat → Nat × (Nat → Nat)
  | 0 => (0, s)
  | m + 1 => match nx s rev with
    | none => (0, s)
    | some e => ((stl (hap s e) rev m).1 + 1, (stl (hap s e) rev m).2)
def stB (s : Nat → Nat) (x : Nat) (r : Nat) : Bool := decide (vv s r x ≠ 0)
def ndE (s : Nat → Nat) (rev : Bool) (m : Nat) : Nat := mk (stB (stl s rev m).2 3) ((stl s rev m).2 1) + (if nx (stl s rev m).2 rev = none then 256 else 0)
/-- how large the numbers may be, with the time at most B -/
def bdF (B : Nat) (x : Nat) : Nat := if x < 2 then 20 else if x = 2 then 5 else if x = 9 ∨ x = 11 then B + 20 else if x = 6 ∨ x = 8 then 2 else if x < 12 then 1 else if x = 12 then 6 else 65535
def Wt (s : Nat → Nat) (B : Nat) : Prop := s 0 < 256 ∧ s 1 ≤ 8 ∧ s 2 ≤ B ∧ ∀ r, r < s 1 → ∀ x, x < 25 → vv s r x ≤ bdF B x
theorem Wt.up {s : Nat → Nat} {B r x y : Nat} (h : Wt s B) (hx : x < 25) (hy : y ≤ bdF B x) : Wt (upN s (ix r x) y) B := by
  obtain ⟨h0, h1, h2, h3⟩ := h
  refine ⟨by rw [hd_up _ _ _ _ (by decide)]; exact h0, by rw [hd_up _ _ _ _ (by decide)]; exact h1, by rw [hd_up _ _ _ _ (by decide)]; exact h2, fun r' hr' x' hx' => ?_⟩
  rw [hd_up _ _ _ _ (by decide)] at hr'
  rw [vv_up _ _ _ _ _ _ hx hx']
  by_cases e : r' = r ∧ x' = x
  · rw [if_pos e, e.2]
    exact hy
  · rw [if_neg e]
    exact h3 r' hr' x' hx'
theorem bdF_mono {B C : Nat} (h : B ≤ C) (x : Nat) : bdF B x ≤ bdF C x := by
  unfold bdF
  repeat' split
  all_goals omega
theorem Wt.mono {s : Nat → Nat} {B C : Nat} (h : Wt s B) (hBC : B ≤ C) : Wt s C := ⟨h.1, h.2.1, Nat.le_trans h.2.2.1 hBC, fun r hr x hx => Nat.le_trans (h.2.2.2 r hr x hx) (bdF_mono hBC x)⟩
theorem Wt.time {s : Nat → Nat} {B t : Nat} (h : Wt s B) (ht : t ≤ B) : Wt (upN s 2 t) B := by
  refine ⟨by rw [upN_ne _ _ _ (by decide)]; exact h.1, by rw [upN_ne _ _ _ (by decide)]; exact h.2.1, by rw [upN_self]; exact ht, fun r hr x hx => ?_⟩
  rw [upN_ne _ _ _ (by decide)] at hr
  rw [vv_hd _ _ _ _ _ (by decide)]
  exact h.2.2.2 r hr x hx
theorem Wt.b {s : Nat → Nat} {B r x : Nat} (h : Wt s B) (hr : r < s 1) (hx : x < 25) : vv s r x ≤ B + 65555 := by
  refine Nat.le_trans (h.2.2.2 r hr x hx) ?_
  unfold bdF
  repeat' split
  all_goals omega
theorem on_lt {s : Nat → Nat} {B : Nat} (h : Wt s B) : onS s < 65536 := by
  unfold onS
  apply Nat.or_lt_two_pow (n := 16)
  · exact Nat.lt_of_lt_of_le h.1 (by decide)
  · rw [Nat.shiftLeft_eq]
    have := mk_256 (clB s) h.2.1
    omega
theorem lkT_hd (is : Nat) (t : Nat → Nat) (r : Nat) {j : Nat} (hj : j < 3) : lkT is t r j = t j := by
  unfold lkT
  rw [hd_up _ _ _ _ hj, hd_up _ _ _ _ hj, hd_up _ _ _ _ hj]
theorem lkT_oth (is : Nat) (t : Nat → Nat) (r : Nat) {r' x : Nat} (hx : x < 25) (h : r' ≠ r ∨ (x ≠ 4 ∧ x ≠ 8 ∧ x ≠ 9)) : vv (lkT is t r) r' x = vv t r' x := by
  unfold lkT
  rw [vv_oth _ _ _ _ _ _ (by decide) hx (by omega), vv_oth _ _ _ _ _ _ (by decide) hx (by omega), vv_oth _ _ _ _ _ _ (by decide) hx (by omega)]
theorem lk_hd (on : Nat) (t : Nat → Nat) {j : Nat} (hj : j < 3) : ∀ m, (lk on t m).2 j = t j
  | 0 => rfl
  | m + 1 => by
    unfold lk
    split
    · exact lk_hd on t hj m
    · show lkT _ _ _ j = _
      rw [lkT_hd _ _ _ hj]
      exact lk_hd on t hj m
theorem lk_ge (on : Nat) (t : Nat → Nat) {r x : Nat} (hx : x < 25) : ∀ m, m ≤ r → vv (lk on t m).2 r x = vv t r x
  | 0, _ => rfl
  | m + 1, h => by
    unfold lk
    split
    · exact lk_ge on t hx m (by omega)
    · show vv (lkT _ _ _) r x = _
      rw [lkT_oth _ _ _ hx (Or.inl (by omega))]
      exact lk_ge on t hx m (by omega)
theorem lk_oth (on : Nat) (t : Nat → Nat) {r x : Nat} (hx : x < 25) (h : x ≠ 4 ∧ x ≠ 8 ∧ x ≠ 9) : ∀ m, vv (lk on t m).2 r x = vv t r x
  | 0 => rfl
  | m + 1 => by
    unfold lk
    split
    · exact lk_oth on t hx h m
    · show vv (lkT _ _ _) r x = _
      rw [lkT_oth _ _ _ hx (Or.inr h)]
      exact lk_oth on t hx h m
theorem cdB_congr {s t : Nat → Nat} {r on : Nat} : ∀ m, m ≤ 6 → (∀ x, 13 ≤ x → x < 25 → vv s r x = vv t r x) → cdB s r on m = cdB t r on m
  | 0, _, _ => rfl
  | m + 1, hm, h => by
    show (cdB s r on m || brB s r on m) = (cdB t r on m || brB t r on m)
    rw [cdB_congr m (by omega) h]
    unfold brB
    rw [h (13 + 2 * m) (by omega) (by omega), h (13 + 2 * m + 1) (by omega) (by omega)]
theorem cnd_congr {s t : Nat → Nat} {r on : Nat} (h6 : vv s r 12 ≤ 6) (h : ∀ x, 12 ≤ x → x < 25 → vv s r x = vv t r x) : cnd s r on = cnd t r on := by
  unfold cnd
  rw [← h 12 (by decide) (by decide)]
  exact cdB_congr _ h6 (fun x h1 h2 => h x (by omega) h2)
theorem Bool.toNat_le1 (p : Bool) : p.toNat ≤ 1 := by cases p <;> decide
theorem Wt.lkT {t : Nat → Nat} {B r is : Nat} (h : Wt t B) (his : is ≤ 1) (hr : r < t 1) : Wt (lkT is t r) B := by
  have hb := h.2.2.2 r hr
  unfold Jvm.Pilot.@@N@@.lkT
  refine Wt.up (Wt.up (Wt.up h (by decide) (by simpa [bdF] using his)) (by decide) ?_) (by decide) ?_
  · have h8 := hb 8 (by decide)
    simp only [bdF] at h8 ⊢
    repeat' split
    all_goals (first | omega | simp_all)
  · have h9 := hb 9 (by decide)
    have h0 := hb 0 (by decide)
    have h1 := hb 1 (by decide)
    have h2 := h.2.2.1
    simp [bdF] at h9 h0 h1 ⊢
    repeat' split
    all_goals omega
theorem Wt.lk {s : Nat → Nat} {B : Nat} (on : Nat) (h : Wt s B) : ∀ m, m ≤ s 1 → Wt (lk on s m).2 B
  | 0, _ => h
  | m + 1, hm => by
    have ih := Wt.lk on h m (by omega)
    unfold Jvm.Pilot.@@N@@.lk
    split
    · exact ih
    · exact Wt.lkT ih (Bool.toNat_le1 _) (by rw [lk_hd _ _ (by decide)]; omega)
theorem Wt.lks {s : Nat → Nat} {B : Nat} (h : Wt s B) : Wt (lks s).2 B := Wt.lk _ h _ (Nat.le_refl _)
theorem Wt.tm {s : Nat → Nat} {B e : Nat} (h : Wt s B) (he : e < 4 * s 1) : tmO s e ≤ B + 20 := by
  have hb := h.2.2.2 (e / 4) (by omega)
  unfold tmO
  split
  · have := hb 11 (by decide); simpa [bdF] using this
  · have := hb 9 (by decide); simpa [bdF] using this
theorem Wt.hp1 {s : Nat → Nat} {B e : Nat} (h : Wt s B) (he : e < 4 * s 1) : Wt (hp1 s e) (B + 20) := by
  have hb := (h.mono (Nat.le_add_right B 20)).2.2.2 (e / 4) (by omega)
  have ht := Wt.tm h he
  have h0 : Wt (upN s 2 (tmO s e)) (B + 20) := (h.mono (Nat.le_add_right B 20)).time ht
  have h2 : vv s (e / 4) 2 ≤ 5 := by have := hb 2 (by decide); simpa [bdF] using this
  unfold Jvm.Pilot.@@N@@.hp1
  split
  · exact (h0.up (by decide) (by simp [bdF])).up (by decide) (by simp [bdF])
  · split
    · split
      · refine ((((h0.up (by decide) (by simp [bdF])).up (by decide) ?_).up (by decide) (by simp [bdF])).up (by decide) (by simp [bdF])).up (by decide) ?_
        · simp [bdF]
        · simp [bdF]; omega
      · refine (h0.up (by decide) (by simp [bdF])).up (by decide) ?_
        simp [bdF]
    · exact h0.up (by decide) (by simp [bdF])
theorem Wt.hap {s : Nat → Nat} {B e : Nat} (h : Wt s B) (he : e < 4 * s 1) : Wt (hap s e) (B + 20) := Wt.lks (Wt.hp1 h he)
theorem nxt_lt {s : Nat → Nat} {rev : Bool} : ∀ {m e : Nat}, nxt s rev m = some e → e < m
  | 0, e, h => by cases h
  | m + 1, e, h => by
    unfold nxt at h
    split at h
    · cases h; omega
    · have := nxt_lt h; omega
theorem nx_lt {s : Nat → Nat} {rev : Bool} {e : Nat} (h : nx s rev = some e) : e < 4 * s 1 := nxt_lt h
theorem nxt_wt {s : Nat → Nat} {rev : Bool} : ∀ {m e : Nat}, nxt s rev m = some e → wtB s e = true
  | 0, e, h => by cases h
  | m + 1, e, h => by
    unfold nxt at h
    split at h
    · rename_i q
      cases h
      exact (Bool.and_eq_true_iff.mp q).1
    · exact nxt_wt h
theorem Wt.stl {rev : Bool} : ∀ {m : Nat} {s : Nat → Nat} {B : Nat}, Wt s B → Wt (stl s rev m).2 (B + 20 * m)
  | 0, s, B, h => h
  | m + 1, s, B, h => by
    unfold Jvm.Pilot.@@N@@.stl
    split
    · exact h.mono (by omega)
    · rename_i e he
      have h1 := Wt.stl (rev := rev) (m := m) (Wt.hap h (nx_lt he))
      have e2 : B + 20 + 20 * m = B + 20 * (m + 1) := by omega
      rw [e2] at h1
      exact h1
