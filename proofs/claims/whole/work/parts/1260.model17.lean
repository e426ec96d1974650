/-! The model: its reader of circuits, against a scanner that takes a character at a time -/
abbrev Rst := Nat × Nat × (Nat → Nat)
def cmb (a b : Nat) : Nat := a + 65536 * b
theorem cmb_lo {a b : Nat} (h : a < 65536) : cmb a b % 65536 = a := by unfold cmb; omega
theorem cmb_hi {a b : Nat} (h : a < 65536) : cmb a b / 65536 = b := by unfold cmb; omega
def wi (g x how : Nat) : Nat := cmb (if how = 1 then clr (g % 65536) x ||| 1 <<< x else clr (g % 65536) x) (if how = 2 then clr (g / 65536) x ||| 1 <<< x else clr (g / 65536) x)
def howO (g x : Nat) : Nat := if (g % 65536).testBit x then 1 else if (g / 65536).testBit x then 2 else 0
def sbj (R c : Nat) : Option Nat := if 97 ≤ c ∧ c ≤ 104 then some (c - 97) else if 65 ≤ c ∧ c < 65 + R then some (c - 65 + 8) else none
def tkL (R k : Nat) (g : Nat → Nat) (c how : Nat) : Option Rst := match sbj R c with
  | none => none
  | some x => if howO (g (k - 1)) x = 3 - how then none else some (2, k, upN g (k - 1) (wi (g (k - 1)) x how))
def tkC (R k : Nat) (g : Nat → Nat) (c : Nat) : Option Rst := if c = 47 then some (3, k, g) else tkL R k g c 1
def tkB (R k : Nat) (g : Nat → Nat) (c : Nat) : Option Rst := if 6 ≤ k then none else if c = 49 then some (4, k + 1, upN g k 0) else tkC R (k + 1) (upN g k 0) c
def tk (R : Nat) (st : Rst) (c : Nat) : Option Rst :=
  if st.1 = 0 then (if c = 48 then some (5, st.2) else tkB R st.2.1 st.2.2 c)
  else if st.1 = 1 then tkB R st.2.1 st.2.2 c
  else if st.1 = 2 then (if c = 43 then some (1, st.2) else tkC R st.2.1 st.2.2 c)
  else if st.1 = 3 then tkL R st.2.1 st.2.2 c 2
  else if st.1 = 4 then (if c = 43 then some (1, st.2) else none)
  else none
def sc (R : Nat) (T : Nat → Nat) (N : Nat) : Nat → Rst → Nat ⊕ Rst
  | 0, st => if st.1 = 2 ∨ st.1 = 4 ∨ st.1 = 5 then .inr st else .inl N
  | m + 1, st => if T (N - (m + 1)) = 32 then sc R T N m st else match tk R st (T (N - (m + 1))) with
    | none => .inl (N - (m + 1))
    | some st' => sc R T N m st'
def scX (f : Nat → Option Rst) (R : Nat) (T : Nat → Nat) (N : Nat) : Nat → Nat ⊕ Rst
  | 0 => .inl N
  | m + 1 => if T (N - (m + 1)) = 32 then scX f R T N m else match f (T (N - (m + 1))) with
    | none => .inl (N - (m + 1))
    | some st' => sc R T N m st'
def skm (T : Nat → Nat) : Nat → Nat → Nat
  | 0, a => a
  | m + 1, a => if T a = 32 then skm T m (a + 1) else a
def sk (T : Nat → Nat) (N a : Nat) : Nat := skm T (N - a) a
def chI (T : Nat → Nat) (N a : Nat) : Int32 := if a < N then nI (T a) else -1
theorem skm_spec (T : Nat → Nat) : ∀ (m a : Nat), a ≤ skm T m a ∧ skm T m a ≤ a + m ∧ (skm T m a < a + m → T (skm T m a) ≠ 32)
  | 0, a => ⟨Nat.le_refl _, Nat.le_refl _, fun h => absurd h (Nat.lt_irrefl _)⟩
  | m + 1, a => by
    unfold skm
    by_cases h : T a = 32
    · rw [if_pos h]
      obtain ⟨h1, h2, h3⟩ := skm_spec T m (a + 1)
      exact ⟨by omega, by omega, fun q => h3 (by omega)⟩
    · rw [if_neg h]
      exact ⟨Nat.le_refl _, by omega, fun _ => h⟩
theorem sk_spec {T : Nat → Nat} {N a : Nat} (h : a ≤ N) : a ≤ sk T N a ∧ sk T N a ≤ N ∧ (sk T N a < N → T (sk T N a) ≠ 32) := by
  obtain ⟨h1, h2, h3⟩ := skm_spec T (N - a) a
  exact ⟨h1, by unfold sk; omega, fun q => h3 (by unfold sk at q; omega)⟩
theorem sk_id {T : Nat → Nat} {N a : Nat} (h : a < N → T a ≠ 32) : sk T N a = a := by
  unfold sk
  rcases Nat.lt_or_ge a N with q | q
  · obtain ⟨m, hm⟩ : ∃ m, N - a = m + 1 := ⟨N - a - 1, by omega⟩
    rw [hm]
    show (if T a = 32 then _ else a) = a
    rw [if_neg (h q)]
  · rw [show N - a = 0 by omega]
    rfl
theorem scX_sk (f : Nat → Option Rst) (R : Nat) (T : Nat → Nat) (N : Nat) : ∀ (m a : Nat), a + m = N → scX f R T N m = scX f R T N (N - skm T m a)
  | 0, a, h => by
    show _ = scX f R T N (N - a)
    rw [show N - a = 0 by omega]
  | m + 1, a, h => by
    have e : N - (m + 1) = a := by omega
    unfold skm
    by_cases q : T a = 32
    · rw [if_pos q, ← scX_sk f R T N m (a + 1) (by omega)]
      show (if T (N - (m + 1)) = 32 then _ else _) = _
      rw [e, if_pos q]
    · rw [if_neg q, show N - a = m + 1 by omega]
theorem sc_sk (R : Nat) (T : Nat → Nat) (N : Nat) (st : Rst) : ∀ (m a : Nat), a + m = N → sc R T N m st = sc R T N (N - skm T m a) st
  | 0, a, h => by
    show _ = sc R T N (N - a) st
    rw [show N - a = 0 by omega]
  | m + 1, a, h => by
    have e : N - (m + 1) = a := by omega
    unfold skm
    by_cases q : T a = 32
    · rw [if_pos q, ← sc_sk R T N st m (a + 1) (by omega)]
      show (if T (N - (m + 1)) = 32 then _ else _) = _
      rw [e, if_pos q]
    · rw [if_neg q, show N - a = m + 1 by omega]
theorem scX_to (f : Nat → Option Rst) (R : Nat) {T : Nat → Nat} {N a : Nat} (h : a ≤ N) : scX f R T N (N - a) = scX f R T N (N - sk T N a) := scX_sk f R T N (N - a) a (by omega)
theorem sc_to (R : Nat) {T : Nat → Nat} {N a : Nat} (st : Rst) (h : a ≤ N) : sc R T N (N - a) st = sc R T N (N - sk T N a) st := sc_sk R T N st (N - a) a (by omega)
theorem scX_at (f : Nat → Option Rst) (R : Nat) {T : Nat → Nat} {N a : Nat} (h : a < N) (h2 : T a ≠ 32) : scX f R T N (N - a) = match f (T a) with | none => .inl a | some st' => sc R T N (N - (a + 1)) st' := by
  obtain ⟨m, hm⟩ : ∃ m, N - a = m + 1 := ⟨N - a - 1, by omega⟩
  have e : N - (m + 1) = a := by omega
  rw [hm, show N - (a + 1) = m by omega]
  show (if T (N - (m + 1)) = 32 then _ else _) = _
  rw [e, if_neg h2]
theorem sc_at (R : Nat) {T : Nat → Nat} {N a : Nat} (st : Rst) (h : a < N) (h2 : T a ≠ 32) : sc R T N (N - a) st = match tk R st (T a) with | none => .inl a | some st' => sc R T N (N - (a + 1)) st' := by
  obtain ⟨m, hm⟩ : ∃ m, N - a = m + 1 := ⟨N - a - 1, by omega⟩
  have e : N - (m + 1) = a := by omega
  rw [hm, show N - (a + 1) = m by omega]
  show (if T (N - (m + 1)) = 32 then _ else _) = _
  rw [e, if_neg h2]
theorem sc_X (R : Nat) (T : Nat → Nat) (N : Nat) (st : Rst) (h : ¬ (st.1 = 2 ∨ st.1 = 4 ∨ st.1 = 5)) : ∀ m, sc R T N m st = scX (tk R st) R T N m
  | 0 => by unfold sc scX; rw [if_neg h]
  | m + 1 => by
    unfold sc scX
    rw [sc_X R T N st h m]
theorem scX_end (f : Nat → Option Rst) (R : Nat) {T : Nat → Nat} {N a : Nat} (h : N ≤ a) : scX f R T N (N - a) = .inl N := by
  rw [show N - a = 0 by omega]
  rfl
/-- the subject of a letter -/
def sbV (R : Nat) (v : Int32) : Option Nat := if nI 97 ≤ v ∧ v ≤ nI 104 then some (tn v - 97) else if (nI 65 ≤ v ∧ v ≤ nI 72) ∧ tn v - 65 < R then some (tn v - 65 + 8) else none
theorem sbV_c {R c : Nat} (hR : R ≤ 8) (hc : c < 256) : sbV R (nI c) = sbj R c := by
  unfold sbV sbj
  have e1 : (nI 97 ≤ nI c ∧ nI c ≤ nI 104) ↔ (97 ≤ c ∧ c ≤ 104) := rngI (by decide) (by decide) (by omega)
  have e2 : (nI 65 ≤ nI c ∧ nI c ≤ nI 72) ↔ (65 ≤ c ∧ c ≤ 72) := rngI (by decide) (by decide) (by omega)
  rw [tn_nI (by omega)]
  simp only [e1, e2]
  by_cases h : 97 ≤ c ∧ c ≤ 104
  · rw [if_pos h, if_pos h]
  · rw [if_neg h, if_neg h]
    by_cases h2 : 65 ≤ c ∧ c < 65 + R
    · rw [if_pos h2, if_pos (by omega)]
    · rw [if_neg h2, if_neg (by omega)]
theorem sbV_m (R : Nat) : sbV R (-1) = none := by
  unfold sbV
  rw [if_neg (by decide), if_neg (fun h => absurd h.1 (by decide))]
theorem sbj_lt {R c x : Nat} (hR : R ≤ 8) (h : sbj R c = some x) : x < 8 + R := by
  unfold sbj at h
  split at h
  · cases h; omega
  · split at h
    · cases h; omega
    · cases h
theorem chI_eq {T : Nat → Nat} {N a c : Nat} (hT : ∀ j, T j < 256) (hc : c < 256) : chI T N a = nI c ↔ a < N ∧ T a = c := by
  unfold chI
  split
  · rename_i h
    rw [nI_inj (by have := hT a; omega) (by omega)]
    exact ⟨fun q => ⟨h, q⟩, fun q => q.2⟩
  · rename_i h
    exact ⟨fun q => absurd (q ▸ nI_pos' (by omega) : (0 : Int32) ≤ -1) (by decide), fun q => absurd q.1 h⟩
theorem chI_neg {T : Nat → Nat} {N a : Nat} (hT : ∀ j, T j < 256) : chI T N a < 0 ↔ N ≤ a := by
  unfold chI
  split
  · rename_i h
    exact ⟨fun q => absurd q (by rw [Int32.not_lt]; exact nI_pos' (by have := hT a; omega)), fun q => absurd q (by omega)⟩
  · exact ⟨fun _ => by omega, fun _ => by decide⟩
theorem sbV_ch {R : Nat} {T : Nat → Nat} {N a : Nat} (hR : R ≤ 8) (hT : ∀ j, T j < 256) : sbV R (chI T N a) = if a < N then sbj R (T a) else none := by
  unfold chI
  split
  · exact sbV_c hR (hT a)
  · exact sbV_m R
theorem rc1 {R k : Nat} {g T : Nat → Nat} {N a : Nat} (ha : a ≤ N) (h : sk T N a < N ∧ T (sk T N a) = 47) : scX (tkC R k g) R T N (N - a) = scX (fun c => tkL R k g c 2) R T N (N - sk T N (sk T N a + 1)) := by
  rw [scX_to _ R ha, scX_at _ R h.1 (by rw [h.2]; decide), h.2]
  show sc R T N (N - (sk T N a + 1)) (3, k, g) = _
  rw [sc_X _ _ _ _ (by show ¬ (3 = 2 ∨ 3 = 4 ∨ 3 = 5); decide), ← scX_to _ R (by omega)]
  rfl
theorem rc2 {R k : Nat} {g T : Nat → Nat} {N a : Nat} (ha : a ≤ N) (h : ¬ (sk T N a < N ∧ T (sk T N a) = 47)) : scX (tkC R k g) R T N (N - a) = scX (fun c => tkL R k g c 1) R T N (N - sk T N (sk T N a)) := by
  obtain ⟨h1, h2, h3⟩ := sk_spec (T := T) ha
  rw [sk_id h3, scX_to _ R ha]
  rcases Nat.lt_or_ge (sk T N a) N with q | q
  · rw [scX_at _ R q (h3 q), scX_at _ R q (h3 q)]
    unfold tkC
    rw [if_neg (fun e => h ⟨q, e⟩)]
  · rw [scX_end _ R q, scX_end _ R q]
theorem rc3 {R k h : Nat} {g T : Nat → Nat} {N a : Nat} (hR : R ≤ 8) (hT : ∀ j, T j < 256) (ha : a ≤ N) (hs : sbV R (chI T N (sk T N a)) = none) : scX (fun c => tkL R k g c h) R T N (N - sk T N a) = .inl (sk T N a) := by
  obtain ⟨h1, h2, h3⟩ := sk_spec (T := T) ha
  rw [sbV_ch hR hT] at hs
  rcases Nat.lt_or_ge (sk T N a) N with q | q
  · rw [if_pos q] at hs
    rw [scX_at _ R q (h3 q)]
    unfold tkL
    rw [hs]
  · rw [scX_end _ R q, show sk T N a = N by omega]
theorem rc4 {R k h x : Nat} {g T : Nat → Nat} {N a : Nat} (hR : R ≤ 8) (hT : ∀ j, T j < 256) (ha : a ≤ N) (hs : sbV R (chI T N (sk T N a)) = some x) : sk T N a < N ∧ x < 8 + R ∧ scX (fun c => tkL R k g c h) R T N (N - sk T N a) = if howO (g (k - 1)) x = 3 - h then .inl (sk T N a) else sc R T N (N - (sk T N a + 1)) (2, k, upN g (k - 1) (wi (g (k - 1)) x h)) := by
  obtain ⟨h1, h2, h3⟩ := sk_spec (T := T) ha
  rw [sbV_ch hR hT] at hs
  rcases Nat.lt_or_ge (sk T N a) N with q | q
  · rw [if_pos q] at hs
    refine ⟨q, sbj_lt hR hs, ?_⟩
    rw [scX_at _ R q (h3 q)]
    unfold tkL
    rw [hs]
    by_cases e : howO (g (k - 1)) x = 3 - h
    · simp only [if_pos e]
    · simp only [if_neg e]
  · rw [if_neg (by omega)] at hs
    cases hs
/-- the row while relay r is read: k branches stand, and g tells them -/
def PRs (s0 : Nat → Nat) (r : Nat) (s : Nat → Nat) (k : Nat) (g : Nat → Nat) (B : Nat) : Prop := Wt s B ∧ (∀ j, j < 3 → s j = s0 j) ∧ (∀ r' x, x < 25 → (r' ≠ r ∨ x < 12) → vv s r' x = vv s0 r' x) ∧ vv s r 12 = k ∧ ∀ j, j < k → g j = cmb (vv s r (13 + 2 * j)) (vv s r (13 + 2 * j + 1))
theorem PRs.r1 {s0 s g : Nat → Nat} {r k B : Nat} (h : PRs s0 r s k g B) : s 1 = s0 1 := h.2.1 1 (by decide)
theorem PRs.k6 {s0 s g : Nat → Nat} {r k B : Nat} (h : PRs s0 r s k g B) (hr : r < s0 1) : k ≤ 6 := by
  have := h.1.2.2.2 r (by rw [h.r1]; exact hr) 12 (by decide)
  rw [h.2.2.2.1] at this
  simpa [bdF] using this
theorem PRs.zero {s0 : Nat → Nat} {r B : Nat} (g : Nat → Nat) (h : Wt s0 B) : PRs s0 r (upN s0 (ix r 12) 0) 0 g B := by
  refine ⟨h.up (by decide) (Nat.zero_le _), fun j hj => hd_up _ _ _ _ hj, fun r' x hx h2 => vv_oth _ _ _ _ _ _ (by decide) hx (by omega), vv_same _ _ _ _, fun j hj => absurd hj (Nat.not_lt_zero _)⟩
theorem PRs.opS {s0 s g : Nat → Nat} {r k B : Nat} (h : PRs s0 r s k g B) (hk : k < 6) : PRs s0 r (opS s r) (k + 1) (upN g k 0) B := by
  obtain ⟨h1, h2, h3, h4, h5⟩ := h
  refine ⟨h1.opS (by omega), fun j hj => ?_, fun r' x hx hc => ?_, ?_, fun j hj => ?_⟩
  · unfold Jvm.Pilot.@@N@@.opS
    rw [hd_up _ _ _ _ hj, hd_up _ _ _ _ hj, hd_up _ _ _ _ hj]
    exact h2 j hj
  · unfold Jvm.Pilot.@@N@@.opS
    rw [vv_oth _ _ _ _ _ _ (by decide) hx (by omega), vv_oth _ _ _ _ _ _ (by omega) hx (by omega), vv_oth _ _ _ _ _ _ (by omega) hx (by omega)]
    exact h3 r' x hx hc
  · unfold Jvm.Pilot.@@N@@.opS
    rw [vv_same, h4]
  · unfold Jvm.Pilot.@@N@@.opS
    rw [vv_oth _ _ _ _ _ (13 + 2 * j) (by decide) (by omega) (by omega), vv_oth _ _ _ _ _ (13 + 2 * j + 1) (by decide) (by omega) (by omega), h4]
    by_cases e : j = k
    · subst e
      rw [upN_self, vv_oth _ _ _ _ _ (13 + 2 * j) (by omega) (by omega) (by omega), vv_same, vv_same]
      rfl
    · rw [upN_ne _ _ _ e, vv_oth _ _ _ _ _ (13 + 2 * j) (by omega) (by omega) (by omega), vv_oth _ _ _ _ _ (13 + 2 * j) (by omega) (by omega) (by omega), vv_oth _ _ _ _ _ (13 + 2 * j + 1) (by omega) (by omega) (by omega), vv_oth _ _ _ _ _ (13 + 2 * j + 1) (by omega) (by omega) (by omega)]
      exact h5 j (by omega)
theorem PRs.cnS {s0 s g : Nat → Nat} {r k B x how : Nat} (h : PRs s0 r s k g B) (hr : r < s0 1) (hk : 1 ≤ k) (hx : x < 16) : PRs s0 r (cnS s r (k - 1) x how) k (upN g (k - 1) (wi (g (k - 1)) x how)) B := by
  have hk6 := h.k6 hr
  obtain ⟨h1, h2, h3, h4, h5⟩ := h
  have hr' : r < s 1 := by rw [h2 1 (by decide)]; exact hr
  have hp := h1.m16 hr' (x := 13 + 2 * (k - 1)) (by omega) (by omega)
  refine ⟨h1.cnS hr' (by omega) hx, fun j hj => ?_, fun r' y hy hc => ?_, ?_, fun j hj => ?_⟩
  · unfold Jvm.Pilot.@@N@@.cnS
    rw [hd_up _ _ _ _ hj, hd_up _ _ _ _ hj]
    exact h2 j hj
  · unfold Jvm.Pilot.@@N@@.cnS
    rw [vv_oth _ _ _ _ _ _ (by omega) hy (by omega), vv_oth _ _ _ _ _ _ (by omega) hy (by omega)]
    exact h3 r' y hy hc
  · unfold Jvm.Pilot.@@N@@.cnS
    rw [vv_oth _ _ _ _ _ _ (by omega) (by decide) (by omega), vv_oth _ _ _ _ _ _ (by omega) (by decide) (by omega), h4]
  · unfold Jvm.Pilot.@@N@@.cnS
    by_cases e : j = k - 1
    · subst e
      rw [upN_self, vv_oth _ _ _ _ _ (13 + 2 * (k - 1)) (by omega) (by omega) (by omega), vv_same, vv_same]
      unfold wi
      rw [h5 (k - 1) (by omega), cmb_lo hp, cmb_hi hp]
    · rw [upN_ne _ _ _ e, vv_oth _ _ _ _ _ (13 + 2 * j) (by omega) (by omega) (by omega), vv_oth _ _ _ _ _ (13 + 2 * j) (by omega) (by omega) (by omega), vv_oth _ _ _ _ _ (13 + 2 * j + 1) (by omega) (by omega) (by omega), vv_oth _ _ _ _ _ (13 + 2 * j + 1) (by omega) (by omega) (by omega)]
      exact h5 j hj
theorem PRs.how {s0 s g : Nat → Nat} {r k B x : Nat} (h : PRs s0 r s k g B) (hr : r < s0 1) (hk : 1 ≤ k) : how3 s r (k - 1) x = howO (g (k - 1)) x := by
  have hk6 := h.k6 hr
  obtain ⟨h1, h2, h3, h4, h5⟩ := h
  have hp := h1.m16 (by rw [h2 1 (by decide)]; exact hr) (x := 13 + 2 * (k - 1)) (by omega) (by omega)
  unfold how3 howO
  rw [h5 (k - 1) (by omega), cmb_lo hp, cmb_hi hp]
def Pup (M : Bk) (s : Nat → Nat) (a : Nat) (M' : Bk) : Prop := M' 0 = s ∧ (∀ i, 1 ≤ i → i ≤ 4 → M' i = M i) ∧ M' 5 0 = M 5 0 ∧ M' 5 1 = M 5 1 ∧ M' 5 3 = a
def PP (n k : Nat) (M : Bk) (s : Nat → Nat) (a : Nat) (w : Nat → AC) : (Nat → AC) → Prop := fun w' => ∃ M', MdAt n w' k M' ∧ Pup M s a M' ∧ Fr k 6 w w'
theorem Pup.mup {M M1 M2 : Bk} {s t : Nat → Nat} {a : Nat} (h : Pup M s a M1) (g : Mup M1 t M2) : Pup M t a M2 := ⟨g.1, fun i h1 h2 => (g.2.1 i h1 h2).trans (h.2.1 i h1 h2), g.2.2.1.trans h.2.2.1, g.2.2.2.1.trans h.2.2.2.1, g.2.2.2.2.trans h.2.2.2.2⟩
theorem Pup.atE {n k a y : Nat} {w : Nat → AC} {M M1 : Bk} {s : Nat → Nat} (hM : MdAt n w k (bset M1 5 3 y)) (h : Pup M s a M1) : ∃ M2, MdAt n w k M2 ∧ Pup M s y M2 := by
  refine ⟨_, hM, ?_, fun i h1 h2 => ?_, ?_, ?_, ?_⟩
  · rw [bset_ne _ _ _ (by decide)]; exact h.1
  · rw [bset_ne _ _ _ (by omega)]; exact h.2.1 i h1 h2
  · rw [bset_eq, upN_ne _ _ _ (by decide)]; exact h.2.2.1
  · rw [bset_eq, upN_ne _ _ _ (by decide)]; exact h.2.2.2.1
  · rw [bset_eq, upN_self]
theorem Pup.putE {n k r x y a : Nat} {w : Nat → AC} {M0 M1 : Bk} {s : Nat → Nat} (hM : MdAt n w k (sset M1 r x y)) (hU : Pup M0 s a M1) : ∃ M2, MdAt n w k M2 ∧ Pup M0 (upN s (ix r x) y) a M2 := ⟨_, hM, hU.mup (by have := (Mup.rf M1).put (ix r x) y; rw [hU.1] at this; exact this)⟩
theorem byI_32 : ∀ c, c < 256 → (byI c = nI 32 ↔ c = 32) := by decide +kernel
theorem byI_and : ∀ c, c < 256 → byI c &&& nI 255 = nI c := by decide +kernel
def Qb (P : Bool → (Nat → AC) → Prop) : Option AV → (Nat → AC) → Prop := fun r w' => ∃ b : Bool, r = some (aZ b.toNat) ∧ P b w'
section
variable {Γ : Gm} {l : Launch} {y : MethodName} {cc : ByteArray} {mL d : Nat} {pc n : Nat} {L st : List AV} {w : Nat → AC}
variable {idx mz np d' k0 : Nat} {z : MethodName} {cz : ByteArray} {rz : Option FieldType} {as st0 : List AV} {Pw : Bool → (Nat → AC) → Prop}
theorem qc_V1b (hΓ : Ok Γ l y cc mL d 0 0) (hd : decode cc pc = .ok (.invokevirtual idx, 3)) (hlk : Cond.methodLink y.cls idx z ∈ wsL_law) (hz : VW z cz mz rz np) (hdd : d' + 1 ≤ d) (hS : Sq l z cz mz rz d' (aR k0 :: as) n w (Qb Pw)) (hnp : as.length = np) {ci : Nat} {fs : List AV} {T : u_T} {N : Nat} (hk : k0 < n) (hw : w k0 = cObj ci fs) (hc : vwCl[ci]? = some (z.cls, T, N)) (hst : st0 = as.reverse ++ aR k0 :: st) (hl8 : st.length ≤ 8) (kk : ∀ b w', Pw b w' → Γ (pc + 3) L (aZ b.toNat :: st) (0, 0) n w') : Γ pc L st0 (0, 0) n w := qc_V hΓ hd hlk hz hdd hS hnp hk hw hc hst hl8 (fun r u h => by obtain ⟨b, rfl, h⟩ := h; exact kk b u h)
end
set_option maxRecDepth 100000 in
set_option maxHeartbeats 4000000 in
theorem c_X6_here (l : Launch) (d : Nat) {n k a : Nat} {w : Nat → AC} {M0 M : Bk} {s : Nat → Nat} (hM : MdAt n w k M) (hP : Pup M0 s a M) (hT : ∀ j, M0 4 j < 256) (hN : M0 5 1 ≤ 60) (ha : a ≤ M0 5 1) : Sq l yX6_here cX6_here 1 (some .int) d [aR k] n w (Qv (aI (chI (M0 4) (M0 5 1) (sk (M0 4) (M0 5 1) a))) (PP n k M0 s (sk (M0 4) (M0 5 1) a) w)) := by
  refine Sp.of (plainFor_of_name (by decide)) (Nat.le_of_ble_eq_true rfl) (fun Γ hΓ hR => ?_)
  show Γ 0 [aR k] [] (0, 0) n w
  obtain ⟨w0, hw0⟩ : ∃ X, X = w ∧ ∀ w2, Fr k 6 X w2 → Fr k 6 w w2 := ⟨w, rfl, fun _ h => h⟩
  obtain ⟨hww, hw0⟩ := hw0
  obtain ⟨z, hz⟩ : ∃ z, sk (M0 4) (M0 5 1) a = z := ⟨_, rfl⟩
  rw [hz] at hR
  have tail : ∀ (w1 : Nat → AC) (M1 : Bk) (a : Nat), MdAt n w1 k M1 → Pup M0 s a M1 → Fr k 6 w0 w1 → a ≤ M0 5 1 → a = z → Γ 38 [aR k] [] (0, 0) n w1 := by
    intro w M a hM hP hF0 ha hz
    have h53 := hP.2.2.2.2
    have h51 := hP.2.2.2.1
    have h4 : M 4 = M0 4 := hP.2.1 4 (by decide) (by decide)
    have hTa : M 4 (M 5 3) < 256 := by rw [h4]; exact hT _
    refine qa_aload_n hΓ dX6_here_38 rfl ?_
    refine qa_get hΓ dX6_here_39 fk_X6_99 hM.lt hM.o rfl ?_
    refine qa_aload_n hΓ dX6_here_42 rfl ?_
    refine qa_get hΓ dX6_here_43 fk_X6_26 hM.lt hM.o rfl ?_
    refine qz_icmp_ge (tgt := 65) hΓ dX6_here_46 (by decide) (by omega) (by omega) (fun h_46 => ?_) (fun h_46 => ?_)
    · refine qa_iconst (v := (-1)) hΓ dX6_here_65 ic_m1 ?_
      exact qr_i hR dX6_here_66 ⟨by rw [← hz, ← h4]; unfold chI; rw [if_neg (by omega)], M, hM, hz ▸ hP, hw0 _ hF0⟩
    · refine qa_aload_n hΓ dX6_here_49 rfl ?_
      refine qa_get hΓ dX6_here_50 fk_X6_22 hM.lt hM.o rfl ?_
      refine qa_aload_n hΓ dX6_here_53 rfl ?_
      refine qa_get hΓ dX6_here_54 fk_X6_99 hM.lt hM.o rfl ?_
      refine qa_bald hΓ dX6_here_57 (hM.lti (i := 5) (by decide)) hM.a4 (vp_in_nI (by omega) (by decide)) ?_
      rw [nI_clamp (by omega)]
      show Γ _ _ (aI (byI (M 4 (M 5 3))) :: _) _ _ _
      refine qa_sipush (v := nI 255) hΓ dX6_here_58 sp_255 ?_
      refine qa_iand hΓ dX6_here_61 ?_
      rw [byI_and _ hTa]
      refine qa_goto (tgt := 66) hΓ dX6_here_62 (by decide) ?_
      exact qr_i hR dX6_here_66 ⟨by rw [← hz, ← h4]; unfold chI; rw [if_pos (by omega), h53], M, hM, hz ▸ hP, hw0 _ hF0⟩
  have loop : ∀ (m : Nat) (w1 : Nat → AC) (M1 : Bk) (a : Nat), a + m = M0 5 1 → MdAt n w1 k M1 → Pup M0 s a M1 → Fr k 6 w0 w1 → skm (M0 4) m a = z → Γ 0 [aR k] [] (0, 0) n w1 := by
    intro m
    induction m with
    | zero =>
      intro w M a hm hM hP hF0 hz
      have h53 := hP.2.2.2.2
      have h51 := hP.2.2.2.1
      have h4 : M 4 = M0 4 := hP.2.1 4 (by decide) (by decide)
      have hTa : M 4 (M 5 3) < 256 := by rw [h4]; exact hT _
      refine qa_aload_n hΓ dX6_here_0 rfl ?_
      refine qa_get hΓ dX6_here_1 fk_X6_99 hM.lt hM.o rfl ?_
      refine qa_aload_n hΓ dX6_here_4 rfl ?_
      refine qa_get hΓ dX6_here_5 fk_X6_26 hM.lt hM.o rfl ?_
      refine qz_icmp_ge (tgt := 38) hΓ dX6_here_8 (by decide) (by omega) (by omega) (fun _ => ?_) (fun h => absurd h (by omega))
      exact tail w M a hM hP hF0 (by omega) hz
    | succ m ih =>
      intro w M a hm hM hP hF0 hz
      have h53 := hP.2.2.2.2
      have h51 := hP.2.2.2.1
      have h4 : M 4 = M0 4 := hP.2.1 4 (by decide) (by decide)
      have hTa : M 4 (M 5 3) < 256 := by rw [h4]; exact hT _
      refine qa_aload_n hΓ dX6_here_0 rfl ?_
      refine qa_get hΓ dX6_here_1 fk_X6_99 hM.lt hM.o rfl ?_
      refine qa_aload_n hΓ dX6_here_4 rfl ?_
      refine qa_get hΓ dX6_here_5 fk_X6_26 hM.lt hM.o rfl ?_
      refine qz_icmp_ge (tgt := 38) hΓ dX6_here_8 (by decide) (by omega) (by omega) (fun h => absurd h (by omega)) (fun _ => ?_)
      refine qa_aload_n hΓ dX6_here_11 rfl ?_
      refine qa_get hΓ dX6_here_12 fk_X6_22 hM.lt hM.o rfl ?_
      refine qa_aload_n hΓ dX6_here_15 rfl ?_
      refine qa_get hΓ dX6_here_16 fk_X6_99 hM.lt hM.o rfl ?_
      refine qa_bald hΓ dX6_here_19 (hM.lti (i := 5) (by decide)) hM.a4 (vp_in_nI (by omega) (by decide)) ?_
      rw [nI_clamp (by omega)]
      show Γ _ _ (aI (byI (M 4 (M 5 3))) :: _) _ _ _
      refine qa_bipush (v := nI 32) hΓ dX6_here_20 bp_32 ?_
      refine qa_icmp_ne (tgt := 38) hΓ dX6_here_22 (by decide) (fun h_22 => ?_) (fun h_22 => ?_)
      · refine tail w M a hM hP hF0 (by omega) ?_
        rw [← hz]
        show _ = (if M0 4 a = 32 then _ else _)
        rw [if_neg (fun q => h_22 ((byI_32 _ hTa).mpr (by rw [h4, h53]; exact q)))]
      · have h32 : M0 4 a = 32 := by have := (byI_32 _ hTa).mp h_22; rw [h4, h53] at this; exact this
        refine qa_aload_n hΓ dX6_here_25 rfl ?_
        refine qa_dup hΓ dX6_here_26 ?_
        refine qa_get hΓ dX6_here_27 fk_X6_99 hM.lt hM.o rfl ?_
        refine qa_iconst (v := nI 1) hΓ dX6_here_30 ic_1 ?_
        refine qz_iadd hΓ dX6_here_31 ?_
        refine qM_put hΓ 3 dX6_here_32 fk_X6_99 (by decide) hM (fun w hM hF => ?_)
        have hF0 := hF0.tr hF
        obtain ⟨M1, hM, hP⟩ := Pup.atE hM hP
        rw [h53] at hP
        refine qa_goto (tgt := 0) hΓ dX6_here_35 (by decide) ?_
        refine ih w M1 (a + 1) (by omega) hM hP hF0 ?_
        rw [← hz]
        show _ = (if M0 4 a = 32 then _ else _)
        rw [if_pos h32]
  exact loop (M0 5 1 - a) w M a (by omega) hM hP (hww ▸ Fr.rf) hz

set_option maxRecDepth 100000 in
set_option maxHeartbeats 4000000 in
theorem c_X6_subject (l : Launch) (d : Nat) (hd : 1 ≤ d) {n k : Nat} {w : Nat → AC} {M : Bk} (hM : MdAt n w k M) (v : Int32) (h8 : M 0 1 ≤ 8) : Sq l yX6_subject cX6_subject 2 (some .int) d [aR k, aI v] n w (Rs (some (aI (nI9 (sbV (M 0 1) v)))) w) := by
  refine Sp.of (plainFor_of_name (by decide)) (Nat.le_of_ble_eq_true rfl) (fun Γ hΓ hR => ?_)
  show Γ 0 [aR k, aI v] [] (0, 0) n w
  refine qa_iload_n hΓ dX6_subject_0 rfl ?_
  refine qa_bipush (v := nI 97) hΓ dX6_subject_1 bp_97 ?_
  refine qa_bipush (v := nI 104) hΓ dX6_subject_3 bp_104 ?_
  refine qc_S1 hΓ dX6_subject_5 lk_X6_33 vw_X6_in (by omega) (c_X6_in l (d - 1) _ _ _) rfl rfl (Nat.le_of_ble_eq_true rfl) ?_
  refine qb_if_eq (tgt := 18) hΓ dX6_subject_8 (by decide) (fun h_8 => ?_) (fun h_8 => ?_)
  · have h97 : ¬ (nI 97 ≤ v ∧ v ≤ nI 104) := of_decide_eq_false h_8
    refine qa_iload_n hΓ dX6_subject_18 rfl ?_
    refine qa_bipush (v := nI 65) hΓ dX6_subject_19 bp_65 ?_
    refine qa_bipush (v := nI 72) hΓ dX6_subject_21 bp_72 ?_
    refine qc_S1 hΓ dX6_subject_23 lk_X6_33 vw_X6_in (by omega) (c_X6_in l (d - 1) _ _ _) rfl rfl (Nat.le_of_ble_eq_true rfl) ?_
    refine qb_if_eq (tgt := 52) hΓ dX6_subject_26 (by decide) (fun h_26 => ?_) (fun h_26 => ?_)
    · have h65 : ¬ (nI 65 ≤ v ∧ v ≤ nI 72) := of_decide_eq_false h_26
      refine qa_bipush (v := -9) hΓ dX6_subject_52 bp_m9 ?_
      exact qr_i hR dX6_subject_54 ⟨by unfold sbV; rw [if_neg h97, if_neg (fun q => h65 q.1)]; rfl, rfl⟩
    · have h65 : nI 65 ≤ v ∧ v ≤ nI 72 := of_decide_eq_true h_26
      obtain ⟨c, hc1, hc2, rfl⟩ := rng (by decide) h65 (by decide)
      refine qa_iload_n hΓ dX6_subject_29 rfl ?_
      refine qa_bipush (v := nI 65) hΓ dX6_subject_30 bp_65 ?_
      refine qz_isub hΓ dX6_subject_32 (by omega) ?_
      refine qa_aload_n hΓ dX6_subject_33 rfl ?_
      refine qa_get hΓ dX6_subject_34 fk_X6_7 hM.lt hM.o rfl ?_
      refine qa_iconst (v := nI 1) hΓ dX6_subject_37 ic_1 ?_
      refine qz_iald hΓ dX6_subject_38 (hM.lti (i := 1) (by decide)) hM.a0 (by omega) (by decide) ?_
      refine qz_icmp_ge (tgt := 52) hΓ dX6_subject_39 (by decide) (by omega) (by omega) (fun h_39 => ?_) (fun h_39 => ?_)
      · refine qa_bipush (v := -9) hΓ dX6_subject_52 bp_m9 ?_
        exact qr_i hR dX6_subject_54 ⟨by unfold sbV; rw [if_neg h97, if_neg (fun q => by have := q.2; rw [tn_nI (by omega)] at this; omega)]; rfl, rfl⟩
      · refine qa_iload_n hΓ dX6_subject_42 rfl ?_
        refine qa_bipush (v := nI 65) hΓ dX6_subject_43 bp_65 ?_
        refine qz_isub hΓ dX6_subject_45 (by omega) ?_
        refine qa_bipush (v := nI 8) hΓ dX6_subject_46 bp_8 ?_
        refine qz_iadd hΓ dX6_subject_48 ?_
        refine qa_goto (tgt := 54) hΓ dX6_subject_49 (by decide) ?_
        exact qr_i hR dX6_subject_54 ⟨by unfold sbV; rw [if_neg h97, if_pos ⟨h65, by rw [tn_nI (by omega)]; omega⟩, tn_nI (by omega)]; rfl, rfl⟩
  · have h97 : nI 97 ≤ v ∧ v ≤ nI 104 := of_decide_eq_true h_8
    obtain ⟨c, hc1, hc2, rfl⟩ := rng (by decide) h97 (by decide)
    refine qa_iload_n hΓ dX6_subject_11 rfl ?_
    refine qa_bipush (v := nI 97) hΓ dX6_subject_12 bp_97 ?_
    refine qz_isub hΓ dX6_subject_14 (by omega) ?_
    refine qa_goto (tgt := 54) hΓ dX6_subject_15 (by decide) ?_
    exact qr_i hR dX6_subject_54 ⟨by unfold sbV; rw [if_pos h97, tn_nI (by omega)]; rfl, rfl⟩

set_option maxRecDepth 100000 in
set_option maxHeartbeats 4000000 in
theorem c_X6_isEnd (l : Launch) (d : Nat) (hd : 1 ≤ d) {n k a : Nat} {w : Nat → AC} {M0 M : Bk} {s : Nat → Nat} (hM : MdAt n w k M) (hP : Pup M0 s a M) (hT : ∀ j, M0 4 j < 256) (hN : M0 5 1 ≤ 60) (ha : a ≤ M0 5 1) : Sq l yX6_isEnd cX6_isEnd 1 (some .boolean) d [aR k] n w (Qv (aZ (decide (M0 5 1 ≤ sk (M0 4) (M0 5 1) a ∨ M0 4 (sk (M0 4) (M0 5 1) a) = 43)).toNat) (PP n k M0 s (sk (M0 4) (M0 5 1) a) w)) := by
  refine Sp.of (plainFor_of_name (by decide)) (Nat.le_of_ble_eq_true rfl) (fun Γ hΓ hR => ?_)
  show Γ 0 [aR k] [] (0, 0) n w
  have hs := sk_spec (T := M0 4) ha
  have hF0 : Fr k 6 w w := Fr.rf
  refine qa_aload_n hΓ dX6_isEnd_0 rfl ?_
  refine qc_V1q hΓ dX6_isEnd_1 lk_X6_102 vw_X6_here (by omega) (c_X6_here l (d - 1) hM hP hT hN ha) rfl hM.lt hM.o rfl rfl (Nat.le_of_ble_eq_true rfl) (fun w hq => ?_)
  obtain ⟨M1, hM, hP, hF⟩ := hq
  have hF0 := hF0.tr hF
  refine qa_if_lt (tgt := 16) hΓ dX6_isEnd_4 (by decide) (fun h_4 => ?_) (fun h_4 => ?_)
  · refine qa_iconst (v := nI 1) hΓ dX6_isEnd_16 ic_1 ?_
    refine qa_goto (tgt := 21) hΓ dX6_isEnd_17 (by decide) ?_
    exact qr_b (p := true) hR dX6_isEnd_21 ⟨by rw [decide_eq_true (Or.inl ((chI_neg hT).mp h_4))], M1, hM, hP, hF0⟩
  · refine qa_aload_n hΓ dX6_isEnd_7 rfl ?_
    refine qc_V1q hΓ dX6_isEnd_8 lk_X6_102 vw_X6_here (by omega) (c_X6_here l (d - 1) hM hP hT hN hs.2.1) rfl hM.lt hM.o rfl rfl (Nat.le_of_ble_eq_true rfl) (fun w hq => ?_)
    obtain ⟨M1, hM, hP, hF⟩ := hq
    have hF0 := hF0.tr hF
    rw [sk_id (fun q => hs.2.2 q)] at hP ⊢
    refine qa_bipush (v := nI 43) hΓ dX6_isEnd_11 bp_43 ?_
    refine qa_icmp_ne (tgt := 20) hΓ dX6_isEnd_13 (by decide) (fun h_13 => ?_) (fun h_13 => ?_)
    · refine qa_iconst (v := nI 0) hΓ dX6_isEnd_20 ic_0 ?_
      exact qr_b (p := false) hR dX6_isEnd_21 ⟨by rw [decide_eq_false (fun q => q.elim (fun q => h_4 ((chI_neg hT).mpr q)) (fun q => h_13 ((chI_eq hT (by decide)).mpr ⟨Nat.lt_of_not_le (fun u => h_4 ((chI_neg hT).mpr u)), q⟩)))], M1, hM, hP, hF0⟩
    · refine qa_iconst (v := nI 1) hΓ dX6_isEnd_16 ic_1 ?_
      refine qa_goto (tgt := 21) hΓ dX6_isEnd_17 (by decide) ?_
      exact qr_b (p := true) hR dX6_isEnd_21 ⟨by rw [decide_eq_true (Or.inr ((chI_eq hT (by decide)).mp h_13).2)], M1, hM, hP, hF0⟩

abbrev scM (M0 : Bk) (a : Nat) (st : Rst) : Nat ⊕ Rst := sc (M0 0 1) (M0 4) (M0 5 1) (M0 5 1 - a) st
abbrev scMX (M0 : Bk) (f : Nat → Option Rst) (a : Nat) : Nat ⊕ Rst := scX f (M0 0 1) (M0 4) (M0 5 1) (M0 5 1 - a)
abbrev skM (M0 : Bk) (a : Nat) : Nat := sk (M0 4) (M0 5 1) a
/-- what reading leaves: it stands behind the condition, or at the error -/
def RC (n k : Nat) (M0 : Bk) (r B kk : Nat) (a : Nat) (z : Nat ⊕ Rst) (w : Nat → AC) (b : Bool) (w' : Nat → AC) : Prop := ∃ M' s' a' k' g', MdAt n w' k M' ∧ Pup M0 s' a' M' ∧ Fr k 6 w w' ∧ PRs (M0 0) r s' k' g' B ∧ a' ≤ M0 5 1 ∧ (if b then a < a' ∧ k' = kk ∧ z = scM M0 a' (2, k', g') else z = .inl a')
theorem howO_le (g x : Nat) : howO g x ≤ 2 := by
  unfold howO
  split
  · omega
  · split <;> omega
theorem nI9_m9 {o : Option Nat} (ho : ∀ x, o = some x → x < 16) : nI9 o = -9 ↔ o = none := by
  cases o with
  | none => exact ⟨fun _ => rfl, fun _ => rfl⟩
  | some x => exact ⟨fun q => absurd q (nI_m9 x (by have := ho x rfl; omega)), fun q => by cases q⟩
set_option maxRecDepth 100000 in
set_option maxHeartbeats 4000000 in
theorem c_X6_readsCondition (l : Launch) (d : Nat) (hd : 3 ≤ d) {n k a : Nat} {w : Nat → AC} {M0 M : Bk} {s : Nat → Nat} (hM : MdAt n w k M) (hP : Pup M0 s a M) (hT : ∀ j, M0 4 j < 256) (hN : M0 5 1 ≤ 60) (ha : a ≤ M0 5 1) {r B kk : Nat} {g : Nat → Nat} (h8 : M0 0 1 ≤ 8) (hr : r < M0 0 1) (hB : B < 900000000) (hq : PRs (M0 0) r s kk g B) (hk1 : 1 ≤ kk) : Sq l yX6_readsCondition cX6_readsCondition 5 (some .boolean) d [aR k, aZ r, aZ (kk - 1)] n w (Qb (RC n k M0 r B kk a (scMX M0 (tkC (M0 0 1) kk g) a) w)) := by
  refine Sp.of (plainFor_of_name (by decide)) (Nat.le_of_ble_eq_true rfl) (fun Γ hΓ hR => ?_)
  show Γ 0 [aR k, aZ r, aZ (kk - 1), none, none] [] (0, 0) n w
  have hs := sk_spec (T := M0 4) ha
  have hF0 : Fr k 6 w w := Fr.rf
  have hk6 := hq.k6 hr
  refine qa_aload_n hΓ dX6_readsCondition_0 rfl ?_
  refine qc_V1q hΓ dX6_readsCondition_1 lk_X6_102 vw_X6_here (by omega) (c_X6_here l (d - 1) hM hP hT hN ha) rfl hM.lt hM.o rfl rfl (Nat.le_of_ble_eq_true rfl) (fun w hq2 => ?_)
  obtain ⟨Mx, hM, hP, hF⟩ := hq2
  have hF0 := hF0.tr hF
  have h53 : Mx 5 3 = skM M0 a := hP.2.2.2.2
  refine qa_bipush (v := nI 47) hΓ dX6_readsCondition_4 bp_47 ?_
  refine qa_icmp_ne (tgt := 13) hΓ dX6_readsCondition_6 (by decide) (fun h_6 => ?_) (fun h_6 => ?_)
  · refine qa_iconst (v := nI 1) hΓ dX6_readsCondition_13 ic_1 ?_
    refine qa_istore_n hΓ dX6_readsCondition_14 (by decide) ?_
    refine qa_aload_n hΓ dX6_readsCondition_15 rfl ?_
    refine qa_dup hΓ dX6_readsCondition_16 ?_
    refine qa_get hΓ dX6_readsCondition_17 fk_X6_99 hM.lt hM.o rfl ?_
    refine qa_iload_n hΓ dX6_readsCondition_20 rfl ?_
    refine qa_iconst (v := nI 1) hΓ dX6_readsCondition_21 ic_1 ?_
    refine qz_isub hΓ dX6_readsCondition_22 (by omega) ?_
    refine qz_iadd hΓ dX6_readsCondition_23 ?_
    refine qM_put hΓ 3 dX6_readsCondition_24 fk_X6_99 (by decide) hM (fun w hM hF => ?_)
    have hF0 := hF0.tr hF
    obtain ⟨M1, hM, hP⟩ := Pup.atE hM hP
    have hz := rc2 (R := M0 0 1) (k := kk) (g := g) ha (fun q => h_6 ((chI_eq hT (by decide)).mpr q))
    have ha1 : skM M0 a ≤ M0 5 1 := hs.2.1
    rw [show Mx 5 3 + (1 - 1) = skM M0 a by rw [h53]; omega] at hP
    refine qa_aload_n hΓ dX6_readsCondition_27 rfl ?_
    refine qa_aload_n hΓ dX6_readsCondition_28 rfl ?_
    refine qc_V1q hΓ dX6_readsCondition_29 lk_X6_102 vw_X6_here (by omega) (c_X6_here l (d - 1) hM hP hT hN ha1) rfl hM.lt hM.o rfl rfl (Nat.le_of_ble_eq_true rfl) (fun w hq2 => ?_)
    obtain ⟨M1, hM, hP, hF⟩ := hq2
    have hF0 := hF0.tr hF
    refine qc_V1 hΓ dX6_readsCondition_32 lk_X6_105 vw_X6_subject (by omega) (c_X6_subject l (d - 1) (by omega) hM _ (by rw [hP.1, hq.r1]; exact h8)) rfl hM.lt hM.o rfl rfl (Nat.le_of_ble_eq_true rfl) ?_
    rw [hP.1, hq.r1]
    have hs2 := sk_spec (T := M0 4) ha1
    obtain ⟨ov, hov⟩ : ∃ X, sbV (M0 0 1) (chI (M0 4) (M0 5 1) (skM M0 (skM M0 a))) = X := ⟨_, rfl⟩
    rw [hov]
    have hov16 : ∀ x, ov = some x → x < 16 := fun x hx => by have := (rc4 (k := kk) (h := 1) (g := g) h8 hT ha1 (hov.trans hx)).2.1; omega
    refine qa_istore hΓ dX6_readsCondition_35 (by decide) ?_
    refine qa_iload hΓ dX6_readsCondition_37 rfl ?_
    refine qa_bipush (v := (-9)) hΓ dX6_readsCondition_39 bp_m9 ?_
    refine qa_icmp_eq (tgt := 58) hΓ dX6_readsCondition_41 (by decide) (fun h_41 => ?_) (fun h_41 => ?_)
    · refine qa_iconst (v := nI 0) hΓ dX6_readsCondition_58 ic_0 ?_
      have hov9 := (nI9_m9 hov16).mp h_41
      refine qr_b (p := false) hR dX6_readsCondition_59 ⟨false, rfl, M1, _, _, kk, g, hM, hP, hF0, hq, hs2.2.1, ?_⟩
      rw [if_neg (by decide)]
      exact hz.trans (rc3 h8 hT ha1 (hov.trans hov9))
    · obtain ⟨x, rfl⟩ : ∃ x, ov = some x := by
        cases ov with
        | none => exact absurd rfl h_41
        | some x => exact ⟨x, rfl⟩
      obtain ⟨hlt, hx8, hz4⟩ := rc4 (k := kk) (h := 1) (g := g) h8 hT ha1 hov
      show Γ _ [aR k, aZ r, aZ (kk - 1), aZ 1, aZ x] _ _ _ _
      refine qa_aload_n hΓ dX6_readsCondition_44 rfl ?_
      refine qa_iload_n hΓ dX6_readsCondition_45 rfl ?_
      refine qa_iload_n hΓ dX6_readsCondition_46 rfl ?_
      refine qa_iload hΓ dX6_readsCondition_47 rfl ?_
      refine qc_V1 hΓ dX6_readsCondition_49 lk_X6_91 vw_X6_how (by omega) (c_X6_how l (d - 1) (by omega) hM _ _ _ (by omega) (by omega) (by omega) (fun y hy => by rw [hP.1]; have := hq.1.b (by rw [hq.r1]; exact hr) hy; omega)) rfl hM.lt hM.o rfl rfl (Nat.le_of_ble_eq_true rfl) ?_
      rw [hP.1, hq.how hr hk1]
      have hh2 := howO_le (g (kk - 1)) x
      refine qa_iconst (v := nI 3) hΓ dX6_readsCondition_52 ic_3 ?_
      refine qa_iload_n hΓ dX6_readsCondition_53 rfl ?_
      refine qz_isub hΓ dX6_readsCondition_54 (by omega) ?_
      refine qz_icmp_ne (tgt := 60) hΓ dX6_readsCondition_55 (by decide) (by omega) (by omega) (fun h_55 => ?_) (fun h_55 => ?_)
      · refine qa_aload_n hΓ dX6_readsCondition_60 rfl ?_
        refine qa_iload_n hΓ dX6_readsCondition_61 rfl ?_
        refine qa_iload_n hΓ dX6_readsCondition_62 rfl ?_
        refine qa_iload hΓ dX6_readsCondition_63 rfl ?_
        refine qa_iload_n hΓ dX6_readsCondition_65 rfl ?_
        refine qc_V0q hΓ dX6_readsCondition_66 lk_X6_95 vw_X6_conditions (by omega) (c_X6_conditions l (d - 1) (by omega) hM (by rw [hP.1]; exact hq.1) hB r (kk - 1) x 1 (by rw [hP.1, hq.r1]; exact hr) (by omega) (by omega) (by omega)) rfl hM.lt hM.o rfl rfl (Nat.le_of_ble_eq_true rfl) (fun w hq2 => ?_)
        obtain ⟨M1, hM, hU2, hF⟩ := hq2
        have hF0 := hF0.tr hF
        rw [hP.1] at hU2
        have hP := hP.mup hU2
        have hq2 := hq.cnS (x := x) (how := 1) hr hk1 (by omega)
        have h53 := hP.2.2.2.2
        refine qa_aload_n hΓ dX6_readsCondition_69 rfl ?_
        refine qa_dup hΓ dX6_readsCondition_70 ?_
        refine qa_get hΓ dX6_readsCondition_71 fk_X6_99 hM.lt hM.o rfl ?_
        refine qa_iconst (v := nI 1) hΓ dX6_readsCondition_74 ic_1 ?_
        refine qz_iadd hΓ dX6_readsCondition_75 ?_
        refine qM_put hΓ 3 dX6_readsCondition_76 fk_X6_99 (by decide) hM (fun w hM hF => ?_)
        have hF0 := hF0.tr hF
        refine qa_iconst (v := nI 1) hΓ dX6_readsCondition_79 ic_1 ?_
        have hF9 := hF0
        obtain ⟨M1, hM, hP⟩ := Pup.atE hM hP
        rw [h53] at hP
        refine qr_b (p := true) hR dX6_readsCondition_80 ⟨true, rfl, M1, _, _, kk, _, hM, hP, hF0, hq2, hlt, ?_⟩
        rw [if_pos rfl]
        exact ⟨Nat.lt_succ_of_le (Nat.le_trans hs.1 hs2.1), rfl, hz.trans (hz4.trans (if_neg h_55))⟩
      · refine qa_iconst (v := nI 0) hΓ dX6_readsCondition_58 ic_0 ?_
        refine qr_b (p := false) hR dX6_readsCondition_59 ⟨false, rfl, M1, _, _, kk, g, hM, hP, hF0, hq, hs2.2.1, ?_⟩
        rw [if_neg (by decide)]
        exact hz.trans (hz4.trans (if_pos h_55))
  · refine qa_iconst (v := nI 2) hΓ dX6_readsCondition_9 ic_2 ?_
    refine qa_goto (tgt := 14) hΓ dX6_readsCondition_10 (by decide) ?_
    refine qa_istore_n hΓ dX6_readsCondition_14 (by decide) ?_
    refine qa_aload_n hΓ dX6_readsCondition_15 rfl ?_
    refine qa_dup hΓ dX6_readsCondition_16 ?_
    refine qa_get hΓ dX6_readsCondition_17 fk_X6_99 hM.lt hM.o rfl ?_
    refine qa_iload_n hΓ dX6_readsCondition_20 rfl ?_
    refine qa_iconst (v := nI 1) hΓ dX6_readsCondition_21 ic_1 ?_
    refine qz_isub hΓ dX6_readsCondition_22 (by omega) ?_
    refine qz_iadd hΓ dX6_readsCondition_23 ?_
    refine qM_put hΓ 3 dX6_readsCondition_24 fk_X6_99 (by decide) hM (fun w hM hF => ?_)
    have hF0 := hF0.tr hF
    obtain ⟨M1, hM, hP⟩ := Pup.atE hM hP
    have hc := (chI_eq hT (by decide)).mp h_6
    have hz := rc1 (R := M0 0 1) (k := kk) (g := g) ha hc
    have ha1 : skM M0 a + 1 ≤ M0 5 1 := hc.1
    rw [show Mx 5 3 + (2 - 1) = skM M0 a + 1 by rw [h53]] at hP
    refine qa_aload_n hΓ dX6_readsCondition_27 rfl ?_
    refine qa_aload_n hΓ dX6_readsCondition_28 rfl ?_
    refine qc_V1q hΓ dX6_readsCondition_29 lk_X6_102 vw_X6_here (by omega) (c_X6_here l (d - 1) hM hP hT hN ha1) rfl hM.lt hM.o rfl rfl (Nat.le_of_ble_eq_true rfl) (fun w hq2 => ?_)
    obtain ⟨M1, hM, hP, hF⟩ := hq2
    have hF0 := hF0.tr hF
    refine qc_V1 hΓ dX6_readsCondition_32 lk_X6_105 vw_X6_subject (by omega) (c_X6_subject l (d - 1) (by omega) hM _ (by rw [hP.1, hq.r1]; exact h8)) rfl hM.lt hM.o rfl rfl (Nat.le_of_ble_eq_true rfl) ?_
    rw [hP.1, hq.r1]
    have hs2 := sk_spec (T := M0 4) ha1
    obtain ⟨ov, hov⟩ : ∃ X, sbV (M0 0 1) (chI (M0 4) (M0 5 1) (skM M0 (skM M0 a + 1))) = X := ⟨_, rfl⟩
    rw [hov]
    have hov16 : ∀ x, ov = some x → x < 16 := fun x hx => by have := (rc4 (k := kk) (h := 2) (g := g) h8 hT ha1 (hov.trans hx)).2.1; omega
    refine qa_istore hΓ dX6_readsCondition_35 (by decide) ?_
    refine qa_iload hΓ dX6_readsCondition_37 rfl ?_
    refine qa_bipush (v := (-9)) hΓ dX6_readsCondition_39 bp_m9 ?_
    refine qa_icmp_eq (tgt := 58) hΓ dX6_readsCondition_41 (by decide) (fun h_41 => ?_) (fun h_41 => ?_)
    · refine qa_iconst (v := nI 0) hΓ dX6_readsCondition_58 ic_0 ?_
      have hov9 := (nI9_m9 hov16).mp h_41
      refine qr_b (p := false) hR dX6_readsCondition_59 ⟨false, rfl, M1, _, _, kk, g, hM, hP, hF0, hq, hs2.2.1, ?_⟩
      rw [if_neg (by decide)]
      exact hz.trans (rc3 h8 hT ha1 (hov.trans hov9))
    · obtain ⟨x, rfl⟩ : ∃ x, ov = some x := by
        cases ov with
        | none => exact absurd rfl h_41
        | some x => exact ⟨x, rfl⟩
      obtain ⟨hlt, hx8, hz4⟩ := rc4 (k := kk) (h := 2) (g := g) h8 hT ha1 hov
      show Γ _ [aR k, aZ r, aZ (kk - 1), aZ 2, aZ x] _ _ _ _
      refine qa_aload_n hΓ dX6_readsCondition_44 rfl ?_
      refine qa_iload_n hΓ dX6_readsCondition_45 rfl ?_
      refine qa_iload_n hΓ dX6_readsCondition_46 rfl ?_
      refine qa_iload hΓ dX6_readsCondition_47 rfl ?_
      refine qc_V1 hΓ dX6_readsCondition_49 lk_X6_91 vw_X6_how (by omega) (c_X6_how l (d - 1) (by omega) hM _ _ _ (by omega) (by omega) (by omega) (fun y hy => by rw [hP.1]; have := hq.1.b (by rw [hq.r1]; exact hr) hy; omega)) rfl hM.lt hM.o rfl rfl (Nat.le_of_ble_eq_true rfl) ?_
      rw [hP.1, hq.how hr hk1]
      have hh2 := howO_le (g (kk - 1)) x
      refine qa_iconst (v := nI 3) hΓ dX6_readsCondition_52 ic_3 ?_
      refine qa_iload_n hΓ dX6_readsCondition_53 rfl ?_
      refine qz_isub hΓ dX6_readsCondition_54 (by omega) ?_
      refine qz_icmp_ne (tgt := 60) hΓ dX6_readsCondition_55 (by decide) (by omega) (by omega) (fun h_55 => ?_) (fun h_55 => ?_)
      · refine qa_aload_n hΓ dX6_readsCondition_60 rfl ?_
        refine qa_iload_n hΓ dX6_readsCondition_61 rfl ?_
        refine qa_iload_n hΓ dX6_readsCondition_62 rfl ?_
        refine qa_iload hΓ dX6_readsCondition_63 rfl ?_
        refine qa_iload_n hΓ dX6_readsCondition_65 rfl ?_
        refine qc_V0q hΓ dX6_readsCondition_66 lk_X6_95 vw_X6_conditions (by omega) (c_X6_conditions l (d - 1) (by omega) hM (by rw [hP.1]; exact hq.1) hB r (kk - 1) x 2 (by rw [hP.1, hq.r1]; exact hr) (by omega) (by omega) (by omega)) rfl hM.lt hM.o rfl rfl (Nat.le_of_ble_eq_true rfl) (fun w hq2 => ?_)
        obtain ⟨M1, hM, hU2, hF⟩ := hq2
        have hF0 := hF0.tr hF
        rw [hP.1] at hU2
        have hP := hP.mup hU2
        have hq2 := hq.cnS (x := x) (how := 2) hr hk1 (by omega)
        have h53 := hP.2.2.2.2
        refine qa_aload_n hΓ dX6_readsCondition_69 rfl ?_
        refine qa_dup hΓ dX6_readsCondition_70 ?_
        refine qa_get hΓ dX6_readsCondition_71 fk_X6_99 hM.lt hM.o rfl ?_
        refine qa_iconst (v := nI 1) hΓ dX6_readsCondition_74 ic_1 ?_
        refine qz_iadd hΓ dX6_readsCondition_75 ?_
        refine qM_put hΓ 3 dX6_readsCondition_76 fk_X6_99 (by decide) hM (fun w hM hF => ?_)
        have hF0 := hF0.tr hF
        refine qa_iconst (v := nI 1) hΓ dX6_readsCondition_79 ic_1 ?_
        have hF9 := hF0
        obtain ⟨M1, hM, hP⟩ := Pup.atE hM hP
        rw [h53] at hP
        refine qr_b (p := true) hR dX6_readsCondition_80 ⟨true, rfl, M1, _, _, kk, _, hM, hP, hF0, hq2, hlt, ?_⟩
        rw [if_pos rfl]
        exact ⟨Nat.lt_succ_of_le (Nat.le_trans hs.1 (Nat.le_trans (Nat.le_succ _) hs2.1)), rfl, hz.trans (hz4.trans (if_neg h_55))⟩
      · refine qa_iconst (v := nI 0) hΓ dX6_readsCondition_58 ic_0 ?_
        refine qr_b (p := false) hR dX6_readsCondition_59 ⟨false, rfl, M1, _, _, kk, g, hM, hP, hF0, hq, hs2.2.1, ?_⟩
        rw [if_neg (by decide)]
        exact hz.trans (hz4.trans (if_pos h_55))

def RB (n k : Nat) (M0 : Bk) (r B : Nat) (a : Nat) (z : Nat ⊕ Rst) (w : Nat → AC) (b : Bool) (w' : Nat → AC) : Prop := ∃ M' s' a' k' g', MdAt n w' k M' ∧ Pup M0 s' a' M' ∧ Fr k 6 w w' ∧ PRs (M0 0) r s' k' g' B ∧ a' ≤ M0 5 1 ∧ (if b then a < a' ∧ (M0 5 1 ≤ a' ∨ M0 4 a' = 43) ∧ (z = scM M0 a' (2, k', g') ∨ z = scM M0 a' (4, k', g')) else z = .inl a')
theorem rb6 {M0 : Bk} {a kk : Nat} {g : Nat → Nat} (ha : a ≤ M0 5 1) (h : kk = 6) : scMX M0 (tkB (M0 0 1) kk g) a = .inl (skM M0 a) := by
  obtain ⟨h1, h2, h3⟩ := sk_spec (T := M0 4) ha
  refine (scX_to _ _ ha).trans ?_
  rcases Nat.lt_or_ge (sk (M0 4) (M0 5 1) a) (M0 5 1) with q | q
  · rw [scX_at _ _ q (h3 q)]
    unfold tkB
    rw [if_pos (by omega)]
  · rw [scX_end _ _ q, show skM M0 a = M0 5 1 from by show sk (M0 4) (M0 5 1) a = _; omega]
theorem rb1 {M0 : Bk} {a kk : Nat} {g : Nat → Nat} (ha : a ≤ M0 5 1) (h : kk < 6) (hc : skM M0 a < M0 5 1 ∧ M0 4 (skM M0 a) = 49) : scMX M0 (tkB (M0 0 1) kk g) a = scM M0 (skM M0 (skM M0 a + 1)) (4, kk + 1, upN g kk 0) := by
  obtain ⟨h1, h2, h3⟩ := sk_spec (T := M0 4) ha
  refine (scX_to _ _ ha).trans ?_
  rw [scX_at _ _ hc.1 (by rw [show M0 4 (sk (M0 4) (M0 5 1) a) = 49 from hc.2]; decide), show M0 4 (sk (M0 4) (M0 5 1) a) = 49 from hc.2]
  have e : tkB (M0 0 1) kk g 49 = some (4, kk + 1, upN g kk 0) := by
    unfold tkB
    rw [if_neg (by omega), if_pos rfl]
  rw [e]
  exact sc_to _ _ hc.1
theorem rb2 {M0 : Bk} {a kk : Nat} {g : Nat → Nat} (ha : a ≤ M0 5 1) (h : kk < 6) (hc : ¬ (skM M0 a < M0 5 1 ∧ M0 4 (skM M0 a) = 49)) : scMX M0 (tkB (M0 0 1) kk g) a = scMX M0 (tkC (M0 0 1) (kk + 1) (upN g kk 0)) (skM M0 a) := by
  obtain ⟨h1, h2, h3⟩ := sk_spec (T := M0 4) ha
  refine (scX_to _ _ ha).trans ?_
  rcases Nat.lt_or_ge (sk (M0 4) (M0 5 1) a) (M0 5 1) with q | q
  · refine (scX_at _ _ q (h3 q)).trans (Eq.trans ?_ (scX_at _ _ q (h3 q)).symm)
    unfold tkB
    rw [if_neg (by omega), if_neg (fun e => hc ⟨q, e⟩)]
  · exact (scX_end _ _ q).trans (scX_end _ _ q).symm
theorem rb3 {M0 : Bk} {a kk : Nat} {g : Nat → Nat} (h : a < M0 5 1) (h2 : M0 4 a ≠ 32) (h3 : M0 4 a ≠ 43) : scM M0 a (2, kk, g) = scMX M0 (tkC (M0 0 1) kk g) a := by
  refine (sc_at _ _ h h2).trans (Eq.trans ?_ (scX_at _ _ h h2).symm)
  show (match (if M0 4 a = 43 then some _ else tkC (M0 0 1) kk g (M0 4 a)) with | none => Sum.inl a | some st' => sc (M0 0 1) (M0 4) (M0 5 1) (M0 5 1 - (a + 1)) st') = _
  rw [if_neg h3]
theorem rb4 {M0 : Bk} {a kk : Nat} {g : Nat → Nat} (h : a < M0 5 1) (h2 : M0 4 a ≠ 32) (h3 : M0 4 a ≠ 43) : scM M0 a (4, kk, g) = .inl a := by
  refine (sc_at _ _ h h2).trans ?_
  show (match (if M0 4 a = 43 then some _ else none) with | none => Sum.inl a | some st' => sc (M0 0 1) (M0 4) (M0 5 1) (M0 5 1 - (a + 1)) st') = _
  rw [if_neg h3]
theorem c_X6_ofP (l : Launch) (d : Nat) {n k a : Nat} {w : Nat → AC} {M0 M : Bk} {s : Nat → Nat} (hM : MdAt n w k M) (hP : Pup M0 s a M) (r x : Nat) (hr : r < 8) (hx : x < 25) : Sq l yX6_of cX6_of 3 (some .int) d [aR k, aZ r, aZ x] n w (Rs (some (aZ (vv s r x))) w) := by
  have h := c_X6_of l d hM r x hr hx
  rw [hP.1] at h
  exact h
theorem bcases (b : Bool) : (b = true ∧ b.toNat = 1) ∨ (b = false ∧ b.toNat = 0) := by cases b <;> simp
set_option maxRecDepth 100000 in
set_option maxHeartbeats 4000000 in
theorem c_X6_readsBranch (l : Launch) (d : Nat) (hd : 4 ≤ d) {n k a : Nat} {w : Nat → AC} {M0 M : Bk} {s : Nat → Nat} (hM : MdAt n w k M) (hP : Pup M0 s a M) (hT : ∀ j, M0 4 j < 256) (hN : M0 5 1 ≤ 60) (ha : a ≤ M0 5 1) {r B kk : Nat} {g : Nat → Nat} (h8 : M0 0 1 ≤ 8) (hr : r < M0 0 1) (hB : B < 900000000) (hq : PRs (M0 0) r s kk g B) : Sq l yX6_readsBranch cX6_readsBranch 5 (some .boolean) d [aR k, aZ r] n w (Qb (RB n k M0 r B a (scMX M0 (tkB (M0 0 1) kk g) a) w)) := by
  refine Sp.of (plainFor_of_name (by decide)) (Nat.le_of_ble_eq_true rfl) (fun Γ hΓ hR => ?_)
  show Γ 0 [aR k, aZ r, none, none, none] [] (0, 0) n w
  obtain ⟨w0, hw0⟩ : ∃ X, X = w ∧ ∀ w2, Fr k 6 X w2 → Fr k 6 w w2 := ⟨w, rfl, fun _ h => h⟩
  obtain ⟨hww, hw0⟩ := hw0
  have hs := sk_spec (T := M0 4) ha
  have hF0 : Fr k 6 w0 w := hww ▸ Fr.rf
  have hk6 := hq.k6 hr
  obtain ⟨z, hz⟩ : ∃ X, scMX M0 (tkB (M0 0 1) kk g) a = X := ⟨_, rfl⟩
  rw [hz] at hR
  
  refine qa_aload_n hΓ dX6_readsBranch_0 rfl ?_
  refine qc_V1q hΓ dX6_readsBranch_1 lk_X6_102 vw_X6_here (by omega) (c_X6_here l (d - 1) hM hP hT hN ha) rfl hM.lt hM.o rfl rfl (Nat.le_of_ble_eq_true rfl) (fun w hq2 => ?_)
  obtain ⟨M1, hM, hP, hF⟩ := hq2
  have hF0 := hF0.tr hF
  refine qa_istore_n hΓ dX6_readsBranch_4 (by decide) ?_
  refine qa_aload_n hΓ dX6_readsBranch_5 rfl ?_
  refine qa_iload_n hΓ dX6_readsBranch_6 rfl ?_
  refine qa_bipush (v := nI 12) hΓ dX6_readsBranch_7 bp_12 ?_
  refine qc_V1 hΓ dX6_readsBranch_9 lk_X6_37 vw_X6_of (by omega) (c_X6_ofP l (d - 1) hM hP r 12 (by omega) (by decide)) rfl hM.lt hM.o rfl rfl (Nat.le_of_ble_eq_true rfl) ?_
  rw [hq.2.2.2.1]
  refine qa_bipush (v := nI 6) hΓ dX6_readsBranch_12 bp_6 ?_
  refine qz_icmp_ne (tgt := 19) hΓ dX6_readsBranch_14 (by decide) (by omega) (by omega) (fun h_14 => ?_) (fun h_14 => ?_)
  · refine qa_aload_n hΓ dX6_readsBranch_19 rfl ?_
    refine qa_iload_n hΓ dX6_readsBranch_20 rfl ?_
    refine qa_bipush (v := nI 12) hΓ dX6_readsBranch_21 bp_12 ?_
    refine qc_V1 hΓ dX6_readsBranch_23 lk_X6_37 vw_X6_of (by omega) (c_X6_ofP l (d - 1) hM hP r 12 (by omega) (by decide)) rfl hM.lt hM.o rfl rfl (Nat.le_of_ble_eq_true rfl) ?_
    rw [hq.2.2.2.1]
    refine qa_istore_n hΓ dX6_readsBranch_26 (by decide) ?_
    refine qa_aload_n hΓ dX6_readsBranch_27 rfl ?_
    refine qa_iload_n hΓ dX6_readsBranch_28 rfl ?_
    refine qc_V0q hΓ dX6_readsBranch_29 lk_X6_88 vw_X6_opensBranch (by omega) (c_X6_opensBranch l (d - 1) (by omega) hM r (by omega) (by rw [hP.1, hq.2.2.2.1]; omega)) rfl hM.lt hM.o rfl rfl (Nat.le_of_ble_eq_true rfl) (fun w hq2 => ?_)
    obtain ⟨M1, hM, hU2, hF⟩ := hq2
    have hF0 := hF0.tr hF
    rw [hP.1] at hU2
    have hP := hP.mup hU2
    have hq := hq.opS (by omega)
    have h53 := hP.2.2.2.2
    refine qa_iload_n hΓ dX6_readsBranch_32 rfl ?_
    refine qa_bipush (v := nI 49) hΓ dX6_readsBranch_33 bp_49 ?_
    refine qa_icmp_ne (tgt := 53) hΓ dX6_readsBranch_35 (by decide) (fun h_35 => ?_) (fun h_35 => ?_)
    · refine qa_aload_n hΓ dX6_readsBranch_53 rfl ?_
      refine qa_iload_n hΓ dX6_readsBranch_54 rfl ?_
      refine qa_iload_n hΓ dX6_readsBranch_55 rfl ?_
      refine qc_V1b hΓ dX6_readsBranch_56 lk_X6_112 vw_X6_readsCondition (by omega) (c_X6_readsCondition (kk := kk + 1) l (d - 1) (by omega) hM hP hT hN hs.2.1 h8 hr hB hq (by omega)) rfl hM.lt hM.o rfl rfl (Nat.le_of_ble_eq_true rfl) (fun b w hq2 => ?_)
      refine qa_istore hΓ dX6_readsBranch_59 (by decide) ?_
      have hz2 := hz.symm.trans (rb2 ha (show kk < 6 by omega) (fun q => h_35 ((chI_eq hT (by decide)).mpr q)))
      have fin : ∀ (w1 : Nat → AC) (M1 : Bk) (s' : Nat → Nat) (a' k' : Nat) (g' : Nat → Nat), MdAt n w1 k M1 → Pup M0 s' a' M1 → Fr k 6 w0 w1 → PRs (M0 0) r s' k' g' B → a' ≤ M0 5 1 → z = .inl a' → Γ 61 [aR k, aZ r, aI (chI (M0 4) (M0 5 1) (skM M0 a)), aZ kk, aZ 0] [] (0, 0) n w1 := by
        intro w M s p k1 g1 hM hP hF0 hq ha hb
        refine qa_iload hΓ dX6_readsBranch_61 rfl ?_
        refine qz_if_eq (tgt := 84) hΓ dX6_readsBranch_63 (by decide) (by decide) (fun _ => ?_) (fun h => absurd h (by decide))
        refine qa_iload hΓ dX6_readsBranch_84 rfl ?_
        refine qr_b (p := false) hR dX6_readsBranch_86 ⟨false, rfl, M, _, _, k1, g1, hM, hP, hw0 _ hF0, hq, ha, ?_⟩
        rw [if_neg (by decide)]
        exact hb
      have loop : ∀ (m : Nat) (w1 : Nat → AC) (M1 : Bk) (s' : Nat → Nat) (a' k' : Nat) (g' : Nat → Nat), M0 5 1 < a' + m → MdAt n w1 k M1 → Pup M0 s' a' M1 → Fr k 6 w0 w1 → PRs (M0 0) r s' k' g' B → a' ≤ M0 5 1 → a < a' → k' = kk + 1 → z = scM M0 a' (2, k', g') → Γ 61 [aR k, aZ r, aI (chI (M0 4) (M0 5 1) (skM M0 a)), aZ kk, aZ 1] [] (0, 0) n w1 := by
        intro m
        induction m with
        | zero => intro w M s p k1 g1 hm; intros; exact absurd hm (by omega)
        | succ m ih =>
          intro w M s p k1 g1 hm hM hP hF0 hq ha hl hk1 hb
          subst hk1
          have hs2 := sk_spec (T := M0 4) ha
          have hb := hb.trans (sc_to _ _ ha)
          refine qa_iload hΓ dX6_readsBranch_61 rfl ?_
          refine qz_if_eq (tgt := 84) hΓ dX6_readsBranch_63 (by decide) (by decide) (fun h => absurd h (by decide)) (fun _ => ?_)
          refine qa_aload_n hΓ dX6_readsBranch_66 rfl ?_
          refine qc_V1q hΓ dX6_readsBranch_67 lk_X6_108 vw_X6_isEnd (by omega) (c_X6_isEnd l (d - 1) (by omega) hM hP hT hN ha) rfl hM.lt hM.o rfl rfl (Nat.le_of_ble_eq_true rfl) (fun w hq2 => ?_)
          obtain ⟨M1, hM, hP, hF⟩ := hq2
          have hF0 := hF0.tr hF
          refine qb_if_ne (tgt := 84) hΓ dX6_readsBranch_70 (by decide) (fun h_70 => ?_) (fun h_70 => ?_)
          · refine qa_iload hΓ dX6_readsBranch_84 rfl ?_
            refine qr_b (p := true) hR dX6_readsBranch_86 ⟨true, rfl, M1, _, _, kk + 1, g1, hM, hP, hw0 _ hF0, hq, hs2.2.1, ?_⟩
            rw [if_pos rfl]
            exact ⟨Nat.lt_of_lt_of_le hl hs2.1, of_decide_eq_true h_70, Or.inl hb⟩
          · have hlt : skM M0 p < M0 5 1 := Nat.lt_of_not_le (fun q => of_decide_eq_false h_70 (Or.inl q))
            have hb3 := hb.trans (rb3 hlt (hs2.2.2 hlt) (fun q => of_decide_eq_false h_70 (Or.inr q)))
            refine qa_aload_n hΓ dX6_readsBranch_73 rfl ?_
            refine qa_iload_n hΓ dX6_readsBranch_74 rfl ?_
            refine qa_iload_n hΓ dX6_readsBranch_75 rfl ?_
            refine qc_V1b hΓ dX6_readsBranch_76 lk_X6_112 vw_X6_readsCondition (by omega) (c_X6_readsCondition (kk := kk + 1) l (d - 1) (by omega) hM hP hT hN hs2.2.1 h8 hr hB hq (by omega)) rfl hM.lt hM.o rfl rfl (Nat.le_of_ble_eq_true rfl) (fun b w hq2 => ?_)
            obtain ⟨M3, s3, a3, k3, g3, hM, hP, hF, hq, ha, hb2⟩ := hq2
            have hF0 := hF0.tr hF
            refine qa_istore hΓ dX6_readsBranch_79 (by decide) ?_
            refine qa_goto (tgt := 61) hΓ dX6_readsBranch_81 (by decide) ?_
            cases b with
            | false =>
              rw [if_neg (by decide)] at hb2
              exact fin w M3 s3 a3 k3 g3 hM hP hF0 hq ha (hb3.trans hb2)
            | true =>
              rw [if_pos rfl] at hb2
              exact ih w M3 s3 a3 k3 g3 (by have := Nat.lt_of_le_of_lt hs2.1 hb2.1; omega) hM hP hF0 hq ha (by have := Nat.lt_of_le_of_lt hs2.1 hb2.1; omega) hb2.2.1 (hb3.trans hb2.2.2)
      obtain ⟨M3, s3, a3, k3, g3, hM, hP, hF, hq, ha3, hb2⟩ := hq2
      have hF0 := hF0.tr hF
      cases b with
      | false =>
        rw [if_neg (by decide)] at hb2
        exact fin w M3 s3 a3 k3 g3 hM hP hF0 hq ha3 (hz2.trans hb2)
      | true =>
        rw [if_pos rfl] at hb2
        exact loop (M0 5 1 + 1) w M3 s3 a3 k3 g3 (by omega) hM hP hF0 hq ha3 (Nat.lt_of_le_of_lt hs.1 hb2.1) hb2.2.1 (hz2.trans hb2.2.2)
    · have hc := (chI_eq hT (by decide)).mp h_35
      refine qa_aload_n hΓ dX6_readsBranch_38 rfl ?_
      refine qa_dup hΓ dX6_readsBranch_39 ?_
      refine qa_get hΓ dX6_readsBranch_40 fk_X6_99 hM.lt hM.o rfl ?_
      refine qa_iconst (v := nI 1) hΓ dX6_readsBranch_43 ic_1 ?_
      refine qz_iadd hΓ dX6_readsBranch_44 ?_
      refine qM_put hΓ 3 dX6_readsBranch_45 fk_X6_99 (by decide) hM (fun w hM hF => ?_)
      have hF0 := hF0.tr hF
      obtain ⟨M1, hM, hP⟩ := Pup.atE hM hP
      rw [h53] at hP
      refine qa_aload_n hΓ dX6_readsBranch_48 rfl ?_
      refine qc_V1q hΓ dX6_readsBranch_49 lk_X6_108 vw_X6_isEnd (by omega) (c_X6_isEnd l (d - 1) (by omega) hM hP hT hN hc.1) rfl hM.lt hM.o rfl rfl (Nat.le_of_ble_eq_true rfl) (fun w hq2 => ?_)
      obtain ⟨M1, hM, hP, hF⟩ := hq2
      have hF0 := hF0.tr hF
      have hs2 := sk_spec (T := M0 4) (show skM M0 a + 1 ≤ M0 5 1 from hc.1)
      have hz1 := hz.symm.trans (rb1 ha (show kk < 6 by omega) hc)
      by_cases hE : M0 5 1 ≤ skM M0 (skM M0 a + 1) ∨ M0 4 (skM M0 (skM M0 a + 1)) = 43
      · rw [show decide (M0 5 1 ≤ sk (M0 4) (M0 5 1) (skM M0 a + 1) ∨ M0 4 (sk (M0 4) (M0 5 1) (skM M0 a + 1)) = 43) = true from decide_eq_true hE]
        refine qr_b (p := true) hR dX6_readsBranch_52 ⟨true, rfl, M1, _, _, kk + 1, _, hM, hP, hw0 _ hF0, hq, hs2.2.1, ?_⟩
        rw [if_pos rfl]
        exact ⟨Nat.lt_of_lt_of_le (Nat.lt_succ_of_le hs.1) hs2.1, hE, Or.inr hz1⟩
      · rw [show decide (M0 5 1 ≤ sk (M0 4) (M0 5 1) (skM M0 a + 1) ∨ M0 4 (sk (M0 4) (M0 5 1) (skM M0 a + 1)) = 43) = false from decide_eq_false hE]
        refine qr_b (p := false) hR dX6_readsBranch_52 ⟨false, rfl, M1, _, _, kk + 1, _, hM, hP, hw0 _ hF0, hq, hs2.2.1, ?_⟩
        rw [if_neg (by decide)]
        have hlt : skM M0 (skM M0 a + 1) < M0 5 1 := Nat.lt_of_not_le (fun q => hE (Or.inl q))
        exact hz1.trans (rb4 hlt (hs2.2.2 hlt) (fun q => hE (Or.inr q)))
  · refine qa_iconst (v := nI 0) hΓ dX6_readsBranch_17 ic_0 ?_
    refine qr_b (p := false) hR dX6_readsBranch_18 ⟨false, rfl, M1, _, _, kk, g, hM, hP, hw0 _ hF0, hq, hs.2.1, ?_⟩
    rw [if_neg (by decide), ← hz]
    exact rb6 ha h_14

