/-! The model: its reader of circuits, against a scanner that takes a character at a time -/
abbrev Rst := Nat × Nat × (Nat → Nat)
def cmb (a b : Nat) : Nat := a + 65536 * b
theorem cmb_lo {a b : Nat} (h : a < 65536) : cmb a b % 65536 = a := by unfold cmb; omega
theorem cmb_hi {a b : Nat} (h : a < 65536) : cmb a b / 65536 = b := by unfold cmb; omega
def wi (g x how : Nat) : Nat := cmb (if how = 1 then clr (g % 65536) x ||| 1 <<< x else clr (g % 65536) x) (if how = 2 then clr (g / 65536) x ||| 1 <<< x else clr (g / 65536) x)
def howO (g x : Nat) : Nat := if (g % 65536).testBit x then 1 else if (g / 65536).testBit x then 2 else 0
def sbj (R c : Nat) : Option Nat := if 97 ≤ c ∧ c ≤ 104 then some (c - 97) else if 65 ≤ c ∧ c < 65 + R then some (c - 65 + 8) else none
def tkL (R k : Nat) (g : Nat → Nat) (c how : Nat) : Option Rst := match sbj R c with
  | none => none
  | some x => if howO (g (k - 1)) x = 3 - how then none else some (2, k, upN g (k - 1) (wi (g (k - 1)) x how))
def tkC (R k : Nat) (g : Nat → Nat) (c : Nat) : Option Rst := if c = 47 then some (3, k, g) else tkL R k g c 1
def tkB (R k : Nat) (g : Nat → Nat) (c : Nat) : Option Rst := if 6 ≤ k then none else if c = 49 then some (4, k + 1, upN g k 0) else tkC R (k + 1) (upN g k 0) c
def tk (R : Nat) (st : Rst) (c : Nat) : Option Rst :=
  if st.1 = 0 then (if c = 48 then some (5, st.2) else tkB R st.2.1 st.2.2 c)
  else if st.1 = 1 then tkB R st.2.1 st.2.2 c
  else if st.1 = 2 then (if c = 43 then some (1, st.2) else tkC R st.2.1 st.2.2 c)
  else if st.1 = 3 then tkL R st.2.1 st.2.2 c 2
  else if st.1 = 4 then (if c = 43 then some (1, st.2) else none)
  else none
/-- the row while relay r is read: k branches stand, and g tells them -/
def PRs (s0 : Nat → Nat) (r : Nat) (s : Nat → Nat) (k : Nat) (g : Nat → Nat) (B : Nat) : Prop := Wt s B ∧ (∀ j, j < 3 → s j = s0 j) ∧ (∀ r' x, x < 25 → (r' ≠ r ∨ x < 12) → vv s r' x = vv s0 r' x) ∧ vv s r 12 = k ∧ ∀ j, j < k → g j = cmb (vv s r (13 + 2 * j)) (vv s r (13 + 2 * j + 1))
theorem PRs.r1 {s0 s g : Nat → Nat} {r k B : Nat} (h : PRs s0 r s k g B) : s 1 = s0 1 := h.2.1 1 (by decide)
theorem PRs.k6 {s0 s g : Nat → Nat} {r k B : Nat} (h : PRs s0 r s k g B) (hr : r < s0 1) : k ≤ 6 := by
  have := h.1.2.2.2 r (by rw [h.r1]; exact hr) 12 (by decide)
  rw [h.2.2.2.1] at this
  simpa [bdF] using this
theorem PRs.zero {s0 : Nat → Nat} {r B : Nat} (g : Nat → Nat) (h : Wt s0 B) : PRs s0 r (upN s0 (ix r 12) 0) 0 g B := by
  refine ⟨h.up (by decide) (Nat.zero_le _), fun j hj => hd_up _ _ _ _ hj, fun r' x hx h2 => vv_oth _ _ _ _ _ _ (by decide) hx (by omega), vv_same _ _ _ _, fun j hj => absurd hj (Nat.not_lt_zero _)⟩
theorem PRs.opS {s0 s g : Nat → Nat} {r k B : Nat} (h : PRs s0 r s k g B) (hk : k < 6) : PRs s0 r (opS s r) (k + 1) (upN g k 0) B := by
  obtain ⟨h1, h2, h3, h4, h5⟩ := h
  refine ⟨h1.opS (by omega), fun j hj => ?_, fun r' x hx hc => ?_, ?_, fun j hj => ?_⟩
  · unfold Jvm.Pilot.@@N@@.opS
    rw [hd_up _ _ _ _ hj, hd_up _ _ _ _ hj, hd_up _ _ _ _ hj]
    exact h2 j hj
  · unfold Jvm.Pilot.@@N@@.opS
    rw [vv_oth _ _ _ _ _ _ (by decide) hx (by omega), vv_oth _ _ _ _ _ _ (by omega) hx (by omega), vv_oth _ _ _ _ _ _ (by omega) hx (by omega)]
    exact h3 r' x hx hc
  · unfold Jvm.Pilot.@@N@@.opS
    rw [vv_same, h4]
  · unfold Jvm.Pilot.@@N@@.opS
    rw [vv_oth _ _ _ _ _ (13 + 2 * j) (by decide) (by omega) (by omega), vv_oth _ _ _ _ _ (13 + 2 * j + 1) (by decide) (by omega) (by omega), h4]
    by_cases e : j = k
    · subst e
      rw [upN_self, vv_oth _ _ _ _ _ (13 + 2 * j) (by omega) (by omega) (by omega), vv_same, vv_same]
      rfl
    · rw [upN_ne _ _ _ e, vv_oth _ _ _ _ _ (13 + 2 * j) (by omega) (by omega) (by omega), vv_oth _ _ _ _ _ (13 + 2 * j) (by omega) (by omega) (by omega), vv_oth _ _ _ _ _ (13 + 2 * j + 1) (by omega) (by omega) (by omega), vv_oth _ _ _ _ _ (13 + 2 * j + 1) (by omega) (by omega) (by omega)]
      exact h5 j (by omega)
theorem PRs.cnS {s0 s g : Nat → Nat} {r k B x how : Nat} (h : PRs s0 r s k g B) (hr : r < s0 1) (hk : 1 ≤ k) (hx : x < 16) : PRs s0 r (cnS s r (k - 1) x how) k (upN g (k - 1) (wi (g (k - 1)) x how)) B := by
  have hk6 := h.k6 hr
  obtain ⟨h1, h2, h3, h4, h5⟩ := h
  have hr' : r < s 1 := by rw [h2 1 (by decide)]; exact hr
  have hp := h1.m16 hr' (x := 13 + 2 * (k - 1)) (by omega) (by omega)
  refine ⟨h1.cnS hr' (by omega) hx, fun j hj => ?_, fun r' y hy hc => ?_, ?_, fun j hj => ?_⟩
  · unfold Jvm.Pilot.@@N@@.cnS
    rw [hd_up _ _ _ _ hj, hd_up _ _ _ _ hj]
    exact h2 j hj
  · unfold Jvm.Pilot.@@N@@.cnS
    rw [vv_oth _ _ _ _ _ _ (by omega) hy (by omega), vv_oth _ _ _ _ _ _ (by omega) hy (by omega)]
    exact h3 r' y hy hc
  · unfold Jvm.Pilot.@@N@@.cnS
    rw [vv_oth _ _ _ _ _ _ (by omega) (by decide) (by omega), vv_oth _ _ _ _ _ _ (by omega) (by decide) (by omega), h4]
  · unfold Jvm.Pilot.@@N@@.cnS
    by_cases e : j = k - 1
    · subst e
      rw [upN_self, vv_oth _ _ _ _ _ (13 + 2 * (k - 1)) (by omega) (by omega) (by omega), vv_same, vv_same]
      unfold wi
      rw [h5 (k - 1) (by omega), cmb_lo hp, cmb_hi hp]
    · rw [upN_ne _ _ _ e, vv_oth _ _ _ _ _ (13 + 2 * j) (by omega) (by omega) (by omega), vv_oth _ _ _ _ _ (13 + 2 * j) (by omega) (by omega) (by omega), vv_oth _ _ _ _ _ (13 + 2 * j + 1) (by omega) (by omega) (by omega), vv_oth _ _ _ _ _ (13 + 2 * j + 1) (by omega) (by omega) (by omega)]
      exact h5 j hj
def Pup (M : Bk) (s : Nat → Nat) (a : Nat) (M' : Bk) : Prop := M' 0 = s ∧ (∀ i, 1 ≤ i → i ≤ 4 → M' i = M i) ∧ M' 5 0 = M 5 0 ∧ M' 5 1 = M 5 1 ∧ M' 5 3 = a
def Qb (P : Bool → (Nat → AC) → Prop) : Option AV → (Nat → AC) → Prop := fun r w' => ∃ b : Bool, r = some (aZ b.toNat) ∧ P b w'
section
variable {Γ : Gm} {l : Launch} {y : MethodName} {cc : ByteArray} {mL d : Nat} {pc n : Nat} {L st : List AV} {w : Nat → AC}
variable {idx mz np d' k0 : Nat} {z : MethodName} {cz : ByteArray} {rz : Option FieldType} {as st0 : List AV} {Pw : Bool → (Nat → AC) → Prop}
end
