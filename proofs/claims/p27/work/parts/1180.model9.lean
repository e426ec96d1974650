/-! The model: what each call answers and leaves (sp..), and that it does -/
def sdS (s : Nat → Nat) (r a b c : Nat) : Nat → Nat := upN (upN (upN s (ix r 0) a) (ix r 1) b) (ix r 2) c
def zrS (s : Nat → Nat) (r m : Nat) : Nat → Nat := fun j => if 3 + 25 * r ≤ j ∧ j < 3 + 25 * r + m then 0 else s j
def addS (s : Nat → Nat) (a b c : Nat) : Nat → Nat := sdS (zrS (upN s 1 (s 1 + 1)) (s 1) 25) (s 1) a b c
def spAdd (M : Bk) (u v x : Int32) (r : Int32) (M' : Bk) : Prop := if okD u v x then (if M 0 1 = 8 then r = -3 ∧ Sm M M' else r = nI (M 0 1) ∧ Op M (addS (M 0) (tn u) (tn v) (tn x)) M') else r = -1 ∧ Sm M M'
def sameD (s : Nat → Nat) (r a b c : Nat) : Prop := vv s r 0 = a ∧ vv s r 1 = b ∧ vv s r 2 = c
def spSD (M : Bk) (rl u v x : Int32) (r : Int32) (M' : Bk) : Prop := if isR (M 0 1) rl ∧ okD u v x then ((sameD (M 0) (tn rl) (tn u) (tn v) (tn x) → r = nI 0) ∧ (¬ sameD (M 0) (tn rl) (tn u) (tn v) (tn x) → r = nI 1)) ∧ Op M (sdS (M 0) (tn rl) (tn u) (tn v) (tn x)) M' else r = -1 ∧ Sm M M'
def scS (s : Nat → Nat) (r b : Nat) : Nat → Nat := if b = vv s r 12 then opS s r else s
def spSC (M : Bk) (rl br su hw : Int32) (r : Int32) (M' : Bk) : Prop := if isR (M 0 1) rl ∧ (nI 0 ≤ br ∧ br ≤ nI (vv (M 0) (tn rl) 12)) ∧ isS (M 0 1) su ∧ (nI 0 ≤ hw ∧ hw ≤ nI 2) then (if tn br = 6 then r = -3 ∧ Sm M M' else r = nI (how3 (scS (M 0) (tn rl) (tn br)) (tn rl) (tn br) (tn su)) ∧ Op M (lks (cnS (scS (M 0) (tn rl) (tn br)) (tn rl) (tn br) (tn su) (tn hw))).2 M') else r = -1 ∧ Sm M M'
def shS (s : Nat → Nat) (r lo hi : Nat) : Nat → Nat := fun j => if 3 + 25 * r + lo ≤ j ∧ j < 3 + 25 * r + hi then s (j + 2) else s j
def rmS (s : Nat → Nat) (r b : Nat) : Nat → Nat := shS (upN s (ix r 12) (vv s r 12 - 1)) r (13 + 2 * b) (13 + 2 * (vv s r 12 - 1))
def spRB (M : Bk) (rl br : Int32) (r : Int32) (M' : Bk) : Prop := if isR (M 0 1) rl ∧ (nI 0 ≤ br ∧ br ≤ nI (vv (M 0) (tn rl) 12) - nI 1) then r = nI (vv (M 0) (tn rl) 12 - 1) ∧ Op M (lks (rmS (M 0) (tn rl) (tn br))).2 M' else r = -1 ∧ Sm M M'
def prS (s : Nat → Nat) (key : Nat) : Nat → Nat := upN s 0 (s 0 ^^^ (1 <<< key))
def spPr (M : Bk) (ky on : Int32) (r : Int32) (M' : Bk) : Prop := if (nI 0 ≤ ky ∧ ky ≤ nI 7) ∧ (nI 0 ≤ on ∧ on ≤ nI 1) then (if ((M 0 0).testBit (tn ky)).toNat = tn on then r = -2 ∧ Sm M M' else r = nI (lks (prS (M 0) (tn ky))).1 ∧ Op M (lks (prS (M 0) (tn ky))).2 M') else r = -1 ∧ Sm M M'
def spPut (x hi : Nat) (M : Bk) (rl v : Int32) (r : Int32) (M' : Bk) : Prop := if isR (M 0 1) rl ∧ (nI 0 ≤ v ∧ v ≤ nI hi) then r = nI (vv (M 0) (tn rl) x) ∧ Op M (lks (upN (M 0) (ix (tn rl) x) (tn v))).2 M' else r = -1 ∧ Sm M M'
def spStep (M : Bk) (r : Int32) (M' : Bk) : Prop := match nx (M 0) false with
  | none => r = -2 ∧ Sm M M'
  | some e => r = nI (10 * (e / 4) + e % 4) ∧ Op M (hap (M 0) e) M'
def spSettle (M : Bk) (ev : Int32) (r : Int32) (M' : Bk) : Prop := if nI 1 ≤ ev ∧ ev ≤ nI 200 then r = nI (stl (M 0) false (tn ev)).1 ∧ Op M (stl (M 0) false (tn ev)).2 M' else r = -1 ∧ Sm M M'
theorem key_lt {a k : Nat} (ha : a < 256) (hk : k < 8) : a ^^^ (1 <<< k) < 256 := by
  apply Nat.xor_lt_two_pow (n := 8) ha
  rw [Nat.one_shiftLeft]
  exact Nat.pow_lt_pow_right (by decide) hk
theorem Wt.pr {s : Nat → Nat} {B k : Nat} (h : Wt s B) (hk : k < 8) : Wt (prS s k) B := by
  unfold prS
  refine ⟨by rw [upN_self]; exact key_lt h.1 hk, by rw [upN_ne _ _ _ (by decide)]; exact h.2.1, by rw [upN_ne _ _ _ (by decide)]; exact h.2.2.1, fun r hr x hx => ?_⟩
  rw [upN_ne _ _ _ (by decide)] at hr
  rw [vv_hd _ _ _ _ _ (by decide)]
  exact h.2.2.2 r hr x hx
theorem Wt.scS {s : Nat → Nat} {B r b : Nat} (h : Wt s B) (hb : b < 6) : Wt (scS s r b) B := by
  unfold Jvm.Pilot.@@N@@.scS
  split
  · exact h.opS (by omega)
  · exact h
theorem scS_hd (s : Nat → Nat) (r b : Nat) {j : Nat} (hj : j < 3) : scS s r b j = s j := by
  unfold scS opS
  split
  · rw [hd_up _ _ _ _ hj, hd_up _ _ _ _ hj, hd_up _ _ _ _ hj]
  · rfl
theorem Wt.rmS {s : Nat → Nat} {B r b : Nat} (h : Wt s B) (hm : vv s r 12 ≤ 6) : Wt (rmS s r b) B := by
  have h0 : Wt (upN s (ix r 12) (vv s r 12 - 1)) B := h.up (by decide) (by simp [bdF]; omega)
  have e : ∀ j, j < 3 → Jvm.Pilot.@@N@@.rmS s r b j = upN s (ix r 12) (vv s r 12 - 1) j := fun j hj => by
    unfold Jvm.Pilot.@@N@@.rmS shS
    rw [if_neg (by omega)]
  obtain ⟨g0, g1, g2, g3⟩ := h0
  refine ⟨by rw [e 0 (by decide)]; exact g0, by rw [e 1 (by decide)]; exact g1, by rw [e 2 (by decide)]; exact g2, fun r' hr' x hx => ?_⟩
  rw [e 1 (by decide)] at hr'
  unfold vv Jvm.Pilot.@@N@@.rmS shS
  split
  · rename_i q
    have e : r' = r := by omega
    subst e
    have := g3 r' hr' (x + 2) (by omega)
    unfold vv at this
    rw [show 3 + 25 * r' + (x + 2) = 3 + 25 * r' + x + 2 by omega] at this
    refine Nat.le_trans this ?_
    unfold bdF
    repeat' split
    all_goals omega
  · exact g3 r' hr' x hx
