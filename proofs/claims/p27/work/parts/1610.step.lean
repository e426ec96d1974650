/-! A call that changes something, as one step of the model: refused, and nothing changes; or done, and what was is saved -/
def opR (M : Bk) : Nat → Nat := fun j => if j / 203 < p5 M then M 1 (203 * (if M 5 0 = 6 then j / 203 + 1 else j / 203) + j % 203) else M 0 (j % 203)
def opM (M : Bk) (s : Nat → Nat) : Bk := fun a => if a = 0 then s else if a = 1 then opR M else if a = 5 then upN (M 5) 0 (p5 M + 1) else M a
theorem opM_0 (M : Bk) (s : Nat → Nat) : opM M s 0 = s := rfl
theorem opM_1 (M : Bk) (s : Nat → Nat) : opM M s 1 = opR M := rfl
theorem opM_4 (M : Bk) (s : Nat → Nat) : opM M s 4 = M 4 := rfl
theorem opM_50 (M : Bk) (s : Nat → Nat) : opM M s 5 0 = p5 M + 1 := rfl
theorem opM_51 (M : Bk) (s : Nat → Nat) : opM M s 5 1 = M 5 1 := rfl
theorem opM_p1 (M : Bk) (s : Nat → Nat) {i : Nat} (hi : i < p5 M) : pst (opM M s) i = pst M (if M 5 0 = 6 then i + 1 else i) := by
  funext j
  unfold pst
  rw [opM_1]
  by_cases hj : j < 203
  · rw [if_pos hj, if_pos hj]
    unfold opR
    have e1 : (203 * i + j) / 203 = i := by omega
    have e2 : (203 * i + j) % 203 = j := by omega
    rw [e1, e2, if_pos hi]
  · rw [if_neg hj, if_neg hj]
theorem opM_p2 (M : Bk) (s : Nat → Nat) (hT : Tz (M 0)) : pst (opM M s) (p5 M) = M 0 := by
  funext j
  unfold pst
  rw [opM_1]
  by_cases hj : j < 203
  · rw [if_pos hj]
    unfold opR
    have e1 : (203 * p5 M + j) / 203 = p5 M := by omega
    have e2 : (203 * p5 M + j) % 203 = j := by omega
    rw [e1, e2, if_neg (Nat.lt_irrefl _)]
  · rw [if_neg hj]
    exact (hT j (by omega)).symm
theorem opM_ok (M : Bk) (s : Nat → Nat) (hT : Tz (M 0)) : Op M s (opM M s) := ⟨⟨opM_50 M s, fun i hi => opM_p1 M s hi, opM_p2 M s hT⟩, rfl, rfl, rfl⟩
def Dn (M : Bk) (r : Int32) (M' : Bk) : Prop := (r < 0 ∧ M' = M) ∨ (0 ≤ r ∧ ∃ s', M' = opM M s' ∧ Iv s')
theorem Dn.no (M : Bk) {r : Int32} (h : r < 0) : Dn M r M := Or.inl ⟨h, rfl⟩
theorem Dn.yes {M : Bk} {s : Nat → Nat} {k : Nat} (hk : k < 2147483648) (h : Iv s) : Dn M (nI k) (opM M s) := Or.inr ⟨nI_pos' hk, s, rfl, h⟩
theorem lk_cnt (on : Nat) (t : Nat → Nat) : ∀ m, (lk on t m).1 ≤ m
  | 0 => Nat.le_refl _
  | m + 1 => by
    have ih := lk_cnt on t m
    unfold lk
    split
    · omega
    · show (lk on t m).1 + 1 ≤ m + 1
      omega
theorem stl_cnt (rev : Bool) : ∀ (m : Nat) (s : Nat → Nat), (stl s rev m).1 ≤ m
  | 0, s => Nat.le_refl _
  | m + 1, s => by
    cases ho : nx s rev with
    | none => rw [stl_none _ ho]; exact Nat.zero_le _
    | some e =>
      rw [stl_some _ ho]
      have := stl_cnt rev m (hap s e)
      show _ + 1 ≤ _
      omega
theorem Wt.r8 {s : Nat → Nat} {B : Nat} {v : Int32} (hW : Wt s B) (h : isR (s 1) v) : ∃ r, r < s 1 ∧ r < 8 ∧ v = nI r ∧ tn v = r := by
  have h8 := hW.2.1
  obtain ⟨r, hr, rfl⟩ := isR_of (by omega) h
  exact ⟨r, hr, by omega, rfl, tn_nI (by omega)⟩
theorem st_add {M : Bk} {B : Nat} (hW : Wt (M 0) B) (hI : Iv (M 0)) (u v x : Int32) : ∃ r M', spAdd M u v x r M' ∧ Dn M r M' := by
  have h8 := hW.2.1
  unfold spAdd
  by_cases h : okD u v x
  · simp only [if_pos h]
    by_cases h9 : M 0 1 = 8
    · simp only [if_pos h9]
      exact ⟨-3, M, ⟨rfl, Sm.rf M⟩, Dn.no M (by decide)⟩
    · simp only [if_neg h9]
      exact ⟨_, _, ⟨rfl, opM_ok M _ hI.1⟩, Dn.yes (by omega) (hI.add (by omega))⟩
  · simp only [if_neg h]
    exact ⟨-1, M, ⟨rfl, Sm.rf M⟩, Dn.no M (by decide)⟩
theorem st_sd {M : Bk} {B : Nat} (hW : Wt (M 0) B) (hI : Iv (M 0)) (rl u v x : Int32) : ∃ r M', spSD M rl u v x r M' ∧ Dn M r M' := by
  unfold spSD
  by_cases h : isR (M 0 1) rl ∧ okD u v x
  · simp only [if_pos h]
    obtain ⟨r, hr, hr8, rfl, ht⟩ := hW.r8 h.1
    rw [ht]
    by_cases hs : sameD (M 0) r (tn u) (tn v) (tn x)
    · exact ⟨nI 0, _, ⟨⟨fun _ => rfl, fun q => absurd hs q⟩, opM_ok M _ hI.1⟩, Dn.yes (by omega) (hI.sd hr8)⟩
    · exact ⟨nI 1, _, ⟨⟨fun q => absurd q hs, fun _ => rfl⟩, opM_ok M _ hI.1⟩, Dn.yes (by omega) (hI.sd hr8)⟩
  · simp only [if_neg h]
    exact ⟨-1, M, ⟨rfl, Sm.rf M⟩, Dn.no M (by decide)⟩
theorem st_sc {M : Bk} {B : Nat} (hW : Wt (M 0) B) (hI : Iv (M 0)) (rl br su hw : Int32) : ∃ r M', spSC M rl br su hw r M' ∧ Dn M r M' := by
  have h8 := hW.2.1
  unfold spSC
  by_cases h : isR (M 0 1) rl ∧ (nI 0 ≤ br ∧ br ≤ nI (vv (M 0) (tn rl) 12)) ∧ isS (M 0 1) su ∧ (nI 0 ≤ hw ∧ hw ≤ nI 2)
  · simp only [if_pos h]
    obtain ⟨r, hr, hr8, rfl, ht⟩ := hW.r8 h.1
    rw [ht] at h ⊢
    have h6 := hW.m6 hr
    obtain ⟨b, -, hb, rfl⟩ := rng (by omega) h.2.1 (by decide)
    rw [tn_nI (a := b) (by omega)]
    by_cases h9 : b = 6
    · simp only [if_pos h9]
      exact ⟨-3, M, ⟨rfl, Sm.rf M⟩, Dn.no M (by decide)⟩
    · simp only [if_neg h9]
      refine ⟨_, _, ⟨rfl, opM_ok M _ hI.1⟩, Dn.yes (Nat.lt_of_le_of_lt (how3_le _ _ _ _) (by decide)) (((hI.sc hr8 (by omega)).cn hr8 (by omega)).ks ?_)⟩
      rw [cnS_hd _ _ _ _ _ (by decide), scS_hd _ _ _ (by decide)]
      exact h8
  · simp only [if_neg h]
    exact ⟨-1, M, ⟨rfl, Sm.rf M⟩, Dn.no M (by decide)⟩
theorem st_rb {M : Bk} {B : Nat} (hW : Wt (M 0) B) (hI : Iv (M 0)) (rl br : Int32) : ∃ r M', spRB M rl br r M' ∧ Dn M r M' := by
  have h8 := hW.2.1
  unfold spRB
  by_cases h : isR (M 0 1) rl ∧ (nI 0 ≤ br ∧ br ≤ nI (vv (M 0) (tn rl) 12) - nI 1)
  · simp only [if_pos h]
    obtain ⟨r, hr, hr8, rfl, ht⟩ := hW.r8 h.1
    rw [ht]
    have h6 := hW.m6 hr
    refine ⟨_, _, ⟨rfl, opM_ok M _ hI.1⟩, Dn.yes (by omega) ((hI.rm hr8 h6).ks ?_)⟩
    rw [rmS_hd _ _ _ (by decide)]
    exact h8
  · simp only [if_neg h]
    exact ⟨-1, M, ⟨rfl, Sm.rf M⟩, Dn.no M (by decide)⟩
theorem st_pr {M : Bk} {B : Nat} (hW : Wt (M 0) B) (hI : Iv (M 0)) (ky on : Int32) : ∃ r M', spPr M ky on r M' ∧ Dn M r M' := by
  have h8 := hW.2.1
  unfold spPr
  by_cases h : (nI 0 ≤ ky ∧ ky ≤ nI 7) ∧ (nI 0 ≤ on ∧ on ≤ nI 1)
  · simp only [if_pos h]
    by_cases h9 : ((M 0 0).testBit (tn ky)).toNat = tn on
    · simp only [if_pos h9]
      exact ⟨-2, M, ⟨rfl, Sm.rf M⟩, Dn.no M (by decide)⟩
    · simp only [if_neg h9]
      have e1 : prS (M 0) (tn ky) 1 = M 0 1 := upN_ne _ _ _ (by decide)
      refine ⟨_, _, ⟨rfl, opM_ok M _ hI.1⟩, Dn.yes (Nat.lt_of_le_of_lt (lk_cnt _ _ _) (by rw [e1]; omega)) (hI.pr.ks (by rw [e1]; exact h8))⟩
  · simp only [if_neg h]
    exact ⟨-1, M, ⟨rfl, Sm.rf M⟩, Dn.no M (by decide)⟩
theorem st_put {M : Bk} {B : Nat} (hW : Wt (M 0) B) (hB : B < 800000000) (hI : Iv (M 0)) {x hi : Nat} (hx : x < 8) (rl v : Int32) : ∃ r M', spPut x hi M rl v r M' ∧ Dn M r M' := by
  have h8 := hW.2.1
  unfold spPut
  by_cases h : isR (M 0 1) rl ∧ (nI 0 ≤ v ∧ v ≤ nI hi)
  · simp only [if_pos h]
    obtain ⟨r, hr, hr8, rfl, ht⟩ := hW.r8 h.1
    rw [ht]
    refine ⟨_, _, ⟨rfl, opM_ok M _ hI.1⟩, Dn.yes (Nat.lt_of_le_of_lt (hW.b hr (by omega)) (by omega)) ((hI.col hr8 (by omega) (Or.inl hx)).ks ?_)⟩
    rw [hd_up _ _ _ _ (by decide)]
    exact h8
  · simp only [if_neg h]
    exact ⟨-1, M, ⟨rfl, Sm.rf M⟩, Dn.no M (by decide)⟩
theorem st_step {M : Bk} {B : Nat} (hW : Wt (M 0) B) (hI : Iv (M 0)) : ∃ r M', spStep M r M' ∧ Dn M r M' := by
  have h8 := hW.2.1
  unfold spStep
  cases ho : nx (M 0) false with
  | none => exact ⟨-2, M, ⟨rfl, Sm.rf M⟩, Dn.no M (by decide)⟩
  | some e =>
    have he := nx_lt ho
    exact ⟨_, _, ⟨rfl, opM_ok M _ hI.1⟩, Dn.yes (by omega) (hI.hp hW ho)⟩
theorem st_set {M : Bk} {B : Nat} (hW : Wt (M 0) B) (hI : Iv (M 0)) (ev : Int32) : ∃ r M', spSettle M ev r M' ∧ Dn M r M' := by
  unfold spSettle
  by_cases h : nI 1 ≤ ev ∧ ev ≤ nI 200
  · simp only [if_pos h]
    obtain ⟨b, -, hb, rfl⟩ := rng (by decide) h (by decide)
    rw [tn_nI (a := b) (by omega)]
    exact ⟨_, _, ⟨rfl, opM_ok M _ hI.1⟩, Dn.yes (Nat.lt_of_le_of_lt (stl_cnt _ _ _) (by omega)) (hI.st hW)⟩
  · simp only [if_neg h]
    exact ⟨-1, M, ⟨rfl, Sm.rf M⟩, Dn.no M (by decide)⟩
theorem st_pass {M : Bk} {B : Nat} (hW : Wt (M 0) B) (hI : Iv (M 0)) (tk : Int32) : ∃ r M', spPass M tk r M' ∧ Dn M r M' := by
  unfold spPass
  by_cases h : nI 1 ≤ tk ∧ tk ≤ nI 1000
  · simp only [if_pos h]
    by_cases h1 : 100000 < M 0 2 + tn tk
    · simp only [if_pos h1]
      exact ⟨-3, M, ⟨rfl, Sm.rf M⟩, Dn.no M (by decide)⟩
    · simp only [if_neg h1]
      by_cases h2 : 200 < (psL (M 0 2 + tn tk) (M 0) 201).1
      · simp only [if_pos h2]
        exact ⟨-3, M, ⟨rfl, Sm.rf M⟩, Dn.no M (by decide)⟩
      · simp only [if_neg h2]
        have hP := Pd.ps (en := M 0 2 + tn tk) (m := 201) hW (by omega)
        refine ⟨_, _, ⟨rfl, opM_ok M _ hI.1⟩, Dn.yes (by omega) ⟨(hI.ps hW).1.up (by decide), ?_⟩⟩
        have h3 := hP.hd (t := M 0 2 + tn tk)
        unfold Fu
        rw [upN_self]
        exact h3
  · simp only [if_neg h]
    exact ⟨-1, M, ⟨rfl, Sm.rf M⟩, Dn.no M (by decide)⟩
