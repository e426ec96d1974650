/-! The model: the calls on relays and circuits -/
theorem Mup.putE {n k r x y : Nat} {w : Nat → AC} {M0 M1 : Bk} {s : Nat → Nat} (hM : MdAt n w k (sset M1 r x y)) (hU : Mup M0 s M1) : ∃ M2, MdAt n w k M2 ∧ Mup M0 (upN s (ix r x) y) M2 := ⟨_, hM, hU.put _ _⟩
theorem Mup.setE {n k j y : Nat} {w : Nat → AC} {M0 M1 : Bk} {s : Nat → Nat} (hM : MdAt n w k (bset M1 0 j y)) (hU : Mup M0 s M1) : ∃ M2, MdAt n w k M2 ∧ Mup M0 (upN s j y) M2 := ⟨_, hM, hU.put _ _⟩
theorem Mup.chgE {n k y : Nat} {w : Nat → AC} {M0 M1 : Bk} {s : Nat → Nat} (hM : MdAt n w k (bset M1 5 2 y)) (hU : Mup M0 s M1) : ∃ M2, MdAt n w k M2 ∧ Mup M0 s M2 := ⟨_, hM, hU.chg _⟩
theorem Mup.lookE {M0 M1 M2 : Bk} {s : Nat → Nat} (hU : Mup M0 s M1) (hU2 : Mup M1 (lks (M1 0)).2 M2) : Mup M0 (lks s).2 M2 := by
  rw [hU.1] at hU2
  exact hU.tr hU2
theorem Ntd.mup {M M1 : Bk} (h : Ntd M M1) : Mup M1 (M 0) M1 := by
  have := Mup.rf M1
  rw [h.1 0 (by decide) (by decide)] at this
  exact this
theorem c_X6_ofU (l : Launch) (d : Nat) {n k : Nat} {w : Nat → AC} {M0 M : Bk} {s : Nat → Nat} (hM : MdAt n w k M) (hU : Mup M0 s M) (r x : Nat) (hr : r < 8) (hx : x < 25) : Sq l yX6_of cX6_of 3 (some .int) d [aR k, aZ r, aZ x] n w (Rs (some (aZ (vv s r x))) w) := by
  have h := c_X6_of l d hM r x hr hx
  rw [hU.1] at h
  exact h
/-- nothing that counts has changed -/
def Sm (M M' : Bk) : Prop := M' 0 = M 0 ∧ M' 1 = M 1 ∧ M' 5 0 = M 5 0 ∧ M' 4 = M 4 ∧ M' 5 1 = M 5 1
/-- the state is kept, and s is the new one -/
def Nt (M M' : Bk) : Prop := M' 5 0 = p5 M + 1 ∧ (∀ i, i < p5 M → pst M' i = pst M (if M 5 0 = 6 then i + 1 else i)) ∧ pst M' (p5 M) = M 0
def Op (M : Bk) (s : Nat → Nat) (M' : Bk) : Prop := Nt M M' ∧ M' 0 = s ∧ M' 4 = M 4 ∧ M' 5 1 = M 5 1
theorem Sm.rf (M : Bk) : Sm M M := ⟨rfl, rfl, rfl, rfl, rfl⟩
theorem Op.of {M M1 M' : Bk} {s : Nat → Nat} (hN : Ntd M M1) (hU : Mup M1 s M') : Op M s M' := by
  obtain ⟨n1, n2, n3, n4, n5⟩ := hN
  have e : ∀ i, pst M' i = pst M1 i := fun i => by unfold pst; rw [hU.2.1 1 (by decide) (by decide)]
  exact ⟨⟨hU.2.2.1.trans n3, fun i hi => (e i).trans (n4 i hi), (e _).trans n5⟩, hU.1, (hU.2.1 4 (by decide) (by decide)).trans (n1 4 (by decide) (by decide)), hU.2.2.2.1.trans (n2 1 (by decide))⟩
theorem Mup.sm {M M' : Bk} (h : Mup M (M 0) M') : Sm M M' := ⟨h.1, h.2.1 1 (by decide) (by decide), h.2.2.1, h.2.1 4 (by decide) (by decide), h.2.2.2.1⟩
def tn (x : Int32) : Nat := x.toNatClampNeg
theorem tn_nI {a : Nat} (h : a < 2147483648) : tn (nI a) = a := nI_clamp h
theorem rng {lo hi : Nat} {x : Int32} (hh : hi < 2147483648) (h : nI lo ≤ x ∧ x ≤ nI hi) (hlo : lo < 2147483648) : ∃ a, lo ≤ a ∧ a ≤ hi ∧ x = nI a := by
  obtain ⟨h1, h2⟩ := h
  have h0 : ¬ x < 0 := by
    rw [Int32.not_lt]
    exact Int32.le_trans (nI_pos' hlo) h1
  obtain ⟨j, hj, rfl⟩ := nI_of h0
  exact ⟨j, (nI_leI hlo hj).mp h1, (nI_leI hj hh).mp h2, rfl⟩
theorem rngI {lo hi a : Nat} (hh : hi < 2147483648) (hlo : lo < 2147483648) (ha : a < 2147483648) : (nI lo ≤ nI a ∧ nI a ≤ nI hi) ↔ lo ≤ a ∧ a ≤ hi := by
  rw [nI_leI hlo ha, nI_leI ha hh]
abbrev isR (n : Nat) (v : Int32) : Prop := nI 0 ≤ v ∧ v ≤ nI n - nI 1
theorem isR_of {n : Nat} {v : Int32} (hn : n < 2147483648) (h : isR n v) : ∃ r, r < n ∧ v = nI r := by
  rcases Nat.eq_zero_or_pos n with rfl | hp
  · exfalso
    have h1 := Int32.le_trans h.1 h.2
    exact absurd h1 (by decide)
  · have h2 := h.2
    rw [nI_sub hp] at h2
    obtain ⟨a, h3, h4, h5⟩ := rng (lo := 0) (hi := n - 1) (by omega) ⟨h.1, h2⟩ (by decide)
    exact ⟨a, by omega, h5⟩
theorem isR_nI {n r : Nat} (h : r < n) (hn : n < 2147483648) : isR n (nI r) := by
  show _ ∧ _ ≤ nI n - nI 1
  rw [nI_sub (show 1 ≤ n by omega)]
  exact (rngI (by omega) (by decide) (by omega)).mpr ⟨Nat.zero_le _, by omega⟩
abbrev okD (u v x : Int32) : Prop := (nI 1 ≤ u ∧ u ≤ nI 20) ∧ (nI 1 ≤ v ∧ v ≤ nI 20) ∧ (nI 0 ≤ x ∧ x ≤ nI 5)

theorem testBit_lt {a i m : Nat} (h : a < 2 ^ m) (hi : m ≤ i) : a.testBit i = false := Nat.testBit_lt_two_pow (Nat.lt_of_lt_of_le h (Nat.pow_le_pow_right (by decide) hi))
def how3 (s : Nat → Nat) (r b x : Nat) : Nat := if (vv s r (13 + 2 * b)).testBit x then 1 else if (vv s r (13 + 2 * b + 1)).testBit x then 2 else 0
set_option maxRecDepth 100000 in
set_option maxHeartbeats 4000000 in
theorem c_X6_how (l : Launch) (d : Nat) (hd : 1 ≤ d) {n k : Nat} {w : Nat → AC} {M : Bk} (hM : MdAt n w k M) (r b x : Nat) (hr : r < 8) (hb6 : b < 6) (hx : x < 32) (hb : ∀ x, x < 25 → vv (M 0) r x < 2147483648) : Sq l yX6_how cX6_how 6 (some .int) d [aR k, aZ r, aZ b, aZ x] n w (Rs (some (aZ (how3 (M 0) r b x))) w) := by
  refine Sp.of (plainFor_of_name (by decide)) (Nat.le_of_ble_eq_true rfl) (fun Γ hΓ hR => ?_)
  show Γ 0 [aR k, aZ r, aZ b, aZ x, none, none] [] (0, 0) n w
  have hb1 := hb (13 + 2 * b) (by omega)
  have hb2 := hb (13 + 2 * b + 1) (by omega)
  refine qa_aload_n hΓ dX6_how_0 rfl ?_
  refine qa_iload_n hΓ dX6_how_1 rfl ?_
  refine qa_bipush (v := nI 13) hΓ dX6_how_2 bp_13 ?_
  refine qa_iconst (v := nI 2) hΓ dX6_how_4 ic_2 ?_
  refine qa_iload_n hΓ dX6_how_5 rfl ?_
  refine qz_imul hΓ dX6_how_6 ?_
  refine qz_iadd hΓ dX6_how_7 ?_
  refine qc_V1 hΓ dX6_how_8 lk_X6_37 vw_X6_of (by omega) (c_X6_of l (d - 1) hM _ _ (by omega) (by omega)) rfl hM.lt hM.o rfl rfl (Nat.le_of_ble_eq_true rfl) ?_
  refine qa_iload_n hΓ dX6_how_11 rfl ?_
  refine qz_ishr hΓ dX6_how_12 (by omega) (by omega) ?_
  refine qa_iconst (v := nI 1) hΓ dX6_how_13 ic_1 ?_
  refine qz_iand hΓ dX6_how_14 ?_
  refine qa_istore hΓ dX6_how_15 (by decide) ?_
  refine qa_aload_n hΓ dX6_how_17 rfl ?_
  refine qa_iload_n hΓ dX6_how_18 rfl ?_
  refine qa_bipush (v := nI 13) hΓ dX6_how_19 bp_13 ?_
  refine qa_iconst (v := nI 2) hΓ dX6_how_21 ic_2 ?_
  refine qa_iload_n hΓ dX6_how_22 rfl ?_
  refine qz_imul hΓ dX6_how_23 ?_
  refine qz_iadd hΓ dX6_how_24 ?_
  refine qa_iconst (v := nI 1) hΓ dX6_how_25 ic_1 ?_
  refine qz_iadd hΓ dX6_how_26 ?_
  refine qc_V1 hΓ dX6_how_27 lk_X6_37 vw_X6_of (by omega) (c_X6_of l (d - 1) hM _ _ (by omega) (by omega)) rfl hM.lt hM.o rfl rfl (Nat.le_of_ble_eq_true rfl) ?_
  refine qa_iload_n hΓ dX6_how_30 rfl ?_
  refine qz_ishr hΓ dX6_how_31 (by omega) (by omega) ?_
  refine qa_iconst (v := nI 1) hΓ dX6_how_32 ic_1 ?_
  refine qz_iand hΓ dX6_how_33 ?_
  refine qa_istore hΓ dX6_how_34 (by decide) ?_
  have ha1 : vv (M 0) r (13 + 2 * b) >>> x &&& 1 ≤ 1 := Nat.and_le_right
  refine qa_iload hΓ dX6_how_36 rfl ?_
  refine qa_iconst (v := nI 1) hΓ dX6_how_38 ic_1 ?_
  refine qz_icmp_ne (tgt := 46) hΓ dX6_how_39 (by decide) (by omega) (by omega) (fun h_39 => ?_) (fun h_39 => ?_)
  · refine qa_iconst (v := nI 2) hΓ dX6_how_46 ic_2 ?_
    refine qa_iload hΓ dX6_how_47 rfl ?_
    refine qz_imul hΓ dX6_how_49 ?_
    exact qr_i hR dX6_how_50 ⟨by simp only [bt1] at h_39 ⊢; rw [show how3 (M 0) r b x = 2 * ((vv (M 0) r (13 + 2 * b + 1)).testBit x).toNat from by unfold how3; cases q : (vv (M 0) r (13 + 2 * b)).testBit x <;> cases q2 : (vv (M 0) r (13 + 2 * b + 1)).testBit x <;> simp [q] at h_39 ⊢], rfl⟩
  · refine qa_iconst (v := nI 1) hΓ dX6_how_42 ic_1 ?_
    refine qa_goto (tgt := 50) hΓ dX6_how_43 (by decide) ?_
    exact qr_i hR dX6_how_50 ⟨by simp only [bt1] at h_39; rw [show how3 (M 0) r b x = 1 from by unfold how3; cases q : (vv (M 0) r (13 + 2 * b)).testBit x <;> simp [q] at h_39 ⊢], rfl⟩

abbrev isS (n : Nat) (v : Int32) : Prop := nI 0 ≤ v ∧ v ≤ nI (7 + n)
theorem isS_8 {n : Nat} {v : Int32} (h8 : n ≤ 8) (h : isS n v) (h2 : ¬ v < nI 8) : nI 0 ≤ v - nI 8 ∧ v - nI 8 ≤ nI n - nI 1 := by
  obtain ⟨a, h3, h4, rfl⟩ := rng (by omega) h (by decide)
  have h5 : 8 ≤ a := by
    rcases Nat.lt_or_ge a 8 with q | q
    · exact absurd ((nI_ltI (by omega) (by decide)).mpr q) h2
    · exact q
  rw [nI_sub h5]
  exact isR_nI (by omega) (by omega)
set_option maxRecDepth 100000 in
set_option maxHeartbeats 4000000 in
theorem c_X6_isSubject (l : Launch) (d : Nat) (hd : 2 ≤ d) {n k : Nat} {w : Nat → AC} {M : Bk} (hM : MdAt n w k M) (v : Int32) (h8 : M 0 1 ≤ 8) : Sq l yX6_isSubject cX6_isSubject 2 (some .boolean) d [aR k, aI v] n w (Rs (some (aZ (decide (isS (M 0 1) v)).toNat)) w) := by
  refine Sp.of (plainFor_of_name (by decide)) (Nat.le_of_ble_eq_true rfl) (fun Γ hΓ hR => ?_)
  show Γ 0 [aR k, aI v] [] (0, 0) n w
  refine qa_iload_n hΓ dX6_isSubject_0 rfl ?_
  refine qa_iconst (v := nI 0) hΓ dX6_isSubject_1 ic_0 ?_
  refine qa_bipush (v := nI 7) hΓ dX6_isSubject_2 bp_7 ?_
  refine qa_aload_n hΓ dX6_isSubject_4 rfl ?_
  refine qa_get hΓ dX6_isSubject_5 fk_X6_7 hM.lt hM.o rfl ?_
  refine qa_iconst (v := nI 1) hΓ dX6_isSubject_8 ic_1 ?_
  refine qz_iald hΓ dX6_isSubject_9 (hM.lti (i := 1) (by decide)) hM.a0 (by omega) (by decide) ?_
  refine qz_iadd hΓ dX6_isSubject_10 ?_
  refine qc_S1 hΓ dX6_isSubject_11 lk_X6_33 vw_X6_in (by omega) (c_X6_in l (d - 1) _ _ _) rfl rfl (Nat.le_of_ble_eq_true rfl) ?_
  refine qb_if_eq (tgt := 38) hΓ dX6_isSubject_14 (by decide) (fun h_14 => ?_) (fun h_14 => ?_)
  · refine qa_iconst (v := nI 0) hΓ dX6_isSubject_38 ic_0 ?_
    exact qr_b (p := false) hR dX6_isSubject_39 ⟨congrArg (fun p : Bool => some (aZ p.toNat)) (decide_eq_false (fun q => by first | exact of_decide_eq_false h_14 q | exact of_decide_eq_false h_31 (isS_8 h8 q h_20))).symm, rfl⟩
  · refine qa_iload_n hΓ dX6_isSubject_17 rfl ?_
    refine qa_bipush (v := nI 8) hΓ dX6_isSubject_18 bp_8 ?_
    refine qa_icmp_lt (tgt := 34) hΓ dX6_isSubject_20 (by decide) (fun h_20 => ?_) (fun h_20 => ?_)
    · refine qa_iconst (v := nI 1) hΓ dX6_isSubject_34 ic_1 ?_
      refine qa_goto (tgt := 39) hΓ dX6_isSubject_35 (by decide) ?_
      exact qr_b (p := true) hR dX6_isSubject_39 ⟨congrArg (fun p : Bool => some (aZ p.toNat)) (decide_eq_true (of_decide_eq_true h_14)).symm, rfl⟩
    · refine qa_aload_n hΓ dX6_isSubject_23 rfl ?_
      refine qa_iload_n hΓ dX6_isSubject_24 rfl ?_
      refine qa_bipush (v := nI 8) hΓ dX6_isSubject_25 bp_8 ?_
      refine qa_isub hΓ dX6_isSubject_27 ?_
      refine qc_V1 hΓ dX6_isSubject_28 lk_X6_82 vw_X6_isRelay (by omega) (c_X6_isRelay l (d - 1) (by omega) hM _) rfl hM.lt hM.o rfl rfl (Nat.le_of_ble_eq_true rfl) ?_
      refine qb_if_eq (tgt := 38) hΓ dX6_isSubject_31 (by decide) (fun h_31 => ?_) (fun h_31 => ?_)
      · refine qa_iconst (v := nI 0) hΓ dX6_isSubject_38 ic_0 ?_
        exact qr_b (p := false) hR dX6_isSubject_39 ⟨congrArg (fun p : Bool => some (aZ p.toNat)) (decide_eq_false (fun q => by first | exact of_decide_eq_false h_14 q | exact of_decide_eq_false h_31 (isS_8 h8 q h_20))).symm, rfl⟩
      · refine qa_iconst (v := nI 1) hΓ dX6_isSubject_34 ic_1 ?_
        refine qa_goto (tgt := 39) hΓ dX6_isSubject_35 (by decide) ?_
        exact qr_b (p := true) hR dX6_isSubject_39 ⟨congrArg (fun p : Bool => some (aZ p.toNat)) (decide_eq_true (of_decide_eq_true h_14)).symm, rfl⟩

