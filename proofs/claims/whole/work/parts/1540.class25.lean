/-! The class: stable states, explanations -/
def dwS (s : Nat → Nat) (set : Nat) : Nat → Nat := fun j => if j < 3 then s j else if (j - 3) % 25 = 3 then (set.testBit ((j - 3) / 25)).toNat else if (j - 3) % 25 = 5 then 0 else s j
theorem dwS_hd (s : Nat → Nat) (set : Nat) {j : Nat} (hj : j < 3) : dwS s set j = s j := by unfold dwS; rw [if_pos hj]
theorem dwS_v (s : Nat → Nat) (set q x : Nat) (hx : x < 25) : vv (dwS s set) q x = if x = 3 then (set.testBit q).toNat else if x = 5 then 0 else vv s q x := by
  unfold vv dwS
  rw [if_neg (by omega), show (3 + 25 * q + x - 3) % 25 = x by omega, show (3 + 25 * q + x - 3) / 25 = q by omega]
theorem Wt.dw {s : Nat → Nat} {B : Nat} (h : Wt s B) (set : Nat) : Wt (dwS s set) B := by
  refine ⟨by rw [dwS_hd _ _ (by decide)]; exact h.1, by rw [dwS_hd _ _ (by decide)]; exact h.2.1, by rw [dwS_hd _ _ (by decide)]; exact h.2.2.1, fun r hr x hx => ?_⟩
  rw [dwS_hd _ _ (by decide)] at hr
  rw [dwS_v _ _ _ _ hx]
  by_cases e3 : x = 3
  · rw [if_pos e3, e3]
    have := Bool.toNat_le1 (set.testBit r)
    simpa [bdF] using this
  · rw [if_neg e3]
    by_cases e5 : x = 5
    · rw [if_pos e5]
      exact Nat.zero_le _
    · rw [if_neg e5]
      exact h.2.2.2 r hr x hx
theorem mk_set {set n : Nat} (h : set < 2 ^ n) : mk (fun i => set.testBit i) n = set := by
  apply Nat.eq_of_testBit_eq
  intro i
  rw [mk_bit]
  by_cases e : i < n
  · simp [e]
  · rw [decide_eq_false e, testBit_lt h (by omega)]
    rfl
theorem mk_none {p : Nat → Bool} : ∀ {n}, (∀ i, i < n → p i = false) → mk p n = 0
  | 0, _ => rfl
  | n + 1, h => by
    show mk p n ||| (if p n then 1 <<< n else 0) = 0
    rw [mk_none (fun i hi => h i (by omega)), h n (by omega)]
    simp
theorem bit_d (p : Bool) : decide (p.toNat = 1) = p := by cases p <;> rfl
/-- the bank on which a set is tried -/
def TrB (b c : Bk) : Prop := (∀ i, i < 6 → c i = b i) ∧ (∀ j, j < 9 → j ≠ 4 → j ≠ 5 → c 6 j = b 6 j) ∧ c 6 5 = 0
theorem RepC.dw {s : Nat → Nat} {b c : Bk} {set : Nat} {B : Nat} (h : RepC s b) (hW : Wt s B) (hT : TrB b c) (hs : set < 2 ^ s 1) : RepC (dwS s set) (bset c 6 4 set) := by
  obtain ⟨t1, t2, t3⟩ := hT
  obtain ⟨r1, r2, r3, r4, r5⟩ := h
  have e6 : ∀ i, i < 6 → bset c 6 4 set i = b i := fun i hi => by rw [bset_ne _ _ _ (by omega), t1 i hi]
  have ej : ∀ j, j < 9 → j ≠ 4 → j ≠ 5 → bset c 6 4 set 6 j = b 6 j := fun j hj h4 h5 => by rw [bset_eq, upN_ne _ _ _ h4, t2 j hj h4 h5]
  have e4 : bset c 6 4 set 6 4 = set := by rw [bset_eq, upN_self]
  have e5 : bset c 6 4 set 6 5 = 0 := by rw [bset_eq, upN_ne _ _ _ (by decide), t3]
  have hv : ∀ q x, x < 25 → x ≠ 3 → x ≠ 5 → vv (dwS s set) q x = vv s q x := fun q x hx h3 h5 => by rw [dwS_v _ _ _ _ hx, if_neg h3, if_neg h5]
  have hm : ∀ x v, x < 25 → x ≠ 3 → x ≠ 5 → mk (pM (dwS s set) x v) (s 1) = mk (pM s x v) (s 1) := fun x v hx h3 h5 => mk_congr (fun i _ => by unfold pM; rw [hv i x hx h3 h5])
  have m3 : mk (pM (dwS s set) 3 1) (s 1) = set := by
    refine Eq.trans (mk_congr (fun i hi => ?_)) (mk_set hs)
    unfold pM
    rw [dwS_v _ _ _ _ (by decide), if_pos rfl, bit_d]
  have m5 : mk (pM (dwS s set) 5 1) (s 1) = 0 := mk_none (fun i hi => by
    unfold pM
    rw [dwS_v _ _ _ _ (by decide), if_neg (by decide), if_pos rfl]
    rfl)
  unfold RepC
  rw [dwS_hd _ _ (show 0 < 3 by decide), dwS_hd _ _ (show 1 < 3 by decide), dwS_hd _ _ (show 2 < 3 by decide), e6 0 (by decide), e6 1 (by decide), e6 2 (by decide), e6 3 (by decide), e6 4 (by decide), e6 5 (by decide), ej 0 (by decide) (by decide) (by decide), ej 1 (by decide) (by decide) (by decide), ej 2 (by decide) (by decide) (by decide), ej 3 (by decide) (by decide) (by decide), e4, e5, ej 6 (by decide) (by decide) (by decide), ej 7 (by decide) (by decide) (by decide), ej 8 (by decide) (by decide) (by decide), hm 4 1 (by decide) (by decide) (by decide), m3, m5, hm 7 1 (by decide) (by decide) (by decide), hm 6 1 (by decide) (by decide) (by decide), hm 6 2 (by decide) (by decide) (by decide)]
  refine ⟨r1, fun r hr => ?_, ⟨r3.1, rfl, rfl, r3.2.2.2⟩, fun r hr => ?_, r5⟩
  · rw [hv r 0 (by decide) (by decide) (by decide), hv r 1 (by decide) (by decide) (by decide), hv r 2 (by decide) (by decide) (by decide), hv r 12 (by decide) (by decide) (by decide)]
    obtain ⟨a0, a1, a2, a3, a4⟩ := r2 r hr
    refine ⟨a0, a1, a2, a3, fun j hj => ?_⟩
    rw [a4 j hj]
    have h6 := hW.m6 hr
    rw [hv r _ (by omega) (by omega) (by omega), hv r _ (by omega) (by omega) (by omega)]
  · unfold duA duE
    rw [hv r 8 (by decide) (by decide) (by decide), hv r 9 (by decide) (by decide) (by decide), hv r 10 (by decide) (by decide) (by decide), hv r 11 (by decide) (by decide) (by decide)]
    exact r4 r hr
theorem stI_iff {s : Nat → Nat} {B set : Nat} (hW : Wt s B) : ((set ^^^ mk (pM s 3 1) (s 1)) &&& mk (pM s 7 1) (s 1) = 0) ↔ stI s set (s 1) = true := by
  have key : ∀ m, m ≤ s 1 → (stI s set m = true ↔ ∀ r, r < m → vv s r 7 = 0 ∨ vv s r 3 = (set.testBit r).toNat) := by
    intro m
    induction m with
    | zero => exact fun _ => ⟨fun _ r hr => absurd hr (by omega), fun _ => rfl⟩
    | succ m ih =>
      intro hm
      show (stI s set m && (decide (vv s m 7 = 0) || decide (vv s m 3 = (set.testBit m).toNat))) = true ↔ _
      rw [Bool.and_eq_true, ih (by omega), Bool.or_eq_true, decide_eq_true_eq, decide_eq_true_eq]
      constructor
      · rintro ⟨h1, h2⟩ r hr
        rcases Nat.lt_or_ge r m with u | u
        · exact h1 r u
        · rw [show r = m by omega]
          exact h2
      · exact fun h => ⟨fun r hr => h r (by omega), h m (by omega)⟩
  rw [key _ (Nat.le_refl _)]
  have hb : ∀ r, r < s 1 → ((set ^^^ mk (pM s 3 1) (s 1)) &&& mk (pM s 7 1) (s 1)).testBit r = ((set.testBit r ^^ decide (vv s r 3 = 1)) && decide (vv s r 7 = 1)) := fun r hr => by
    rw [Nat.testBit_and, Nat.testBit_xor, mk_bit, mk_bit, decide_eq_true hr, Bool.true_and, Bool.true_and]
    rfl
  constructor
  · intro h r hr
    have h1 := hb r hr
    rw [h, Nat.zero_testBit] at h1
    have c7 := hW.c1 hr (x := 7) (by omega)
    have c3 := hW.c1 hr (x := 3) (by omega)
    rcases (show vv s r 7 = 0 ∨ vv s r 7 = 1 by omega) with q | q
    · exact Or.inl q
    · refine Or.inr ?_
      rw [q] at h1
      rcases (show vv s r 3 = 0 ∨ vv s r 3 = 1 by omega) with u | u <;> rw [u] at h1 ⊢ <;> cases h9 : set.testBit r <;> rw [h9] at h1 <;> first | rfl | cases h1
  · intro h
    apply Nat.eq_of_testBit_eq
    intro r
    rw [Nat.zero_testBit]
    by_cases hr : r < s 1
    · rw [hb r hr]
      have c7 := hW.c1 hr (x := 7) (by omega)
      have c3 := hW.c1 hr (x := 3) (by omega)
      rcases h r hr with q | q
      · rw [q]
        simp
      · rw [q]
        cases set.testBit r <;> simp
    · rw [Nat.testBit_and, mk_bit (pM s 7 1), decide_eq_false hr, Bool.false_and, Bool.and_false]
theorem stC_iff {s : Nat → Nat} {B set : Nat} (hW : Wt s B) : stA (dwS s set) (s 1) = stC s set (mk (stO s set) (s 1)) (s 1) := by
  have hon : onS (dwS s set) = s 0 ||| mk (stO s set) (s 1) <<< 8 := by
    unfold onS
    rw [dwS_hd _ _ (show 0 < 3 by decide), dwS_hd _ _ (show 1 < 3 by decide), mk_congr (q := stO s set) (fun i _ => ?_)]
    unfold clB stO
    rw [dwS_v _ _ i 6 (by decide), dwS_v _ _ i 3 (by decide), dwS_v _ _ i 5 (by decide), if_neg (by decide), if_neg (by decide), if_pos rfl, if_neg (by decide), if_pos rfl, bit_d]
    simp
  have key : ∀ m, m ≤ s 1 → stA (dwS s set) m = stC s set (mk (stO s set) (s 1)) m := by
    intro m
    induction m with
    | zero => exact fun _ => rfl
    | succ m ih =>
      intro hm
      show (stA (dwS s set) m && (decide (vv (dwS s set) m 7 = 1) || (cnd (dwS s set) m (onS (dwS s set)) == decide (vv (dwS s set) m 3 = 1)))) = (stC s set (mk (stO s set) (s 1)) m && (decide (vv s m 7 = 1) || (cnd s m (s 0 ||| mk (stO s set) (s 1) <<< 8) == set.testBit m)))
      rw [ih (by omega), hon, dwS_v _ _ m 7 (by decide), dwS_v _ _ m 3 (by decide), if_neg (by decide), if_neg (by decide), if_pos rfl, bit_d]
      rw [cnd_congr (s := s) (t := dwS s set) (hW.m6 (by omega)) (fun x h1 h2 => by rw [dwS_v _ _ m x h2, if_neg (by omega), if_neg (by omega)])]
  exact key _ (Nat.le_refl _)
set_option maxRecDepth 100000 in
set_option maxHeartbeats 4000000 in
theorem c_X5_stableStates (l : Launch) (d : Nat) (hd : 3 ≤ d) {n : Nat} {w : Nat → AC} {M : Bk} {B : Nat} {b : Bk} {ol : Nat} {p : Nat → Bk} {g : Nat → Nat} {z R q : Nat} {c1 c2 : Bk} (hZ : WX n w b ol (M 5 0) p (M 4) (M 5 1) g z R q c1 c2) (hX : SX M B b ol p) (hBd : B < 800000000) : Sq l yX5_stableStates cX5_stableStates 4 (some .int) d [aR 0] n w (QC (spStable M) (B + 4100) n w) := by
  refine Sp.of (plainFor_of_name (by decide)) (Nat.le_of_ble_eq_true rfl) (fun Γ hΓ hR => ?_)
  show Γ 0 [aR 0, none, none, none] [] (0, 0) n w
  have hF0 : Fr 0 70 w w := Fr.rf
  obtain ⟨hR0, hS, hC, hW, hp6, hG, hT60, hT256⟩ := id hX
  have h8 := hW.2.1
  obtain ⟨ww, hww⟩ : ∃ X, w = X := ⟨_, rfl⟩
  rw [hww] at hR
  have hF0 : Fr 0 70 ww w := hww ▸ Fr.rf
  refine qa_aload_n hΓ dX5_stableStates_0 rfl ?_
  refine qa_get hΓ dX5_stableStates_1 fk_X5_40 hZ.lt hZ.o rfl ?_
  refine qa_aload_n hΓ dX5_stableStates_4 rfl ?_
  refine qa_get hΓ dX5_stableStates_5 fk_X5_12 hZ.lt hZ.o rfl ?_
  refine qc_V0q hΓ dX5_stableStates_8 lk_X5_153 vw_X0_copy (by omega) (c_X0_copy l (d - 1) (by omega) hZ.tri hZ.now (by decide)) rfl hZ.tri.lt hZ.tri.o rfl rfl (Nat.le_of_ble_eq_true rfl) (fun w hq => ?_)
  obtain ⟨b', hB', hF, ht1, ht2⟩ := hq
  have hZ := hZ.putT hB' hF
  have hF0 := hF0.tr (hF.wide (by omega) (by omega))
  have hRt := hR0.of ht1 ht2
  refine qa_aload_n hΓ dX5_stableStates_11 rfl ?_
  refine qa_get hΓ dX5_stableStates_12 fk_X5_40 hZ.lt hZ.o rfl ?_
  refine qa_iconst (v := nI 0) hΓ dX5_stableStates_15 ic_0 ?_
  refine qB_putN (x := 0) hΓ 5 dX5_stableStates_16 fn_X5_169 (by decide) hZ.tri (fun w hB' hF => ?_)
  have hZ := hZ.putT hB' hF
  have hF0 := hF0.tr (hF.wide (by omega) (by omega))
  have hTr : TrB b (bset b' 6 5 0) := ⟨fun i hi => by rw [bset_ne _ _ _ (by omega)]; exact ht1 i hi, fun j hj h4 h5 => by rw [bset_eq, upN_ne _ _ _ h5]; exact ht2 j hj, by rw [bset_eq, upN_self]⟩
  refine qa_iconst (v := nI 1) hΓ dX5_stableStates_19 ic_1 ?_
  refine qa_aload_n hΓ dX5_stableStates_20 rfl ?_
  refine qa_get hΓ dX5_stableStates_21 fk_X5_12 hZ.lt hZ.o rfl ?_
  refine qa_getN hΓ dX5_stableStates_24 fn_X5_47 hZ.now.lt hZ.now.o rfl ?_
  rw [hR0.1.1]
  refine qz_ishl hΓ dX5_stableStates_27 (by omega) ?_
  refine qa_istore_n hΓ dX5_stableStates_28 (by decide) ?_
  refine qa_iconst (v := nI 0) hΓ dX5_stableStates_29 ic_0 ?_
  refine qa_istore_n hΓ dX5_stableStates_30 (by decide) ?_
  refine qa_iconst (v := nI 0) hΓ dX5_stableStates_31 ic_0 ?_
  refine qa_istore_n hΓ dX5_stableStates_32 (by decide) ?_
  obtain ⟨w0, hw0⟩ : ∃ X, X = w ∧ ∀ w2, Fr 0 70 X w2 → Fr 0 70 ww w2 := ⟨w, rfl, fun _ h => hF0.tr h⟩
  obtain ⟨hww0, hw0⟩ := hw0
  rw [← hww0] at hZ ⊢
  have e1s : 1 <<< M 0 1 = 2 ^ M 0 1 := Nat.one_shiftLeft _
  have h256 := two8 h8
  have hpos : 0 < 2 ^ M 0 1 := Nat.two_pow_pos _
  have e64 := hR0.2.2.1.2.1
  have e66 := hR0.2.2.1.2.2.2.1
  have loop : ∀ (j set : Nat) (w1 : Nat → AC) (c3 : Bk) (st : Nat), set + j = 2 ^ M 0 1 → WX n w1 b ol (M 5 0) p (M 4) (M 5 1) g z R q c1 c3 → Fr 0 70 w0 w1 → TrB b c3 → st = stN (M 0) set → Γ 33 [aR 0, aZ (1 <<< M 0 1), aZ st, aZ set] [] (0, 0) n w1 := by
    intro j
    induction j with
    | zero =>
      intro set w c2 st hj hZ hF0 hTr hst
      refine qa_iload_n hΓ dX5_stableStates_33 rfl ?_
      refine qa_iload_n hΓ dX5_stableStates_34 rfl ?_
      refine qz_icmp_ge (tgt := 85) hΓ dX5_stableStates_35 (by decide) (by omega) (by omega) (fun _ => ?_) (fun h => absurd h (by omega))
      refine qa_iload_n hΓ dX5_stableStates_85 rfl ?_
      exact qr_i hR dX5_stableStates_86 ⟨_, rfl, hw0 _ hF0, fun r2 M' h => by
        obtain ⟨h1, h2⟩ := h
        rw [e1s, show 2 ^ M 0 1 = set by omega, ← hst] at h1
        exact ⟨h1, CW.sm hX hZ h2⟩⟩
    | succ j ih =>
      intro set w c2 st hj hZ hF0 hTr hst
      have hst9 := stN_le (M 0) set
      have hTr2 : TrB b (bset c2 6 4 set) := ⟨fun i hi => by rw [bset_ne _ _ _ (by omega)]; exact hTr.1 i hi, fun j hj h4 h5 => by rw [bset_eq, upN_ne _ _ _ h4]; exact hTr.2.1 j hj h4 h5, by rw [bset_eq, upN_ne _ _ _ (by decide)]; exact hTr.2.2⟩
      refine qa_iload_n hΓ dX5_stableStates_33 rfl ?_
      refine qa_iload_n hΓ dX5_stableStates_34 rfl ?_
      refine qz_icmp_ge (tgt := 85) hΓ dX5_stableStates_35 (by decide) (by omega) (by omega) (fun h => absurd h (by omega)) (fun _ => ?_)
      refine qa_aload_n hΓ dX5_stableStates_38 rfl ?_
      refine qa_get hΓ dX5_stableStates_39 fk_X5_40 hZ.lt hZ.o rfl ?_
      refine qa_iload_n hΓ dX5_stableStates_42 rfl ?_
      refine qB_putN (x := set) hΓ 4 dX5_stableStates_43 fn_X5_163 (by decide) hZ.tri (fun w hB' hF => ?_)
      have hZ := hZ.putT hB' hF
      have hF0 := hF0.tr (hF.wide (by omega) (by omega))
      have hRd := hR0.dw hW hTr (show set < 2 ^ M 0 1 by omega)
      refine qa_iload_n hΓ dX5_stableStates_46 rfl ?_
      refine qa_aload_n hΓ dX5_stableStates_47 rfl ?_
      refine qa_get hΓ dX5_stableStates_48 fk_X5_12 hZ.lt hZ.o rfl ?_
      refine qa_getN hΓ dX5_stableStates_51 fn_X5_163 hZ.now.lt hZ.now.o rfl ?_
      refine qz_ixor hΓ dX5_stableStates_54 ?_
      refine qa_aload_n hΓ dX5_stableStates_55 rfl ?_
      refine qa_get hΓ dX5_stableStates_56 fk_X5_12 hZ.lt hZ.o rfl ?_
      refine qa_getN hΓ dX5_stableStates_59 fn_X5_124 hZ.now.lt hZ.now.o rfl ?_
      refine qz_iand hΓ dX5_stableStates_62 ?_
      rw [e64, e66]
      refine qz_if_ne (tgt := 79) hΓ dX5_stableStates_63 (by decide) (Nat.lt_of_le_of_lt Nat.and_le_right (Nat.lt_trans (mk_256 _ h8) (by decide))) (fun h_63 => ?_) (fun h_63 => ?_)
      · refine qz_iinc hΓ dX5_stableStates_79 ii_1 rfl (by decide) ?_
        refine qa_goto (tgt := 33) hΓ dX5_stableStates_82 (by decide) ?_
        have e9 : isSt (M 0) set = false := by
          unfold isSt
          have h1 : stI (M 0) set (M 0 1) = false := by
            cases h2 : stI (M 0) set (M 0 1) with
            | false => rfl
            | true => exact absurd ((stI_iff hW).mpr h2) h_63
          rw [h1]
          rfl
        refine ih (set + 1) w _ _ (by omega) hZ hF0 hTr2 ?_
        show _ = stN (M 0) set + (if isSt (M 0) set then 1 else 0)
        rw [e9, hst]
        rfl
      · refine qa_aload_n hΓ dX5_stableStates_66 rfl ?_
        refine qa_get hΓ dX5_stableStates_67 fk_X5_40 hZ.lt hZ.o rfl ?_
        refine qc_V1 hΓ dX5_stableStates_70 lk_X5_221 vw_X0_isStable (by omega) (c_X0_isStable l (d - 1) (by omega) hZ.tri hRd (hW.dw set) (by omega)) rfl hZ.tri.lt hZ.tri.o rfl rfl (Nat.le_of_ble_eq_true rfl) ?_
        rw [dwS_hd _ _ (show 1 < 3 by decide)]
        refine qb_if_eq (tgt := 79) hΓ dX5_stableStates_73 (by decide) (fun h_73 => ?_) (fun h_73 => ?_)
        · refine qz_iinc hΓ dX5_stableStates_79 ii_1 rfl (by decide) ?_
          refine qa_goto (tgt := 33) hΓ dX5_stableStates_82 (by decide) ?_
          have e9 : isSt (M 0) set = false := by
            unfold isSt
            rw [(stI_iff hW).mp h_63, ← stC_iff hW]
            exact h_73
          refine ih (set + 1) w _ _ (by omega) hZ hF0 hTr2 ?_
          show _ = stN (M 0) set + (if isSt (M 0) set then 1 else 0)
          rw [e9, hst]
          rfl
        · refine qz_iinc hΓ dX5_stableStates_76 ii_1 rfl (by decide) ?_
          refine qz_iinc hΓ dX5_stableStates_79 ii_1 rfl (by decide) ?_
          refine qa_goto (tgt := 33) hΓ dX5_stableStates_82 (by decide) ?_
          have e9 : isSt (M 0) set = true := by
            unfold isSt
            rw [(stI_iff hW).mp h_63, ← stC_iff hW]
            exact h_73
          refine ih (set + 1) w _ _ (by omega) hZ hF0 hTr2 ?_
          show _ = stN (M 0) set + (if isSt (M 0) set then 1 else 0)
          rw [e9, hst]
          rfl
  exact loop (2 ^ M 0 1) 0 w0 _ 0 (by omega) hZ Fr.rf hTr rfl

theorem mk_two {p : Nat → Bool} {r : Nat} (h0 : p (2 * r) = false) (h1 : p (2 * r + 1) = false) : mk p (2 * (r + 1)) = mk p (2 * r) := by
  rw [show 2 * (r + 1) = 2 * r + 1 + 1 by omega]
  show (mk p (2 * r) ||| (if p (2 * r) then 1 <<< (2 * r) else 0)) ||| (if p (2 * r + 1) then 1 <<< (2 * r + 1) else 0) = _
  rw [h0, h1]
  simp
theorem mk_st (p : Nat → Bool) (n : Nat) : mk p (n + 1) = mk p n ||| (if p n then 1 <<< n else 0) := rfl
set_option maxRecDepth 100000 in
set_option maxHeartbeats 4000000 in
theorem c_X5_explain (l : Launch) (d : Nat) (hd : 6 ≤ d) {n : Nat} {w : Nat → AC} {M : Bk} {B : Nat} {b : Bk} {ol : Nat} {p : Nat → Bk} {g : Nat → Nat} {z R q : Nat} {c1 c2 : Bk} (hZ : WX n w b ol (M 5 0) p (M 4) (M 5 1) g z R q c1 c2) (hX : SX M B b ol p) (hBd : B < 800000000) (se : Int32) : Sq l yX5_explain cX5_explain 5 (some .int) d [aR 0, aI se] n w (QC (spExp M se) (B + 4100) n w) := by
  refine Sp.of (plainFor_of_name (by decide)) (Nat.le_of_ble_eq_true rfl) (fun Γ hΓ hR => ?_)
  show Γ 0 [aR 0, aI se, none, none, none] [] (0, 0) n w
  have hF0 : Fr 0 70 w w := Fr.rf
  obtain ⟨hR0, hS, hC, hW, hp6, hG, hT60, hT256⟩ := id hX
  have h8 := hW.2.1
  refine qa_iload_n hΓ dX5_explain_0 rfl ?_
  refine qa_iconst (v := nI 0) hΓ dX5_explain_1 ic_0 ?_
  refine qa_sipush (v := nI 255) hΓ dX5_explain_2 sp_255 ?_
  refine qc_S1 hΓ dX5_explain_5 lk_X5_71 vw_X5_isWithin (by omega) (c_X5_isWithin l (d - 1) _ _ _) rfl rfl (Nat.le_of_ble_eq_true rfl) ?_
  refine qb_if_ne (tgt := 13) hΓ dX5_explain_8 (by decide) (fun h_8 => ?_) (fun h_8 => ?_)
  · obtain ⟨seen, he1, he2, rfl⟩ := rng (by decide) (of_decide_eq_true h_8) (by decide)
    refine qa_iconst (v := nI 0) hΓ dX5_explain_13 ic_0 ?_
    refine qa_istore_n hΓ dX5_explain_14 (by decide) ?_
    refine qa_iconst (v := nI 0) hΓ dX5_explain_15 ic_0 ?_
    refine qa_istore_n hΓ dX5_explain_16 (by decide) ?_
    obtain ⟨w0, hw0⟩ : ∃ X, X = w ∧ ∀ w2, Fr 0 70 X w2 → Fr 0 70 w w2 := ⟨w, rfl, fun _ h => h⟩
    obtain ⟨hww0, hw0⟩ := hw0
    rw [← hww0] at hZ ⊢
    have inner : ∀ (j f : Nat) (w1 : Nat → AC) (c4 c5 : Bk) (r : Nat), f + j = 3 → 1 ≤ f → r < M 0 1 → (f = 1 ∨ vv (M 0) r 6 = 0) → WX n w1 b ol (M 5 0) p (M 4) (M 5 1) g z R q c4 c5 → Fr 0 70 w0 w1 → (∀ w2 c6 c7 v, WX n w2 b ol (M 5 0) p (M 4) (M 5 1) g z R q c6 c7 → Fr 0 70 w0 w2 → Γ 108 [aR 0, aZ seen, aZ (mk (exB (M 0) seen) (2 * (r + 1))), aZ r, v] [] (0, 0) n w2) → Γ 31 [aR 0, aZ seen, aZ (mk (exB (M 0) seen) (2 * r + (f - 1))), aZ r, aZ f] [] (0, 0) n w1 := by
      intro j
      induction j with
      | zero =>
        intro f w c1 c2 r hj hf1 hr h6 hZ hF0 kk
        have hf3 : f = 3 := by omega
        subst hf3
        refine qa_iload hΓ dX5_explain_31 rfl ?_
        refine qa_iconst (v := nI 2) hΓ dX5_explain_33 ic_2 ?_
        refine qz_icmp_gt (tgt := 108) hΓ dX5_explain_34 (by decide) (by omega) (by decide) (fun _ => ?_) (fun h => absurd h (by omega))
        exact kk w c1 c2 _ hZ hF0
      | succ j ih =>
        intro f w c1 c2 r hj hf1 hr h6 hZ hF0 kk
        have hf2 : f ≤ 2 := by omega
        have c6 := hW.c2 hr (x := 6) (by omega)
        refine qa_iload hΓ dX5_explain_31 rfl ?_
        refine qa_iconst (v := nI 2) hΓ dX5_explain_33 ic_2 ?_
        refine qz_icmp_gt (tgt := 108) hΓ dX5_explain_34 (by decide) (by omega) (by decide) (fun h => absurd h (by omega)) (fun _ => ?_)
        refine qa_aload_n hΓ dX5_explain_37 rfl ?_
        refine qa_get hΓ dX5_explain_38 fk_X5_12 hZ.lt hZ.o rfl ?_
        refine qa_iload_n hΓ dX5_explain_41 rfl ?_
        refine qc_V1 hΓ dX5_explain_42 lk_X5_117 vw_X0_faultOf (by omega) (c_X0_faultOf l (d - 1) (by omega) hZ.now hR0 hW (by omega) r hr) rfl hZ.now.lt hZ.now.o rfl rfl (Nat.le_of_ble_eq_true rfl) ?_
        refine qz_if_ne (tgt := 108) hΓ dX5_explain_45 (by decide) (by omega) (fun h_45 => ?_) (fun h_45 => ?_)
        · have hf : f = 1 := by omega
          subst hf
          have e0 : exB (M 0) seen (2 * r) = false := by unfold exB; rw [show 2 * r / 2 = r by omega, decide_eq_false h_45]; rfl
          have e1 : exB (M 0) seen (2 * r + 1) = false := by unfold exB; rw [show (2 * r + 1) / 2 = r by omega, decide_eq_false h_45]; rfl
          have e2 := mk_two e0 e1
          have k9 := kk w c1 c2 (aZ 1) hZ hF0
          rw [e2] at k9
          exact k9
        · have hW1 : Wt (upN (M 0) (ix r 6) f) B := hW.up (by decide) (by simpa [bdF] using hf2)
          refine qa_aload_n hΓ dX5_explain_48 rfl ?_
          refine qa_get hΓ dX5_explain_49 fk_X5_37 hZ.lt hZ.o rfl ?_
          refine qa_aload_n hΓ dX5_explain_52 rfl ?_
          refine qa_get hΓ dX5_explain_53 fk_X5_12 hZ.lt hZ.o rfl ?_
          refine qc_V0q hΓ dX5_explain_56 lk_X5_153 vw_X0_copy (by omega) (c_X0_copy l (d - 1) (by omega) hZ.chg hZ.now (by decide)) rfl hZ.chg.lt hZ.chg.o rfl rfl (Nat.le_of_ble_eq_true rfl) (fun w hq => ?_)
          obtain ⟨b', hB', hF, ht1, ht2⟩ := hq
          have hZ := hZ.putC hB' hF
          have hF0 := hF0.tr (hF.wide (by omega) (by omega))
          have hRt := hR0.of ht1 ht2
          refine qa_aload_n hΓ dX5_explain_59 rfl ?_
          refine qa_get hΓ dX5_explain_60 fk_X5_37 hZ.lt hZ.o rfl ?_
          refine qa_iload_n hΓ dX5_explain_63 rfl ?_
          refine qa_iload hΓ dX5_explain_64 rfl ?_
          refine qc_V0q hΓ dX5_explain_66 lk_X5_120 vw_X0_putFault (by omega) (c_X0_putFault l (d - 1) (by omega) hZ.chg hRt hW (by omega) hS r f hr hf2) rfl hZ.chg.lt hZ.chg.o rfl rfl (Nat.le_of_ble_eq_true rfl) (fun w hq => ?_)
          obtain ⟨b', hB', hF, hR1, hS1⟩ := hq
          have hZ := hZ.putC hB' hF
          have hF0 := hF0.tr (hF.wide (by omega) (by omega))
          refine qa_aload_n hΓ dX5_explain_69 rfl ?_
          refine qa_aload_n hΓ dX5_explain_70 rfl ?_
          refine qa_get hΓ dX5_explain_71 fk_X5_37 hZ.lt hZ.o rfl ?_
          refine qa_sipush (v := nI 200) hΓ dX5_explain_74 sp_200 ?_
          refine qa_iconst (v := nI 0) hΓ dX5_explain_77 ic_0 ?_
          show Γ _ _ (aZ false.toNat :: _) _ _ _
          refine qc_V1q hΓ dX5_explain_78 lk_X5_209 vw_X5_endingOf (by omega) (c_X5_endingOf l (d - 1) (by omega) hZ hZ.chg (by omega) hR1 hS1 hW1.lks (by omega) 200 (by omega) false) rfl hZ.lt hZ.o rfl rfl (Nat.le_of_ble_eq_true rfl) (fun w hq => ?_)
          obtain ⟨⟨b', hB'⟩, hF⟩ := hq
          have hZ := hZ.putT hB' hF
          have hF0 := hF0.tr (hF.wide (by omega) (by omega))
          refine qa_iload_n hΓ dX5_explain_81 rfl ?_
          refine qa_sipush (v := nI 256) hΓ dX5_explain_82 sp_256 ?_
          refine qz_iadd hΓ dX5_explain_85 ?_
          have hnd := ndE_le hW1.lks false 200
          refine qz_icmp_ne (tgt := 102) hΓ dX5_explain_86 (by decide) (by omega) (by omega) (fun h_86 => ?_) (fun h_86 => ?_)
          · refine qz_iinc hΓ dX5_explain_102 ii_1 rfl (by decide) ?_
            refine qa_goto (tgt := 31) hΓ dX5_explain_105 (by decide) ?_
            have e9 : exB (M 0) seen (2 * r + (f - 1)) = false := by
              unfold exB
              rw [show (2 * r + (f - 1)) / 2 = r by omega, show 1 + (2 * r + (f - 1)) % 2 = f by omega, decide_eq_true h_45, Bool.true_and]
              exact decide_eq_false (fun q => h_86 (by omega))
            have e8 : mk (exB (M 0) seen) (2 * r + (f + 1 - 1)) = mk (exB (M 0) seen) (2 * r + (f - 1)) := by
              rw [show 2 * r + (f + 1 - 1) = 2 * r + (f - 1) + 1 by omega, mk_st, e9]
              simp
            have k9 := ih (f + 1) w _ _ r (by omega) (by omega) hr (Or.inr h_45) hZ hF0 kk
            rw [e8] at k9
            exact k9
          · refine qa_iload_n hΓ dX5_explain_89 rfl ?_
            refine qa_iconst (v := nI 1) hΓ dX5_explain_90 ic_1 ?_
            refine qa_iconst (v := nI 2) hΓ dX5_explain_91 ic_2 ?_
            refine qa_iload_n hΓ dX5_explain_92 rfl ?_
            refine qz_imul hΓ dX5_explain_93 ?_
            refine qa_iload hΓ dX5_explain_94 rfl ?_
            refine qz_iadd hΓ dX5_explain_96 ?_
            refine qa_iconst (v := nI 1) hΓ dX5_explain_97 ic_1 ?_
            refine qz_isub hΓ dX5_explain_98 (by omega) ?_
            rw [show 2 * r + f - 1 = 2 * r + (f - 1) by omega]
            refine qz_ishl hΓ dX5_explain_99 (by omega) ?_
            refine qz_ior hΓ dX5_explain_100 ?_
            refine qa_istore_n hΓ dX5_explain_101 (by decide) ?_
            refine qz_iinc hΓ dX5_explain_102 ii_1 rfl (by decide) ?_
            refine qa_goto (tgt := 31) hΓ dX5_explain_105 (by decide) ?_
            have e9 : exB (M 0) seen (2 * r + (f - 1)) = true := by
              unfold exB
              rw [show (2 * r + (f - 1)) / 2 = r by omega, show 1 + (2 * r + (f - 1)) % 2 = f by omega, decide_eq_true h_45, Bool.true_and]
              exact decide_eq_true (by omega)
            have e8 : mk (exB (M 0) seen) (2 * r + (f + 1 - 1)) = mk (exB (M 0) seen) (2 * r + (f - 1)) ||| 1 <<< (2 * r + (f - 1)) := by
              rw [show 2 * r + (f + 1 - 1) = 2 * r + (f - 1) + 1 by omega, mk_st, e9]
              rw [if_pos rfl]
            have k9 := ih (f + 1) w _ _ r (by omega) (by omega) hr (Or.inr h_45) hZ hF0 kk
            rw [e8] at k9
            exact k9
    have outer : ∀ (j r : Nat) (w1 : Nat → AC) (c4 c5 : Bk) (v : AV), r + j = M 0 1 → WX n w1 b ol (M 5 0) p (M 4) (M 5 1) g z R q c4 c5 → Fr 0 70 w0 w1 → Γ 17 [aR 0, aZ seen, aZ (mk (exB (M 0) seen) (2 * r)), aZ r, v] [] (0, 0) n w1 := by
      intro j
      induction j with
      | zero =>
        intro r w c1 c2 v hj hZ hF0
        refine qa_iload_n hΓ dX5_explain_17 rfl ?_
        refine qa_aload_n hΓ dX5_explain_18 rfl ?_
        refine qa_get hΓ dX5_explain_19 fk_X5_12 hZ.lt hZ.o rfl ?_
        refine qa_getN hΓ dX5_explain_22 fn_X5_47 hZ.now.lt hZ.now.o rfl ?_
        rw [hR0.1.1]
        refine qz_icmp_ge (tgt := 114) hΓ dX5_explain_25 (by decide) (by omega) (by omega) (fun _ => ?_) (fun h => absurd h (by omega))
        refine qa_iload_n hΓ dX5_explain_114 rfl ?_
        exact qr_i hR dX5_explain_115 ⟨_, rfl, hw0 _ hF0, fun r2 M' h => by
          unfold spExp at h
          rw [if_pos (of_decide_eq_true h_8), tn_nI (by omega), show M 0 1 = r by omega] at h
          exact ⟨h.1, CW.sm hX hZ h.2⟩⟩
      | succ j ih =>
        intro r w c1 c2 v hj hZ hF0
        refine qa_iload_n hΓ dX5_explain_17 rfl ?_
        refine qa_aload_n hΓ dX5_explain_18 rfl ?_
        refine qa_get hΓ dX5_explain_19 fk_X5_12 hZ.lt hZ.o rfl ?_
        refine qa_getN hΓ dX5_explain_22 fn_X5_47 hZ.now.lt hZ.now.o rfl ?_
        rw [hR0.1.1]
        refine qz_icmp_ge (tgt := 114) hΓ dX5_explain_25 (by decide) (by omega) (by omega) (fun h => absurd h (by omega)) (fun _ => ?_)
        refine qa_iconst (v := nI 1) hΓ dX5_explain_28 ic_1 ?_
        refine qa_istore hΓ dX5_explain_29 (by decide) ?_
        have kk : ∀ w2 c6 c7 v, WX n w2 b ol (M 5 0) p (M 4) (M 5 1) g z R q c6 c7 → Fr 0 70 w0 w2 → Γ 108 [aR 0, aZ seen, aZ (mk (exB (M 0) seen) (2 * (r + 1))), aZ r, v] [] (0, 0) n w2 := by
          intro w c1 c2 v hZ hF0
          refine qz_iinc hΓ dX5_explain_108 ii_1 rfl (by decide) ?_
          refine qa_goto (tgt := 17) hΓ dX5_explain_111 (by decide) ?_
          exact ih (r + 1) w c1 c2 _ (by omega) hZ hF0
        exact inner 2 1 w c1 c2 r (by omega) (by decide) (by omega) (Or.inl rfl) hZ hF0 kk
    exact outer (M 0 1) 0 w0 c1 c2 _ (by omega) hZ Fr.rf
  · refine qa_iconst (v := (-1)) hΓ dX5_explain_11 ic_m1 ?_
    exact qr_i hR dX5_explain_12 ⟨_, rfl, hF0, fun r2 M' h => by unfold spExp at h; rw [if_neg (fun q => by first | exact of_decide_eq_false h_8 q)] at h; exact ⟨h.1, CW.sm hX hZ h.2⟩⟩

