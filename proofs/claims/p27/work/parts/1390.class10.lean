/-! The class: delays and new relays -/
theorem addS_hd (s : Nat → Nat) (a b c : Nat) {j : Nat} (hj : j < 3) : addS s a b c j = if j = 1 then s 1 + 1 else s j := by
  unfold addS sdS
  rw [hd_up _ _ _ _ hj, hd_up _ _ _ _ hj, hd_up _ _ _ _ hj]
  unfold zrS
  rw [if_neg (by omega)]
  by_cases h : j = 1
  · rw [if_pos h, h, upN_self]
  · rw [if_neg h, upN_ne _ _ _ h]
theorem addS_v (s : Nat → Nat) (a b c q x : Nat) (hx : x < 25) : vv (addS s a b c) q x = if q = s 1 then (if x = 0 then a else if x = 1 then b else if x = 2 then c else 0) else vv s q x := by
  unfold addS sdS
  rw [vv_up _ _ _ _ _ _ (by decide) hx, vv_up _ _ _ _ _ _ (by decide) hx, vv_up _ _ _ _ _ _ (by decide) hx]
  by_cases h : q = s 1
  · rw [if_pos h]
    by_cases h2 : x = 2
    · rw [if_pos ⟨h, h2⟩, if_neg (by omega), if_neg (by omega), if_pos h2]
    · rw [if_neg (fun u => h2 u.2)]
      by_cases h1 : x = 1
      · rw [if_pos ⟨h, h1⟩, if_neg (by omega), if_pos h1]
      · rw [if_neg (fun u => h1 u.2)]
        by_cases h0 : x = 0
        · rw [if_pos ⟨h, h0⟩, if_pos h0]
        · rw [if_neg (fun u => h0 u.2), if_neg h0, if_neg h1, if_neg h2]
          unfold vv zrS
          rw [if_pos (by omega)]
  · rw [if_neg (fun u => h u.1), if_neg (fun u => h u.1), if_neg (fun u => h u.1), if_neg h]
    unfold vv zrS
    rw [if_neg (by omega), upN_ne _ _ _ (by omega)]
theorem mk_grow {p q : Nat → Bool} {n : Nat} (h : ∀ i, i < n → q i = p i) (hn : q n = false) : mk q (n + 1) = mk p n := by
  show mk q n ||| (if q n then 1 <<< n else 0) = _
  rw [hn]
  simp only [Bool.false_eq_true, if_false, Nat.or_zero]
  exact mk_congr h
theorem RepC.add {s : Nat → Nat} {b b' : Bk} {B x y z : Nat} (h : RepC s b) (hW : Wt s B) (h7 : s 1 < 8) (hb' : b' = bset (bset (bset (bset b 6 0 (s 1 + 1)) 0 (s 1) x) 1 (s 1) y) 2 (s 1) z) : RepC (addS s x y z) b' := by
  have h6 : ∀ q, q < s 1 → vv s q 12 ≤ 6 := fun q hq => hW.m6 hq
  have hd1 : addS s x y z 1 = s 1 + 1 := addS_hd s x y z (by decide)
  have hv := addS_v s x y z
  have b6 : ∀ j, j ≠ 0 → b' 6 j = b 6 j := fun j hj => by rw [hb', bset_ne _ _ _ (by decide), bset_ne _ _ _ (by decide), bset_ne _ _ _ (by decide), bset_eq, upN_ne _ _ _ hj]
  have bi : ∀ i, i = 3 ∨ i = 4 ∨ i = 5 → b' i = b i := fun i hi => by rw [hb', bset_ne _ _ _ (by omega), bset_ne _ _ _ (by omega), bset_ne _ _ _ (by omega), bset_ne _ _ _ (by omega)]
  have b0 : ∀ q, b' 0 q = if q = s 1 then x else b 0 q := fun q => by
    rw [hb', bset_ne _ _ _ (by decide), bset_ne _ _ _ (by decide), bset_eq, bset_ne _ _ _ (by decide)]
    by_cases e : q = s 1
    · rw [if_pos e, e, upN_self]
    · rw [if_neg e, upN_ne _ _ _ e]
  have b1 : ∀ q, b' 1 q = if q = s 1 then y else b 1 q := fun q => by
    rw [hb', bset_ne _ _ _ (by decide), bset_eq, bset_ne _ _ _ (by decide), bset_ne _ _ _ (by decide)]
    by_cases e : q = s 1
    · rw [if_pos e, e, upN_self]
    · rw [if_neg e, upN_ne _ _ _ e]
  have b2 : ∀ q, b' 2 q = if q = s 1 then z else b 2 q := fun q => by
    rw [hb', bset_eq, bset_ne _ _ _ (by decide), bset_ne _ _ _ (by decide), bset_ne _ _ _ (by decide)]
    by_cases e : q = s 1
    · rw [if_pos e, e, upN_self]
    · rw [if_neg e, upN_ne _ _ _ e]
  obtain ⟨⟨g1, g2, g3⟩, g4, ⟨e3, e4, e5, e6, e7, e8⟩, gd, gz⟩ := h
  have old : ∀ q u, q < s 1 → u < 25 → vv (addS s x y z) q u = vv s q u := fun q u hq hu => by rw [hv q u hu, if_neg (by omega)]
  have new : ∀ u, u < 25 → 3 ≤ u → vv (addS s x y z) (s 1) u = 0 := fun u hu h3 => by rw [hv _ u hu, if_pos rfl, if_neg (by omega), if_neg (by omega), if_neg (by omega)]
  have mkg : ∀ u v, u < 25 → 3 ≤ u → 1 ≤ v → mk (pM (addS s x y z) u v) (s 1 + 1) = mk (pM s u v) (s 1) := fun u v hu h3 h1 => mk_grow (fun i hi => by unfold pM; rw [old i u hi hu]) (by unfold pM; rw [new u hu h3]; exact decide_eq_false (by omega))
  refine ⟨⟨?_, ?_, ?_⟩, fun q hq => ?_, ⟨?_, ?_, ?_, ?_, ?_, ?_⟩, fun q hq => ?_, fun q hq1 hq2 => ?_⟩
  · rw [hd1, hb', bset_ne _ _ _ (by decide), bset_ne _ _ _ (by decide), bset_ne _ _ _ (by decide), bset_eq, upN_self]
  · rw [b6 1 (by decide), addS_hd _ _ _ _ (by decide)]; exact g2
  · rw [b6 2 (by decide), addS_hd _ _ _ _ (by decide)]; exact g3
  · rw [hd1] at hq
    rw [b0, b1, b2, bi 3 (by omega), bi 4 (by omega), hv q 0 (by decide), hv q 1 (by decide), hv q 2 (by decide), hv q 12 (by decide)]
    by_cases e : q = s 1
    · rw [if_pos e, if_pos e, if_pos e, if_pos e, if_pos e, if_pos e, if_pos e]
      refine ⟨rfl, rfl, rfl, by rw [e]; exact (gz _ (Nat.le_refl _) h7).1, fun j hj => absurd hj (Nat.not_lt_zero _)⟩
    · rw [if_neg e, if_neg e, if_neg e, if_neg e, if_neg e, if_neg e, if_neg e]
      obtain ⟨k1, k2, k3, k4, k5⟩ := g4 q (by omega)
      have := h6 q (by omega)
      refine ⟨k1, k2, k3, k4, fun j hj => ?_⟩
      rw [old q _ (by omega) (by omega), old q _ (by omega) (by omega)]
      exact k5 j hj
  · rw [b6 3 (by decide), hd1, mkg 4 1 (by decide) (by decide) (by decide)]; exact e3
  · rw [b6 4 (by decide), hd1, mkg 3 1 (by decide) (by decide) (by decide)]; exact e4
  · rw [b6 5 (by decide), hd1, mkg 5 1 (by decide) (by decide) (by decide)]; exact e5
  · rw [b6 6 (by decide), hd1, mkg 7 1 (by decide) (by decide) (by decide)]; exact e6
  · rw [b6 7 (by decide), hd1, mkg 6 1 (by decide) (by decide) (by decide)]; exact e7
  · rw [b6 8 (by decide), hd1, mkg 6 2 (by decide) (by decide) (by decide)]; exact e8
  · rw [hd1] at hq
    rw [bi 5 (by omega)]
    unfold duA duE
    by_cases e : q = s 1
    · subst e
      rw [new 8 (by decide) (by decide), new 10 (by decide) (by decide), if_pos rfl, if_pos rfl]
      exact (gz _ (Nat.le_refl _) h7).2
    · rw [old q 8 (by omega) (by decide), old q 9 (by omega) (by decide), old q 10 (by omega) (by decide), old q 11 (by omega) (by decide)]
      exact gd q (by omega)
  · rw [hd1] at hq1
    rw [bi 3 (by omega), bi 5 (by omega)]
    exact gz q (by omega) hq2
theorem SeC.add {s : Nat → Nat} {x y z : Nat} (h : SeC s) : SeC (addS s x y z) := by
  intro q hq
  have hv := addS_v s x y z
  rw [addS_hd s x y z (by decide), if_pos rfl] at hq
  rw [hv q 8 (by decide), hv q 4 (by decide), hv q 3 (by decide), hv q 5 (by decide), hv q 10 (by decide)]
  by_cases e : q = s 1
  · simp [e]
  · rw [if_neg e, if_neg e, if_neg e, if_neg e, if_neg e]
    exact h q (by omega)
theorem RepC.sd {s : Nat → Nat} {b : Bk} {B r x y z : Nat} (h : RepC s b) (hW : Wt s B) : RepC (sdS s r x y z) (bset (bset (bset b 0 r x) 1 r y) 2 r z) := by
  have hv : ∀ q u, u < 25 → vv (sdS s r x y z) q u = if q = r ∧ u = 2 then z else if q = r ∧ u = 1 then y else if q = r ∧ u = 0 then x else vv s q u := fun q u hu => by
    unfold sdS
    rw [vv_up _ _ _ _ _ _ (by decide) hu, vv_up _ _ _ _ _ _ (by decide) hu, vv_up _ _ _ _ _ _ (by decide) hu]
  have hh : ∀ j, j < 3 → sdS s r x y z j = s j := fun j hj => by
    unfold sdS
    rw [hd_up _ _ _ _ hj, hd_up _ _ _ _ hj, hd_up _ _ _ _ hj]
  have ho : ∀ q u, u < 25 → 3 ≤ u → vv (sdS s r x y z) q u = vv s q u := fun q u hu h3 => by rw [hv q u hu, if_neg (by omega), if_neg (by omega), if_neg (by omega)]
  have bi : ∀ i, 3 ≤ i → bset (bset (bset b 0 r x) 1 r y) 2 r z i = b i := fun i hi => by rw [bset_ne _ _ _ (by omega), bset_ne _ _ _ (by omega), bset_ne _ _ _ (by omega)]
  refine h.gen (fun q hq => hW.m6 hq) (hh 1 (by decide)) (by rw [bi 6 (by decide)]) (by rw [bi 6 (by decide), hh 2 (by decide)]; exact h.1.2.1) (by rw [bi 6 (by decide), hh 0 (by decide)]; exact h.1.2.2) (fun q hq => ?_) (fun i hi => bi i (by omega)) (fun q u hu hc => ho q u hu (by omega)) (fun j hj => by rw [bi 6 (by decide)]) ?_ ?_ ?_
  · obtain ⟨k1, k2, k3, _⟩ := h.2.1 q hq
    rw [hv q 0 (by decide), hv q 1 (by decide), hv q 2 (by decide)]
    by_cases e : q = r
    · subst e
      simp [bset_eq, bset, upN_self]
    · simp [e, bset, upN_ne, k1, k2, k3]
  · rw [bi 6 (by decide), mkE (fun q => ho q 7 (by decide) (by decide))]; exact h.2.2.1.2.2.2.1
  · rw [bi 6 (by decide), mkE (fun q => ho q 6 (by decide) (by decide))]; exact h.2.2.1.2.2.2.2.1
  · rw [bi 6 (by decide), mkE (fun q => ho q 6 (by decide) (by decide))]; exact h.2.2.1.2.2.2.2.2
theorem SeC.sd {s : Nat → Nat} {r x y z : Nat} (h : SeC s) : SeC (sdS s r x y z) := ((h.col (by decide) (by decide)).col (by decide) (by decide)).col (by decide) (by decide)
set_option maxRecDepth 100000 in
set_option maxHeartbeats 4000000 in
theorem c_X0_putDelays (l : Launch) (d : Nat) (hd : 1 ≤ d) {n kb : Nat} {w : Nat → AC} {b : Bk} (hB : BkAt n w kb b) (r p q1 q2 : Nat) (hr : r < 8) : Sq l yX0_putDelays cX0_putDelays 6 (some .boolean) d [aR kb, aZ r, aZ p, aZ q1, aZ q2] n w (Qv (aZ (!decide (nI (b 0 r) = nI p ∧ nI (b 1 r) = nI q1 ∧ nI (b 2 r) = nI q2)).toNat) (PB n kb (bset (bset (bset b 0 r p) 1 r q1) 2 r q2) w)) := by
  refine Sp.of (plainFor_of_name (by decide)) (Nat.le_of_ble_eq_true rfl) (fun Γ hΓ hR => ?_)
  show Γ 0 [aR kb, aZ r, aZ p, aZ q1, aZ q2, none] [] (0, 0) n w
  have hF0 : Fr kb 7 w w := Fr.rf
  refine qa_aload_n hΓ dX0_putDelays_0 rfl ?_
  refine qa_get hΓ dX0_putDelays_1 fk_X0_9 hB.lt hB.o rfl ?_
  refine qa_iload_n hΓ dX0_putDelays_4 rfl ?_
  refine qc_N1 hΓ dX0_putDelays_5 nk_X0_73 vw_X5_at (by omega) (c_X5_at l (d - 1) (hB.lti (i := 1) (by decide)) hB.a0 _ (by omega) (by decide)) rfl rfl (Nat.le_of_ble_eq_true rfl) ?_
  refine qa_iload_n hΓ dX0_putDelays_8 rfl ?_
  refine qa_icmp_ne (tgt := 41) hΓ dX0_putDelays_9 (by decide) (fun h_9 => ?_) (fun h_9 => ?_)
  · refine qa_iconst (v := nI 0) hΓ dX0_putDelays_41 ic_0 ?_
    refine qa_istore hΓ dX0_putDelays_42 (by decide) ?_
    refine qa_aload_n hΓ dX0_putDelays_44 rfl ?_
    refine qa_get hΓ dX0_putDelays_45 fk_X0_9 hB.lt hB.o rfl ?_
    refine qa_iload_n hΓ dX0_putDelays_48 rfl ?_
    refine qa_iload_n hΓ dX0_putDelays_49 rfl ?_
    refine qc_N0q hΓ dX0_putDelays_50 nk_X0_77 vw_X5_put (by omega) (c_X5_putB l (d - 1) hB 0 r p (by decide) (by show _ < 8; omega)) rfl rfl (Nat.le_of_ble_eq_true rfl) (fun w hq => ?_)
    obtain ⟨hB, hF⟩ := hq
    have hF0 := hF0.tr hF
    refine qa_aload_n hΓ dX0_putDelays_53 rfl ?_
    refine qa_get hΓ dX0_putDelays_54 fk_X0_15 hB.lt hB.o rfl ?_
    refine qa_iload_n hΓ dX0_putDelays_57 rfl ?_
    refine qa_iload_n hΓ dX0_putDelays_58 rfl ?_
    refine qc_N0q hΓ dX0_putDelays_59 nk_X0_77 vw_X5_put (by omega) (c_X5_putB l (d - 1) hB 1 r q1 (by decide) (by show _ < 8; omega)) rfl rfl (Nat.le_of_ble_eq_true rfl) (fun w hq => ?_)
    obtain ⟨hB, hF⟩ := hq
    have hF0 := hF0.tr hF
    refine qa_aload_n hΓ dX0_putDelays_62 rfl ?_
    refine qa_get hΓ dX0_putDelays_63 fk_X0_18 hB.lt hB.o rfl ?_
    refine qa_iload_n hΓ dX0_putDelays_66 rfl ?_
    refine qa_iload hΓ dX0_putDelays_67 rfl ?_
    refine qc_N0q hΓ dX0_putDelays_69 nk_X0_77 vw_X5_put (by omega) (c_X5_putB l (d - 1) hB 2 r q2 (by decide) (by show _ < 8; omega)) rfl rfl (Nat.le_of_ble_eq_true rfl) (fun w hq => ?_)
    obtain ⟨hB, hF⟩ := hq
    have hF0 := hF0.tr hF
    refine qa_iload hΓ dX0_putDelays_72 rfl ?_
    refine qz_if_ne (tgt := 81) hΓ dX0_putDelays_74 (by decide) (by decide) (fun h => absurd h (by decide)) (fun _ => ?_)
    refine qa_iconst (v := nI 1) hΓ dX0_putDelays_77 ic_1 ?_
    refine qa_goto (tgt := 82) hΓ dX0_putDelays_78 (by decide) ?_
    exact qr_b (p := true) hR dX0_putDelays_82 ⟨by rw [decide_eq_false (fun q => h_9 (q.1))]; rfl, hB, hF0⟩
  · refine qa_aload_n hΓ dX0_putDelays_12 rfl ?_
    refine qa_get hΓ dX0_putDelays_13 fk_X0_15 hB.lt hB.o rfl ?_
    refine qa_iload_n hΓ dX0_putDelays_16 rfl ?_
    refine qc_N1 hΓ dX0_putDelays_17 nk_X0_73 vw_X5_at (by omega) (c_X5_at l (d - 1) (hB.lti (i := 2) (by decide)) hB.a1 _ (by omega) (by decide)) rfl rfl (Nat.le_of_ble_eq_true rfl) ?_
    refine qa_iload_n hΓ dX0_putDelays_20 rfl ?_
    refine qa_icmp_ne (tgt := 41) hΓ dX0_putDelays_21 (by decide) (fun h_21 => ?_) (fun h_21 => ?_)
    · refine qa_iconst (v := nI 0) hΓ dX0_putDelays_41 ic_0 ?_
      refine qa_istore hΓ dX0_putDelays_42 (by decide) ?_
      refine qa_aload_n hΓ dX0_putDelays_44 rfl ?_
      refine qa_get hΓ dX0_putDelays_45 fk_X0_9 hB.lt hB.o rfl ?_
      refine qa_iload_n hΓ dX0_putDelays_48 rfl ?_
      refine qa_iload_n hΓ dX0_putDelays_49 rfl ?_
      refine qc_N0q hΓ dX0_putDelays_50 nk_X0_77 vw_X5_put (by omega) (c_X5_putB l (d - 1) hB 0 r p (by decide) (by show _ < 8; omega)) rfl rfl (Nat.le_of_ble_eq_true rfl) (fun w hq => ?_)
      obtain ⟨hB, hF⟩ := hq
      have hF0 := hF0.tr hF
      refine qa_aload_n hΓ dX0_putDelays_53 rfl ?_
      refine qa_get hΓ dX0_putDelays_54 fk_X0_15 hB.lt hB.o rfl ?_
      refine qa_iload_n hΓ dX0_putDelays_57 rfl ?_
      refine qa_iload_n hΓ dX0_putDelays_58 rfl ?_
      refine qc_N0q hΓ dX0_putDelays_59 nk_X0_77 vw_X5_put (by omega) (c_X5_putB l (d - 1) hB 1 r q1 (by decide) (by show _ < 8; omega)) rfl rfl (Nat.le_of_ble_eq_true rfl) (fun w hq => ?_)
      obtain ⟨hB, hF⟩ := hq
      have hF0 := hF0.tr hF
      refine qa_aload_n hΓ dX0_putDelays_62 rfl ?_
      refine qa_get hΓ dX0_putDelays_63 fk_X0_18 hB.lt hB.o rfl ?_
      refine qa_iload_n hΓ dX0_putDelays_66 rfl ?_
      refine qa_iload hΓ dX0_putDelays_67 rfl ?_
      refine qc_N0q hΓ dX0_putDelays_69 nk_X0_77 vw_X5_put (by omega) (c_X5_putB l (d - 1) hB 2 r q2 (by decide) (by show _ < 8; omega)) rfl rfl (Nat.le_of_ble_eq_true rfl) (fun w hq => ?_)
      obtain ⟨hB, hF⟩ := hq
      have hF0 := hF0.tr hF
      refine qa_iload hΓ dX0_putDelays_72 rfl ?_
      refine qz_if_ne (tgt := 81) hΓ dX0_putDelays_74 (by decide) (by decide) (fun h => absurd h (by decide)) (fun _ => ?_)
      refine qa_iconst (v := nI 1) hΓ dX0_putDelays_77 ic_1 ?_
      refine qa_goto (tgt := 82) hΓ dX0_putDelays_78 (by decide) ?_
      exact qr_b (p := true) hR dX0_putDelays_82 ⟨by rw [decide_eq_false (fun q => h_21 (q.2.1))]; rfl, hB, hF0⟩
    · refine qa_aload_n hΓ dX0_putDelays_24 rfl ?_
      refine qa_get hΓ dX0_putDelays_25 fk_X0_18 hB.lt hB.o rfl ?_
      refine qa_iload_n hΓ dX0_putDelays_28 rfl ?_
      refine qc_N1 hΓ dX0_putDelays_29 nk_X0_73 vw_X5_at (by omega) (c_X5_at l (d - 1) (hB.lti (i := 3) (by decide)) hB.a2 _ (by omega) (by decide)) rfl rfl (Nat.le_of_ble_eq_true rfl) ?_
      refine qa_iload hΓ dX0_putDelays_32 rfl ?_
      refine qa_icmp_ne (tgt := 41) hΓ dX0_putDelays_34 (by decide) (fun h_34 => ?_) (fun h_34 => ?_)
      · refine qa_iconst (v := nI 0) hΓ dX0_putDelays_41 ic_0 ?_
        refine qa_istore hΓ dX0_putDelays_42 (by decide) ?_
        refine qa_aload_n hΓ dX0_putDelays_44 rfl ?_
        refine qa_get hΓ dX0_putDelays_45 fk_X0_9 hB.lt hB.o rfl ?_
        refine qa_iload_n hΓ dX0_putDelays_48 rfl ?_
        refine qa_iload_n hΓ dX0_putDelays_49 rfl ?_
        refine qc_N0q hΓ dX0_putDelays_50 nk_X0_77 vw_X5_put (by omega) (c_X5_putB l (d - 1) hB 0 r p (by decide) (by show _ < 8; omega)) rfl rfl (Nat.le_of_ble_eq_true rfl) (fun w hq => ?_)
        obtain ⟨hB, hF⟩ := hq
        have hF0 := hF0.tr hF
        refine qa_aload_n hΓ dX0_putDelays_53 rfl ?_
        refine qa_get hΓ dX0_putDelays_54 fk_X0_15 hB.lt hB.o rfl ?_
        refine qa_iload_n hΓ dX0_putDelays_57 rfl ?_
        refine qa_iload_n hΓ dX0_putDelays_58 rfl ?_
        refine qc_N0q hΓ dX0_putDelays_59 nk_X0_77 vw_X5_put (by omega) (c_X5_putB l (d - 1) hB 1 r q1 (by decide) (by show _ < 8; omega)) rfl rfl (Nat.le_of_ble_eq_true rfl) (fun w hq => ?_)
        obtain ⟨hB, hF⟩ := hq
        have hF0 := hF0.tr hF
        refine qa_aload_n hΓ dX0_putDelays_62 rfl ?_
        refine qa_get hΓ dX0_putDelays_63 fk_X0_18 hB.lt hB.o rfl ?_
        refine qa_iload_n hΓ dX0_putDelays_66 rfl ?_
        refine qa_iload hΓ dX0_putDelays_67 rfl ?_
        refine qc_N0q hΓ dX0_putDelays_69 nk_X0_77 vw_X5_put (by omega) (c_X5_putB l (d - 1) hB 2 r q2 (by decide) (by show _ < 8; omega)) rfl rfl (Nat.le_of_ble_eq_true rfl) (fun w hq => ?_)
        obtain ⟨hB, hF⟩ := hq
        have hF0 := hF0.tr hF
        refine qa_iload hΓ dX0_putDelays_72 rfl ?_
        refine qz_if_ne (tgt := 81) hΓ dX0_putDelays_74 (by decide) (by decide) (fun h => absurd h (by decide)) (fun _ => ?_)
        refine qa_iconst (v := nI 1) hΓ dX0_putDelays_77 ic_1 ?_
        refine qa_goto (tgt := 82) hΓ dX0_putDelays_78 (by decide) ?_
        exact qr_b (p := true) hR dX0_putDelays_82 ⟨by rw [decide_eq_false (fun q => h_34 (q.2.2))]; rfl, hB, hF0⟩
      · refine qa_iconst (v := nI 1) hΓ dX0_putDelays_37 ic_1 ?_
        refine qa_goto (tgt := 42) hΓ dX0_putDelays_38 (by decide) ?_
        refine qa_istore hΓ dX0_putDelays_42 (by decide) ?_
        refine qa_aload_n hΓ dX0_putDelays_44 rfl ?_
        refine qa_get hΓ dX0_putDelays_45 fk_X0_9 hB.lt hB.o rfl ?_
        refine qa_iload_n hΓ dX0_putDelays_48 rfl ?_
        refine qa_iload_n hΓ dX0_putDelays_49 rfl ?_
        refine qc_N0q hΓ dX0_putDelays_50 nk_X0_77 vw_X5_put (by omega) (c_X5_putB l (d - 1) hB 0 r p (by decide) (by show _ < 8; omega)) rfl rfl (Nat.le_of_ble_eq_true rfl) (fun w hq => ?_)
        obtain ⟨hB, hF⟩ := hq
        have hF0 := hF0.tr hF
        refine qa_aload_n hΓ dX0_putDelays_53 rfl ?_
        refine qa_get hΓ dX0_putDelays_54 fk_X0_15 hB.lt hB.o rfl ?_
        refine qa_iload_n hΓ dX0_putDelays_57 rfl ?_
        refine qa_iload_n hΓ dX0_putDelays_58 rfl ?_
        refine qc_N0q hΓ dX0_putDelays_59 nk_X0_77 vw_X5_put (by omega) (c_X5_putB l (d - 1) hB 1 r q1 (by decide) (by show _ < 8; omega)) rfl rfl (Nat.le_of_ble_eq_true rfl) (fun w hq => ?_)
        obtain ⟨hB, hF⟩ := hq
        have hF0 := hF0.tr hF
        refine qa_aload_n hΓ dX0_putDelays_62 rfl ?_
        refine qa_get hΓ dX0_putDelays_63 fk_X0_18 hB.lt hB.o rfl ?_
        refine qa_iload_n hΓ dX0_putDelays_66 rfl ?_
        refine qa_iload hΓ dX0_putDelays_67 rfl ?_
        refine qc_N0q hΓ dX0_putDelays_69 nk_X0_77 vw_X5_put (by omega) (c_X5_putB l (d - 1) hB 2 r q2 (by decide) (by show _ < 8; omega)) rfl rfl (Nat.le_of_ble_eq_true rfl) (fun w hq => ?_)
        obtain ⟨hB, hF⟩ := hq
        have hF0 := hF0.tr hF
        refine qa_iload hΓ dX0_putDelays_72 rfl ?_
        refine qz_if_ne (tgt := 81) hΓ dX0_putDelays_74 (by decide) (by decide) (fun _ => ?_) (fun h => absurd h (by decide))
        refine qa_iconst (v := nI 0) hΓ dX0_putDelays_81 ic_0 ?_
        exact qr_b (p := false) hR dX0_putDelays_82 ⟨by rw [decide_eq_true ⟨h_9, h_21, h_34⟩]; rfl, hB, hF0⟩

set_option maxRecDepth 100000 in
set_option maxHeartbeats 4000000 in
theorem c_X0_add (l : Launch) (d : Nat) (hd : 2 ≤ d) {n kb : Nat} {w : Nat → AC} {b : Bk} (hB : BkAt n w kb b) {s : Nat → Nat} (hR0 : RepC s b) {B : Nat} (hW : Wt s B) (hBd : B < 900000000) (hS : SeC s) (x y z : Nat) (h7 : s 1 < 8) : Sq l yX0_add cX0_add 5 (some .int) d [aR kb, aZ x, aZ y, aZ z] n w (Qv (aZ (s 1)) (PR n kb (addS s x y z) w)) := by
  refine Sp.of (plainFor_of_name (by decide)) (Nat.le_of_ble_eq_true rfl) (fun Γ hΓ hR => ?_)
  show Γ 0 [aR kb, aZ x, aZ y, aZ z, none] [] (0, 0) n w
  have hF0 : Fr kb 7 w w := Fr.rf
  refine qa_aload_n hΓ dX0_add_0 rfl ?_
  refine qa_get hΓ dX0_add_1 fk_X0_37 hB.lt hB.o rfl ?_
  rw [hR0.1.1]
  refine qa_istore hΓ dX0_add_4 (by decide) ?_
  refine qa_aload_n hΓ dX0_add_6 rfl ?_
  refine qa_dup hΓ dX0_add_7 ?_
  refine qa_get hΓ dX0_add_8 fk_X0_37 hB.lt hB.o rfl ?_
  rw [hR0.1.1]
  refine qa_iconst (v := nI 1) hΓ dX0_add_11 ic_1 ?_
  refine qz_iadd hΓ dX0_add_12 ?_
  refine qB_put hΓ 0 dX0_add_13 fk_X0_37 (by decide) hB (fun w hB hF => ?_)
  have hF0 := hF0.tr hF
  refine qa_aload_n hΓ dX0_add_16 rfl ?_
  refine qa_iload hΓ dX0_add_17 rfl ?_
  refine qa_iload_n hΓ dX0_add_19 rfl ?_
  refine qa_iload_n hΓ dX0_add_20 rfl ?_
  refine qa_iload_n hΓ dX0_add_21 rfl ?_
  refine qc_V1q hΓ dX0_add_22 lk_X0_69 vw_X0_putDelays (by omega) (c_X0_putDelays l (d - 1) (by omega) hB (s 1) x y z h7) rfl hB.lt hB.o rfl rfl (Nat.le_of_ble_eq_true rfl) (fun w hq => ?_)
  obtain ⟨hB, hF⟩ := hq
  have hF0 := hF0.tr hF
  refine qa_pop hΓ dX0_add_25 ?_
  refine qa_iload hΓ dX0_add_26 rfl ?_
  exact qr_i hR dX0_add_28 ⟨rfl, _, hB, hF0, hR0.add hW h7 rfl, hS.add⟩
