/-! The model: events told, hazards, stable states, explanations, time that passes -/
def ahc (s : Nat → Nat) (e : Nat) : Nat → Nat
  | 0 => 0
  | m + 1 => ahc s e m + (if wtB s m && ahB s m e false then 1 else 0)
def evS (s : Nat → Nat) (i : Nat) : Nat → Option Nat
  | 0 => none
  | m + 1 => match evS s i m with
    | some e => some e
    | none => if wtB s m && decide (ahc s m (4 * s 1) = i) then some m else none
theorem ahc_le (s : Nat → Nat) (e : Nat) : ∀ m, ahc s e m ≤ m
  | 0 => Nat.le_refl _
  | m + 1 => by
    have := ahc_le s e m
    unfold ahc
    split <;> omega
def evP (s : Nat → Nat) (e p : Nat) : Nat := if p = 0 then tmO s e else if p = 1 then e / 4 else e % 4
def evR (s : Nat → Nat) (i p : Nat) : Int32 := match evS s i (4 * s 1) with
  | none => -9
  | some e => nI (evP s e p)
def spEvent (M : Bk) (ix pt : Int32) (r : Int32) (M' : Bk) : Prop := (if 0 ≤ ix ∧ (nI 0 ≤ pt ∧ pt ≤ nI 2) then r = evR (M 0) (tn ix) (tn pt) else r = -1) ∧ Sm M M'
theorem evS_some {s : Nat → Nat} {i e : Nat} : ∀ {m m'}, m ≤ m' → evS s i m = some e → evS s i m' = some e
  | m, 0, h, he => by
    have : m = 0 := by omega
    subst this
    exact he
  | m, m' + 1, h, he => by
    rcases Nat.lt_or_ge m (m' + 1) with q | q
    · have h1 := evS_some (m := m) (m' := m') (by omega) he
      show (match evS s i m' with | some e => some e | none => _) = _
      rw [h1]
    · have : m = m' + 1 := by omega
      subst this
      exact he
set_option maxRecDepth 100000 in
set_option maxHeartbeats 4000000 in
theorem c_X6_event (l : Launch) (d : Nat) (hd : 3 ≤ d) {n k : Nat} {w : Nat → AC} {M : Bk} (hM : MdAt n w k M) {B : Nat} (hW : Wt (M 0) B) (hB : B < 900000000) (ix pt : Int32) : Sq l yX6_event cX6_event 6 (some .int) d [aR k, aI ix, aI pt] n w (QM (spEvent M ix pt) n k w) := by
  refine Sp.of (plainFor_of_name (by decide)) (Nat.le_of_ble_eq_true rfl) (fun Γ hΓ hR => ?_)
  show Γ 0 [aR k, aI ix, aI pt, none, none, none] [] (0, 0) n w
  refine qa_iload_n hΓ dX6_event_0 rfl ?_
  refine qa_if_lt (tgt := 13) hΓ dX6_event_1 (by decide) (fun h_1 => ?_) (fun h_1 => ?_)
  · refine qa_iconst (v := (-1)) hΓ dX6_event_13 ic_m1 ?_
    exact qr_i hR dX6_event_14 ⟨-1, M, rfl, hM, Fr.rf, by unfold spEvent; rw [if_neg (fun q => by first | exact absurd q.1 (Int32.not_le.mpr h_1) | exact of_decide_eq_false h_10 q.2)]; exact ⟨rfl, Sm.rf M⟩⟩
  · refine qa_iload_n hΓ dX6_event_4 rfl ?_
    refine qa_iconst (v := nI 0) hΓ dX6_event_5 ic_0 ?_
    refine qa_iconst (v := nI 2) hΓ dX6_event_6 ic_2 ?_
    refine qc_S1 hΓ dX6_event_7 lk_X6_33 vw_X6_in (by omega) (c_X6_in l (d - 1) _ _ _) rfl rfl (Nat.le_of_ble_eq_true rfl) ?_
    refine qb_if_ne (tgt := 15) hΓ dX6_event_10 (by decide) (fun h_10 => ?_) (fun h_10 => ?_)
    · have hC : 0 ≤ ix ∧ (nI 0 ≤ pt ∧ pt ≤ nI 2) := ⟨Int32.not_lt.mp h_1, of_decide_eq_true h_10⟩
      obtain ⟨ix, hx1, rfl⟩ := nI_of h_1
      obtain ⟨pt, hp1, hp2, rfl⟩ := rng (by decide) hC.2 (by decide)
      refine qa_iconst (v := nI 0) hΓ dX6_event_15 ic_0 ?_
      refine qa_istore_n hΓ dX6_event_16 (by decide) ?_
      have h8 := hW.2.1
      have loop : ∀ (m e : Nat) (u v : AV), e ≤ 4 * M 0 1 → 4 * M 0 1 < e + m → evS (M 0) ix e = none → Γ 17 [aR k, aZ ix, aZ pt, aZ e, u, v] [] (0, 0) n w := by
        intro m
        induction m with
        | zero => intro e u v h1 h2; exact absurd h2 (by omega)
        | succ m ih =>
          intro e u v hi hm ho
          refine qa_iload_n hΓ dX6_event_17 rfl ?_
          refine qa_iconst (v := nI 4) hΓ dX6_event_18 ic_4 ?_
          refine qa_aload_n hΓ dX6_event_19 rfl ?_
          refine qa_get hΓ dX6_event_20 fk_X6_7 hM.lt hM.o rfl ?_
          refine qa_iconst (v := nI 1) hΓ dX6_event_23 ic_1 ?_
          refine qz_iald hΓ dX6_event_24 (hM.lti (i := 1) (by decide)) hM.a0 (by omega) (by decide) ?_
          refine qz_imul hΓ dX6_event_25 ?_
          refine qz_icmp_ge (tgt := 139) hΓ dX6_event_26 (by decide) (by omega) (by omega) (fun h_26 => ?_) (fun h_26 => ?_)
          · refine qa_bipush (v := (-9)) hΓ dX6_event_139 bp_m9 ?_
            exact qr_i hR dX6_event_141 ⟨_, M, rfl, hM, Fr.rf, by
              unfold spEvent
              rw [if_pos hC, tn_nI (by omega), tn_nI (by omega)]
              refine ⟨?_, Sm.rf M⟩
              unfold evR
              rw [show 4 * M 0 1 = e by omega, ho]⟩
          · refine qa_iconst (v := nI 0) hΓ dX6_event_29 ic_0 ?_
            refine qa_istore hΓ dX6_event_30 (by decide) ?_
            refine qa_iconst (v := nI 0) hΓ dX6_event_32 ic_0 ?_
            refine qa_istore hΓ dX6_event_33 (by decide) ?_
            have inner : ∀ (m2 q : Nat), q ≤ 4 * M 0 1 → 4 * M 0 1 < q + m2 → wtB (M 0) e = true → (Γ 92 [aR k, aZ ix, aZ pt, aZ e, aZ (ahc (M 0) e (4 * M 0 1)), aZ (4 * M 0 1)] [] (0, 0) n w) → Γ 35 [aR k, aZ ix, aZ pt, aZ e, aZ (ahc (M 0) e q), aZ q] [] (0, 0) n w := by
              intro m2
              induction m2 with
              | zero => intro q h1 h2; exact absurd h2 (by omega)
              | succ m2 ih2 =>
                intro q hq1 hq2 hwt K
                refine qa_iload hΓ dX6_event_35 rfl ?_
                refine qa_iconst (v := nI 4) hΓ dX6_event_37 ic_4 ?_
                refine qa_aload_n hΓ dX6_event_38 rfl ?_
                refine qa_get hΓ dX6_event_39 fk_X6_7 hM.lt hM.o rfl ?_
                refine qa_iconst (v := nI 1) hΓ dX6_event_42 ic_1 ?_
                refine qz_iald hΓ dX6_event_43 (hM.lti (i := 1) (by decide)) hM.a0 (by omega) (by decide) ?_
                refine qz_imul hΓ dX6_event_44 ?_
                refine qz_icmp_ge (tgt := 92) hΓ dX6_event_45 (by decide) (by omega) (by omega) (fun h_45 => ?_) (fun h_45 => ?_)
                · rw [show q = 4 * M 0 1 by omega]
                  exact K
                · refine qa_aload_n hΓ dX6_event_48 rfl ?_
                  refine qa_iload_n hΓ dX6_event_49 rfl ?_
                  refine qc_V1 hΓ dX6_event_50 lk_X6_57 vw_X6_waits (by omega) (c_X6_waits l (d - 1) (by omega) hM hW (by omega) _ (by omega)) rfl hM.lt hM.o rfl rfl (Nat.le_of_ble_eq_true rfl) ?_
                  refine qb_if_eq (tgt := 92) hΓ dX6_event_53 (by decide) (fun h => absurd (h.symm.trans hwt) (by decide)) (fun _ => ?_)
                  refine qa_iload hΓ dX6_event_56 rfl ?_
                  refine qa_aload_n hΓ dX6_event_58 rfl ?_
                  refine qa_iload hΓ dX6_event_59 rfl ?_
                  refine qc_V1 hΓ dX6_event_61 lk_X6_57 vw_X6_waits (by omega) (c_X6_waits l (d - 1) (by omega) hM hW (by omega) _ (by omega)) rfl hM.lt hM.o rfl rfl (Nat.le_of_ble_eq_true rfl) ?_
                  refine qb_if_eq (tgt := 82) hΓ dX6_event_64 (by decide) (fun h_64 => ?_) (fun h_64 => ?_)
                  · refine qa_iconst (v := nI 0) hΓ dX6_event_82 ic_0 ?_
                    refine qz_iadd hΓ dX6_event_83 ?_
                    refine qa_istore hΓ dX6_event_84 (by decide) ?_
                    refine qz_iinc hΓ dX6_event_86 ii_1 rfl (by decide) ?_
                    refine qa_goto (tgt := 35) hΓ dX6_event_89 (by decide) ?_
                    have e9 : ahc (M 0) e (q + 1) = ahc (M 0) e q + 0 := by
                      show ahc (M 0) e q + (if wtB (M 0) q && ahB (M 0) q e false then 1 else 0) = _
                      congr 1
                      rw [show wtB (M 0) q = false from h_64]
                      rfl
                    have h9 := ih2 (q + 1) (by omega) (by omega) hwt K
                    rw [e9] at h9
                    exact h9
                  · refine qa_aload_n hΓ dX6_event_67 rfl ?_
                    refine qa_iload hΓ dX6_event_68 rfl ?_
                    refine qa_iload_n hΓ dX6_event_70 rfl ?_
                    refine qa_iconst (v := nI 0) hΓ dX6_event_71 ic_0 ?_
                    refine qc_V1 hΓ dX6_event_72 lk_X6_61 vw_X6_isAhead (by omega) (c_X6_isAhead l (d - 1) (by omega) hM hW (by omega) _ _ false (by omega) (by omega)) rfl hM.lt hM.o rfl rfl (Nat.le_of_ble_eq_true rfl) ?_
                    refine qb_if_eq (tgt := 82) hΓ dX6_event_75 (by decide) (fun h_75 => ?_) (fun h_75 => ?_)
                    · refine qa_iconst (v := nI 0) hΓ dX6_event_82 ic_0 ?_
                      refine qz_iadd hΓ dX6_event_83 ?_
                      refine qa_istore hΓ dX6_event_84 (by decide) ?_
                      refine qz_iinc hΓ dX6_event_86 ii_1 rfl (by decide) ?_
                      refine qa_goto (tgt := 35) hΓ dX6_event_89 (by decide) ?_
                      have e9 : ahc (M 0) e (q + 1) = ahc (M 0) e q + 0 := by
                        show ahc (M 0) e q + (if wtB (M 0) q && ahB (M 0) q e false then 1 else 0) = _
                        congr 1
                        rw [show ahB (M 0) q e false = false from h_75, Bool.and_false]
                        rfl
                      have h9 := ih2 (q + 1) (by omega) (by omega) hwt K
                      rw [e9] at h9
                      exact h9
                    · refine qa_iconst (v := nI 1) hΓ dX6_event_78 ic_1 ?_
                      refine qa_goto (tgt := 83) hΓ dX6_event_79 (by decide) ?_
                      refine qz_iadd hΓ dX6_event_83 ?_
                      refine qa_istore hΓ dX6_event_84 (by decide) ?_
                      refine qz_iinc hΓ dX6_event_86 ii_1 rfl (by decide) ?_
                      refine qa_goto (tgt := 35) hΓ dX6_event_89 (by decide) ?_
                      have e9 : ahc (M 0) e (q + 1) = ahc (M 0) e q + 1 := by
                        show ahc (M 0) e q + (if wtB (M 0) q && ahB (M 0) q e false then 1 else 0) = _
                        congr 1
                        rw [show wtB (M 0) q = true from h_64, show ahB (M 0) q e false = true from h_75]
                        rfl
                      have h9 := ih2 (q + 1) (by omega) (by omega) hwt K
                      rw [e9] at h9
                      exact h9
            cases hwt : wtB (M 0) e with
            | false =>
              refine qa_iload hΓ dX6_event_35 rfl ?_
              refine qa_iconst (v := nI 4) hΓ dX6_event_37 ic_4 ?_
              refine qa_aload_n hΓ dX6_event_38 rfl ?_
              refine qa_get hΓ dX6_event_39 fk_X6_7 hM.lt hM.o rfl ?_
              refine qa_iconst (v := nI 1) hΓ dX6_event_42 ic_1 ?_
              refine qz_iald hΓ dX6_event_43 (hM.lti (i := 1) (by decide)) hM.a0 (by omega) (by decide) ?_
              refine qz_imul hΓ dX6_event_44 ?_
              refine qz_icmp_ge (tgt := 92) hΓ dX6_event_45 (by decide) (by decide) (by omega) (fun h => absurd h (by omega)) (fun _ => ?_)
              refine qa_aload_n hΓ dX6_event_48 rfl ?_
              refine qa_iload_n hΓ dX6_event_49 rfl ?_
              refine qc_V1 hΓ dX6_event_50 lk_X6_57 vw_X6_waits (by omega) (c_X6_waits l (d - 1) (by omega) hM hW (by omega) _ (by omega)) rfl hM.lt hM.o rfl rfl (Nat.le_of_ble_eq_true rfl) ?_
              refine qb_if_eq (tgt := 92) hΓ dX6_event_53 (by decide) (fun _ => ?_) (fun h => absurd (h.symm.trans hwt) (by decide))
              refine qa_aload_n hΓ dX6_event_92 rfl ?_
              refine qa_iload_n hΓ dX6_event_93 rfl ?_
              refine qc_V1 hΓ dX6_event_94 lk_X6_57 vw_X6_waits (by omega) (c_X6_waits l (d - 1) (by omega) hM hW (by omega) _ (by omega)) rfl hM.lt hM.o rfl rfl (Nat.le_of_ble_eq_true rfl) ?_
              refine qb_if_eq (tgt := 133) hΓ dX6_event_97 (by decide) (fun _ => ?_) (fun h => absurd (h.symm.trans hwt) (by decide))
              refine qz_iinc hΓ dX6_event_133 ii_1 rfl (by decide) ?_
              refine qa_goto (tgt := 17) hΓ dX6_event_136 (by decide) ?_
              refine ih (e + 1) _ _ (by omega) (by omega) ?_
              show (match evS (M 0) ix e with | some e => some e | none => if wtB (M 0) e && decide (ahc (M 0) e (4 * M 0 1) = ix) then some e else none) = none
              rw [ho]
              exact if_neg (by rw [hwt]; simp)
            | true =>
              refine inner (4 * M 0 1 + 1) 0 (Nat.zero_le _) (by omega) hwt ?_
              refine qa_aload_n hΓ dX6_event_92 rfl ?_
              refine qa_iload_n hΓ dX6_event_93 rfl ?_
              refine qc_V1 hΓ dX6_event_94 lk_X6_57 vw_X6_waits (by omega) (c_X6_waits l (d - 1) (by omega) hM hW (by omega) _ (by omega)) rfl hM.lt hM.o rfl rfl (Nat.le_of_ble_eq_true rfl) ?_
              refine qb_if_eq (tgt := 133) hΓ dX6_event_97 (by decide) (fun h => absurd (h.symm.trans hwt) (by decide)) (fun _ => ?_)
              refine qa_iload hΓ dX6_event_100 rfl ?_
              refine qa_iload_n hΓ dX6_event_102 rfl ?_
              have hle := ahc_le (M 0) e (4 * M 0 1)
              refine qz_icmp_ne (tgt := 133) hΓ dX6_event_103 (by decide) (by omega) (by omega) (fun h_103 => ?_) (fun h_103 => ?_)
              · refine qz_iinc hΓ dX6_event_133 ii_1 rfl (by decide) ?_
                refine qa_goto (tgt := 17) hΓ dX6_event_136 (by decide) ?_
                refine ih (e + 1) _ _ (by omega) (by omega) ?_
                show (match evS (M 0) ix e with | some e => some e | none => if wtB (M 0) e && decide (ahc (M 0) e (4 * M 0 1) = ix) then some e else none) = none
                rw [ho]
                exact if_neg (by simp [h_103])
              · refine qa_iload_n hΓ dX6_event_106 rfl ?_
                refine qz_if_ne (tgt := 118) hΓ dX6_event_107 (by decide) (by omega) (fun h_107 => ?_) (fun h_107 => ?_)
                · refine qa_iload_n hΓ dX6_event_118 rfl ?_
                  refine qa_iconst (v := nI 1) hΓ dX6_event_119 ic_1 ?_
                  refine qz_icmp_ne (tgt := 129) hΓ dX6_event_120 (by decide) (by omega) (by omega) (fun h_120 => ?_) (fun h_120 => ?_)
                  · refine qa_iload_n hΓ dX6_event_129 rfl ?_
                    refine qa_iconst (v := nI 4) hΓ dX6_event_130 ic_4 ?_
                    refine qz_irem hΓ dX6_event_131 (by omega) (by decide) (by decide) ?_
                    exact qr_i hR dX6_event_132 ⟨_, M, rfl, hM, Fr.rf, by
                      unfold spEvent
                      rw [if_pos hC, tn_nI (by omega), tn_nI (by omega)]
                      refine ⟨?_, Sm.rf M⟩
                      have h1 : evS (M 0) ix (e + 1) = some e := by
                        show (match evS (M 0) ix e with | some e => some e | none => if wtB (M 0) e && decide (ahc (M 0) e (4 * M 0 1) = ix) then some e else none) = _
                        rw [ho]
                        exact if_pos (by simp [hwt, h_103])
                      unfold evR
                      rw [evS_some (show e + 1 ≤ 4 * M 0 1 by omega) h1]
                      have h2 : evP (M 0) e pt = _ := (if_neg (by omega)).trans (if_neg h_120)
                      show _ = nI (evP (M 0) e pt)
                      rw [h2]⟩
                  · refine qa_iload_n hΓ dX6_event_123 rfl ?_
                    refine qa_iconst (v := nI 4) hΓ dX6_event_124 ic_4 ?_
                    refine qz_idiv hΓ dX6_event_125 (by omega) (by decide) (by decide) ?_
                    refine qa_goto (tgt := 132) hΓ dX6_event_126 (by decide) ?_
                    exact qr_i hR dX6_event_132 ⟨_, M, rfl, hM, Fr.rf, by
                      unfold spEvent
                      rw [if_pos hC, tn_nI (by omega), tn_nI (by omega)]
                      refine ⟨?_, Sm.rf M⟩
                      have h1 : evS (M 0) ix (e + 1) = some e := by
                        show (match evS (M 0) ix e with | some e => some e | none => if wtB (M 0) e && decide (ahc (M 0) e (4 * M 0 1) = ix) then some e else none) = _
                        rw [ho]
                        exact if_pos (by simp [hwt, h_103])
                      unfold evR
                      rw [evS_some (show e + 1 ≤ 4 * M 0 1 by omega) h1]
                      have h2 : evP (M 0) e pt = _ := (if_neg (by omega)).trans (if_pos h_120)
                      show _ = nI (evP (M 0) e pt)
                      rw [h2]⟩
                · refine qa_aload_n hΓ dX6_event_110 rfl ?_
                  refine qa_iload_n hΓ dX6_event_111 rfl ?_
                  refine qc_V1 hΓ dX6_event_112 lk_X6_53 vw_X6_timeOf (by omega) (c_X6_timeOf l (d - 1) (by omega) hM _ (by omega)) rfl hM.lt hM.o rfl rfl (Nat.le_of_ble_eq_true rfl) ?_
                  refine qa_goto (tgt := 132) hΓ dX6_event_115 (by decide) ?_
                  exact qr_i hR dX6_event_132 ⟨_, M, rfl, hM, Fr.rf, by
                    unfold spEvent
                    rw [if_pos hC, tn_nI (by omega), tn_nI (by omega)]
                    refine ⟨?_, Sm.rf M⟩
                    have h1 : evS (M 0) ix (e + 1) = some e := by
                      show (match evS (M 0) ix e with | some e => some e | none => if wtB (M 0) e && decide (ahc (M 0) e (4 * M 0 1) = ix) then some e else none) = _
                      rw [ho]
                      exact if_pos (by simp [hwt, h_103])
                    unfold evR
                    rw [evS_some (show e + 1 ≤ 4 * M 0 1 by omega) h1]
                    have h2 : evP (M 0) e pt = _ := if_pos h_107
                    show _ = nI (evP (M 0) e pt)
                    rw [h2]⟩
      exact loop (4 * M 0 1 + 1) 0 _ _ (Nat.zero_le _) (by omega) rfl
    · refine qa_iconst (v := (-1)) hΓ dX6_event_13 ic_m1 ?_
      exact qr_i hR dX6_event_14 ⟨-1, M, rfl, hM, Fr.rf, by unfold spEvent; rw [if_neg (fun q => by first | exact absurd q.1 (Int32.not_le.mpr h_1) | exact of_decide_eq_false h_10 q.2)]; exact ⟨rfl, Sm.rf M⟩⟩

def spApp (M : Bk) (ch : Int32) (r : Int32) (M' : Bk) : Prop := if nI 0 ≤ ch ∧ ch ≤ nI 255 then (if M 5 1 = 60 then r = -3 ∧ Sm M M' else r = nI (M 5 1 + 1) ∧ M' 0 = M 0 ∧ M' 1 = M 1 ∧ M' 5 0 = M 5 0 ∧ M' 4 = upN (M 4) (M 5 1) (tn ch) ∧ M' 5 1 = M 5 1 + 1) else r = -1 ∧ Sm M M'
def spClr (M : Bk) (r : Int32) (M' : Bk) : Prop := r = nI (M 5 1) ∧ M' 0 = M 0 ∧ M' 1 = M 1 ∧ M' 5 0 = M 5 0 ∧ M' 4 = M 4 ∧ M' 5 1 = 0
theorem byI_nar (c : Nat) : vp_nar .byte ((nI c).toInt8.toInt32) = byI c := by
  unfold vp_nar byI
  show (nI c).toInt8.toInt32.toInt8.toInt32 = _
  rw [Int8.toInt8_toInt32]
theorem MdAt.setT {n k : Nat} {w : Nat → AC} {M : Bk} (h : MdAt n w k M) (j c : Nat) : MdAt n (upw w (k + 5) (cArr 1 60 (upd (fun j => byI (M 4 j)) j (byI c)))) k (rset M 4 (upN (M 4) j c)) ∧ Fr k 6 w (upw w (k + 5) (cArr 1 60 (upd (fun j => byI (M 4 j)) j (byI c)))) := by
  refine ⟨⟨h.1, ?_, ?_, ?_, ?_, ?_, ?_, fun i hi j hj => ?_⟩, Fr.up (by omega) (by omega)⟩
  · rw [upw_ne _ _ _ (by omega), h.o]
    unfold mdObj
    rw [rset_ne _ _ (show (5 : Nat) ≠ 4 by decide)]
  · rw [upw_ne _ _ _ (by omega), h.a0, rset_ne _ _ (by decide)]
  · rw [upw_ne _ _ _ (by omega), h.a1, rset_ne _ _ (by decide)]
  · rw [upw_ne _ _ _ (by omega), h.a2, rset_ne _ _ (by decide)]
  · rw [upw_ne _ _ _ (by omega), h.a3, rset_ne _ _ (by decide)]
  · rw [upw_self, rset_eq]
    congr 3
    funext q
    unfold upd upN
    split <;> rfl
  · rw [rset_ne _ _ (by omega)]
    exact h.nf hi hj
set_option maxRecDepth 100000 in
set_option maxHeartbeats 4000000 in
theorem c_X6_appendCharacter (l : Launch) (d : Nat) (hd : 1 ≤ d) {n k : Nat} {w : Nat → AC} {M : Bk} (hM : MdAt n w k M) (ht : M 5 1 ≤ 60) (ch : Int32) : Sq l yX6_appendCharacter cX6_appendCharacter 2 (some .int) d [aR k, aI ch] n w (QM (spApp M ch) n k w) := by
  refine Sp.of (plainFor_of_name (by decide)) (Nat.le_of_ble_eq_true rfl) (fun Γ hΓ hR => ?_)
  show Γ 0 [aR k, aI ch] [] (0, 0) n w
  refine qa_iload_n hΓ dX6_appendCharacter_0 rfl ?_
  refine qa_iconst (v := nI 0) hΓ dX6_appendCharacter_1 ic_0 ?_
  refine qa_sipush (v := nI 255) hΓ dX6_appendCharacter_2 sp_255 ?_
  refine qc_S1 hΓ dX6_appendCharacter_5 lk_X6_33 vw_X6_in (by omega) (c_X6_in l (d - 1) _ _ _) rfl rfl (Nat.le_of_ble_eq_true rfl) ?_
  refine qb_if_ne (tgt := 13) hΓ dX6_appendCharacter_8 (by decide) (fun h_8 => ?_) (fun h_8 => ?_)
  · have hC : nI 0 ≤ ch ∧ ch ≤ nI 255 := of_decide_eq_true h_8
    obtain ⟨c, hc1, hc2, rfl⟩ := rng (by decide) hC (by decide)
    refine qa_aload_n hΓ dX6_appendCharacter_13 rfl ?_
    refine qa_get hΓ dX6_appendCharacter_14 fk_X6_26 hM.lt hM.o rfl ?_
    refine qa_bipush (v := nI 60) hΓ dX6_appendCharacter_17 bp_60 ?_
    refine qz_icmp_ne (tgt := 25) hΓ dX6_appendCharacter_19 (by decide) (by omega) (by omega) (fun h_19 => ?_) (fun h_19 => ?_)
    · refine qa_aload_n hΓ dX6_appendCharacter_25 rfl ?_
      refine qa_get hΓ dX6_appendCharacter_26 fk_X6_22 hM.lt hM.o rfl ?_
      refine qa_aload_n hΓ dX6_appendCharacter_29 rfl ?_
      refine qa_get hΓ dX6_appendCharacter_30 fk_X6_26 hM.lt hM.o rfl ?_
      refine qa_iload_n hΓ dX6_appendCharacter_33 rfl ?_
      refine qa_i2b (v := (nI c).toInt8.toInt32) hΓ dX6_appendCharacter_34 rfl ?_
      refine qa_bast hΓ dX6_appendCharacter_35 (hM.lti (i := 5) (by decide)) hM.a4 (vp_in_nI (by omega) (by decide)) ?_
      rw [nI_clamp (by omega), byI_nar]
      obtain ⟨hM9, hF9⟩ := hM.setT (M 5 1) c
      generalize upw w (k + 5) (cArr 1 60 (upd (fun j => byI (M 4 j)) (M 5 1) (byI c))) = w at hM9 hF9 ⊢
      obtain ⟨M1, hM, hK⟩ : ∃ X, MdAt n w k X ∧ X = rset M 4 (upN (M 4) (M 5 1) c) := ⟨_, hM9, rfl⟩
      have e5 : M1 5 = M 5 := by rw [hK]; exact rset_ne _ _ (by decide)
      have hF0 := hF9
      refine qa_aload_n hΓ dX6_appendCharacter_36 rfl ?_
      refine qa_dup hΓ dX6_appendCharacter_37 ?_
      refine qa_get hΓ dX6_appendCharacter_38 fk_X6_26 hM.lt hM.o rfl ?_
      refine qa_iconst (v := nI 1) hΓ dX6_appendCharacter_41 ic_1 ?_
      refine qz_iadd hΓ dX6_appendCharacter_42 ?_
      refine qM_put hΓ 1 dX6_appendCharacter_43 fk_X6_26 (by decide) hM (fun w hM hF => ?_)
      have hF0 := hF0.tr hF
      refine qa_aload_n hΓ dX6_appendCharacter_46 rfl ?_
      refine qa_get hΓ dX6_appendCharacter_47 fk_X6_26 hM.lt hM.o rfl ?_
      exact qr_i hR dX6_appendCharacter_50 ⟨_, _, rfl, hM, hF0, by
        unfold spApp
        rw [if_pos hC, if_neg h_19, tn_nI (by omega)]
        refine ⟨?_, ?_, ?_, ?_, ?_, ?_⟩
        · rw [bset_eq, upN_self, e5]
        · rw [bset_ne _ _ _ (by decide), hK, rset_ne _ _ (by decide)]
        · rw [bset_ne _ _ _ (by decide), hK, rset_ne _ _ (by decide)]
        · rw [bset_eq, upN_ne _ _ _ (by decide), e5]
        · rw [bset_ne _ _ _ (by decide), hK, rset_eq]
        · rw [bset_eq, upN_self, e5]⟩
    · refine qa_bipush (v := (-3)) hΓ dX6_appendCharacter_22 bp_m3 ?_
      exact qr_i hR dX6_appendCharacter_24 ⟨-3, M, rfl, hM, Fr.rf, by unfold spApp; rw [if_pos hC, if_pos h_19]; exact ⟨rfl, Sm.rf M⟩⟩
  · refine qa_iconst (v := (-1)) hΓ dX6_appendCharacter_11 ic_m1 ?_
    exact qr_i hR dX6_appendCharacter_12 ⟨-1, M, rfl, hM, Fr.rf, by unfold spApp; rw [if_neg (fun q => by first | exact of_decide_eq_false h_8 (q))]; exact ⟨rfl, Sm.rf M⟩⟩

set_option maxRecDepth 100000 in
set_option maxHeartbeats 4000000 in
theorem c_X6_clearText (l : Launch) (d : Nat) {n k : Nat} {w : Nat → AC} {M : Bk} (hM : MdAt n w k M) : Sq l yX6_clearText cX6_clearText 2 (some .int) d [aR k] n w (QM (spClr M) n k w) := by
  refine Sp.of (plainFor_of_name (by decide)) (Nat.le_of_ble_eq_true rfl) (fun Γ hΓ hR => ?_)
  show Γ 0 [aR k, none] [] (0, 0) n w
  refine qa_aload_n hΓ dX6_clearText_0 rfl ?_
  refine qa_get hΓ dX6_clearText_1 fk_X6_26 hM.lt hM.o rfl ?_
  refine qa_istore_n hΓ dX6_clearText_4 (by decide) ?_
  refine qa_aload_n hΓ dX6_clearText_5 rfl ?_
  refine qa_iconst (v := nI 0) hΓ dX6_clearText_6 ic_0 ?_
  refine qM_put hΓ 1 dX6_clearText_7 fk_X6_26 (by decide) hM (fun w hM hF => ?_)
  refine qa_iload_n hΓ dX6_clearText_10 rfl ?_
  exact qr_i hR dX6_clearText_11 ⟨_, _, rfl, hM, hF, rfl, bset_ne _ _ _ (by decide), bset_ne _ _ _ (by decide), by rw [bset_eq, upN_ne _ _ _ (by decide)], bset_ne _ _ _ (by decide), by rw [bset_eq, upN_self]⟩

