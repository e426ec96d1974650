/-! The model: explanations, time that passes -/
def exB (s : Nat → Nat) (seen : Nat) (k : Nat) : Bool := decide (vv s (k / 2) 6 = 0) && decide (ndE (lks (upN s (ix (k / 2) 6) (1 + k % 2))).2 false 200 = 256 + seen)
def spExp (M : Bk) (se : Int32) (r : Int32) (M' : Bk) : Prop := (if nI 0 ≤ se ∧ se ≤ nI 255 then r = nI (mk (exB (M 0) (tn se)) (2 * M 0 1)) else r = -1) ∧ Sm M M'
theorem Mup.rest {M9 M2 : Bk} {t s : Nat → Nat} (h : Mup M9 t M2) (e : M9 2 = s) : Mup M9 s (rset M2 0 (M2 2)) := by
  refine ⟨by rw [rset_eq, h.2.1 2 (by decide) (by decide), e], fun a h1 h2 => by rw [rset_ne _ _ (by omega)]; exact h.2.1 a h1 h2, ?_, ?_, ?_⟩
  · rw [rset_ne _ _ (by decide)]; exact h.2.2.1
  · rw [rset_ne _ _ (by decide)]; exact h.2.2.2.1
  · rw [rset_ne _ _ (by decide)]; exact h.2.2.2.2
theorem keepS {M M1 M2 : Bk} (h1 : M1 = rset M 2 (M 0)) (hU : Mup M1 (M 0) M2) : Sm M M2 := by
  refine ⟨hU.1, ?_, ?_, ?_, ?_⟩
  · rw [hU.2.1 1 (by decide) (by decide), h1, rset_ne _ _ (by decide)]
  · rw [hU.2.2.1, h1, rset_ne _ _ (by decide)]
  · rw [hU.2.1 4 (by decide) (by decide), h1, rset_ne _ _ (by decide)]
  · rw [hU.2.2.2.1, h1, rset_ne _ _ (by decide)]
theorem mk_16 (p : Nat → Bool) {n : Nat} (h : n ≤ 16) : mk p n < 65536 := Nat.lt_of_lt_of_le (mk_lt p n) (Nat.pow_le_pow_right (n := 2) (by decide) h)
set_option maxRecDepth 100000 in
set_option maxHeartbeats 4000000 in
theorem c_X6_explain (l : Launch) (d : Nat) (hd : 6 ≤ d) {n k : Nat} {w : Nat → AC} {M : Bk} (hM : MdAt n w k M) {B : Nat} (hW : Wt (M 0) B) (hB : B < 900000000) (se : Int32) : Sq l yX6_explain cX6_explain 4 (some .int) d [aR k, aI se] n w (QM (spExp M se) n k w) := by
  refine Sp.of (plainFor_of_name (by decide)) (Nat.le_of_ble_eq_true rfl) (fun Γ hΓ hR => ?_)
  show Γ 0 [aR k, aI se, none, none] [] (0, 0) n w
  refine qa_iload_n hΓ dX6_explain_0 rfl ?_
  refine qa_iconst (v := nI 0) hΓ dX6_explain_1 ic_0 ?_
  refine qa_sipush (v := nI 255) hΓ dX6_explain_2 sp_255 ?_
  refine qc_S1 hΓ dX6_explain_5 lk_X6_33 vw_X6_in (by omega) (c_X6_in l (d - 1) _ _ _) rfl rfl (Nat.le_of_ble_eq_true rfl) ?_
  refine qb_if_ne (tgt := 13) hΓ dX6_explain_8 (by decide) (fun h_8 => ?_) (fun h_8 => ?_)
  · have hC : nI 0 ≤ se ∧ se ≤ nI 255 := of_decide_eq_true h_8
    obtain ⟨seen, hk1, hk2, rfl⟩ := rng (by decide) hC (by decide)
    obtain ⟨w0, hw0⟩ : ∃ X, X = w ∧ ∀ w2, Fr k 6 X w2 → Fr k 6 w w2 := ⟨w, rfl, fun _ h => h⟩
    obtain ⟨hww, hw0⟩ := hw0
    refine qa_aload_n hΓ dX6_explain_13 rfl ?_
    refine qc_V0q hΓ dX6_explain_14 lk_X6_118 vw_X6_keeps (by omega) (c_X6_keeps l (d - 1) hM) rfl hM.lt hM.o rfl rfl (Nat.le_of_ble_eq_true rfl) (fun w hq => ?_)
    obtain ⟨hM, hF0⟩ := hq
    obtain ⟨M1, hM, hK⟩ : ∃ X, MdAt n w k X ∧ X = rset M 2 (M 0) := ⟨_, hM, rfl⟩
    have hU := keepU hK
    rw [← hww] at hF0
    obtain ⟨M9, hM9⟩ : ∃ X, X = M1 := ⟨_, rfl⟩
    have hU : Mup M9 (M 0) M1 := hM9 ▸ hU
    rw [← hM9] at hK
    refine qa_iconst (v := nI 0) hΓ dX6_explain_17 ic_0 ?_
    refine qa_istore_n hΓ dX6_explain_18 (by decide) ?_
    refine qa_iconst (v := nI 0) hΓ dX6_explain_19 ic_0 ?_
    refine qa_istore_n hΓ dX6_explain_20 (by decide) ?_
    have e92 : M9 2 = M 0 := by rw [hK, rset_eq]
    have h8 := hW.2.1
    have loop : ∀ (m i : Nat) (w1 : Nat → AC) (M1 : Bk), i ≤ 2 * M 0 1 → 2 * M 0 1 < i + m → MdAt n w1 k M1 → Mup M9 (M 0) M1 → Fr k 6 w0 w1 → Γ 21 [aR k, aZ seen, aZ (mk (exB (M 0) seen) i), aZ i] [] (0, 0) n w1 := by
      intro m
      induction m with
      | zero => intro i w1 M1 h1 h2; exact absurd h2 (by omega)
      | succ m ih =>
        intro i w M1 hi hm hM hU hF0
        have h10 : M1 0 1 = M 0 1 := by rw [hU.1]
        refine qa_iload_n hΓ dX6_explain_21 rfl ?_
        refine qa_iconst (v := nI 2) hΓ dX6_explain_22 ic_2 ?_
        refine qa_aload_n hΓ dX6_explain_23 rfl ?_
        refine qa_get hΓ dX6_explain_24 fk_X6_7 hM.lt hM.o rfl ?_
        refine qa_iconst (v := nI 1) hΓ dX6_explain_27 ic_1 ?_
        refine qz_iald hΓ dX6_explain_28 (hM.lti (i := 1) (by decide)) hM.a0 (by omega) (by decide) ?_
        refine qz_imul hΓ dX6_explain_29 ?_
        refine qz_icmp_ge (tgt := 108) hΓ dX6_explain_30 (by decide) (by omega) (by omega) (fun h_30 => ?_) (fun h_30 => ?_)
        · refine qa_iload_n hΓ dX6_explain_108 rfl ?_
          exact qr_i hR dX6_explain_109 ⟨_, M1, rfl, hM, hw0 _ hF0, by
            unfold spExp
            rw [if_pos hC, tn_nI (by omega), show 2 * M 0 1 = i by omega]
            exact ⟨rfl, keepS hK hU⟩⟩
        · have hr : i / 2 < M 0 1 := by omega
          have h8 := hW.2.1
          have hb6 := hW.b hr (x := 6) (by decide)
          have hW1 : Wt (upN (M 0) (ix (i / 2) 6) (1 + i % 2)) B := hW.up (by decide) (by simp [bdF]; omega)
          refine qa_aload_n hΓ dX6_explain_33 rfl ?_
          refine qa_iload_n hΓ dX6_explain_34 rfl ?_
          refine qa_iconst (v := nI 2) hΓ dX6_explain_35 ic_2 ?_
          refine qz_idiv hΓ dX6_explain_36 (by omega) (by decide) (by decide) ?_
          refine qa_bipush (v := nI 6) hΓ dX6_explain_37 bp_6 ?_
          refine qc_V1 hΓ dX6_explain_39 lk_X6_37 vw_X6_of (by omega) (c_X6_ofU l (d - 1) hM hU _ _ (by omega) (by omega)) rfl hM.lt hM.o rfl rfl (Nat.le_of_ble_eq_true rfl) ?_
          refine qz_if_ne (tgt := 102) hΓ dX6_explain_42 (by decide) (by omega) (fun h_42 => ?_) (fun h_42 => ?_)
          · refine qz_iinc hΓ dX6_explain_102 ii_1 rfl (by decide) ?_
            refine qa_goto (tgt := 21) hΓ dX6_explain_105 (by decide) ?_
            have e7 : mk (exB (M 0) seen) (i + 1) = mk (exB (M 0) seen) i ||| (if exB (M 0) seen i then 1 <<< i else 0) := rfl
            have ec : exB (M 0) seen i = false := by unfold exB; rw [decide_eq_false h_42]; rfl
            rw [ec] at e7
            simp only [if_true, Bool.false_eq_true, if_false] at e7
            have h9 := ih (i + 1) w M1 (by omega) (by omega) hM hU hF0
            rw [e7] at h9
            rw [Nat.or_zero] at h9; exact h9
          · refine qa_aload_n hΓ dX6_explain_45 rfl ?_
            refine qa_iload_n hΓ dX6_explain_46 rfl ?_
            refine qa_iconst (v := nI 2) hΓ dX6_explain_47 ic_2 ?_
            refine qz_idiv hΓ dX6_explain_48 (by omega) (by decide) (by decide) ?_
            refine qa_bipush (v := nI 6) hΓ dX6_explain_49 bp_6 ?_
            refine qa_iconst (v := nI 1) hΓ dX6_explain_51 ic_1 ?_
            refine qa_iload_n hΓ dX6_explain_52 rfl ?_
            refine qa_iconst (v := nI 2) hΓ dX6_explain_53 ic_2 ?_
            refine qz_irem hΓ dX6_explain_54 (by omega) (by decide) (by decide) ?_
            refine qz_iadd hΓ dX6_explain_55 ?_
            refine qc_V0q hΓ dX6_explain_56 lk_X6_49 vw_X6_puts (by omega) (c_X6_puts l (d - 1) hM _ _ _ (by omega) (by omega)) rfl hM.lt hM.o rfl rfl (Nat.le_of_ble_eq_true rfl) (fun w hq => ?_)
            obtain ⟨hM, hF⟩ := hq
            have hF0 := hF0.tr hF
            obtain ⟨M1, hM, hU⟩ := Mup.putE hM hU
            refine qa_aload_n hΓ dX6_explain_59 rfl ?_
            refine qa_dup hΓ dX6_explain_60 ?_
            refine qa_get hΓ dX6_explain_61 fk_X6_65 hM.lt hM.o rfl ?_
            refine qa_aload_n hΓ dX6_explain_64 rfl ?_
            refine qc_V1q hΓ dX6_explain_65 lk_X6_68 vw_X6_looks (by omega) (c_X6_looks l (d - 1) (by omega) hM (by rw [hU.1]; exact hW1) (by omega)) rfl hM.lt hM.o rfl rfl (Nat.le_of_ble_eq_true rfl) (fun w hq => ?_)
            obtain ⟨M2, hM, hU2, hF⟩ := hq
            have hF0 := hF0.tr hF
            have hUo := hU
            have hU := hU.lookE hU2
            refine qz_iadd hΓ dX6_explain_68 ?_
            refine qM_put hΓ 2 dX6_explain_69 fk_X6_65 (by decide) hM (fun w hM hF => ?_)
            have hF0 := hF0.tr hF
            obtain ⟨M1, hM, hU⟩ := Mup.chgE hM hU
            refine qa_iload_n hΓ dX6_explain_72 rfl ?_
            refine qa_aload_n hΓ dX6_explain_73 rfl ?_
            refine qa_iconst (v := nI 0) hΓ dX6_explain_74 ic_0 ?_
            refine qa_sipush (v := nI 200) hΓ dX6_explain_75 sp_200 ?_
            refine qc_V1q hΓ dX6_explain_78 lk_X6_138 vw_X6_ends (by omega) (c_X6_ends l (d - 1) (by omega) hM (by rw [hU.1]; exact hW1.lks) false 200 (by omega) (by omega)) rfl hM.lt hM.o rfl rfl (Nat.le_of_ble_eq_true rfl) (fun w hq => ?_)
            obtain ⟨M2, hM, hU2, hF⟩ := hq
            have hF0 := hF0.tr hF
            rw [hU.1] at hU2 ⊢
            have hU := hU.tr hU2
            refine qa_sipush (v := nI 256) hΓ dX6_explain_81 sp_256 ?_
            refine qa_iload_n hΓ dX6_explain_84 rfl ?_
            refine qz_iadd hΓ dX6_explain_85 ?_
            have hn1 := ndE_le hW1.lks false 200
            refine qz_icmp_ne (tgt := 95) hΓ dX6_explain_86 (by decide) (by omega) (by omega) (fun h_86 => ?_) (fun h_86 => ?_)
            · refine qa_iconst (v := nI 0) hΓ dX6_explain_95 ic_0 ?_
              refine qz_ior hΓ dX6_explain_96 ?_
              refine qa_istore_n hΓ dX6_explain_97 (by decide) ?_
              refine qa_aload_n hΓ dX6_explain_98 rfl ?_
              refine qc_V0q hΓ dX6_explain_99 lk_X6_141 vw_X6_restores (by omega) (c_X6_restores l (d - 1) hM) rfl hM.lt hM.o rfl rfl (Nat.le_of_ble_eq_true rfl) (fun w hq => ?_)
              obtain ⟨hM, hF⟩ := hq
              have hF0 := hF0.tr hF
              refine qz_iinc hΓ dX6_explain_102 ii_1 rfl (by decide) ?_
              refine qa_goto (tgt := 21) hΓ dX6_explain_105 (by decide) ?_
              have e7 : mk (exB (M 0) seen) (i + 1) = mk (exB (M 0) seen) i ||| (if exB (M 0) seen i then 1 <<< i else 0) := rfl
              have ec : exB (M 0) seen i = false := by unfold exB; rw [decide_eq_false h_86, Bool.and_false]
              rw [ec] at e7
              simp only [if_true, Bool.false_eq_true, if_false] at e7
              have h9 := ih (i + 1) w _ (by omega) (by omega) hM (hU.rest e92) hF0
              rw [e7] at h9
              exact h9
            · refine qa_iconst (v := nI 1) hΓ dX6_explain_89 ic_1 ?_
              refine qa_iload_n hΓ dX6_explain_90 rfl ?_
              refine qz_ishl hΓ dX6_explain_91 (by omega) ?_
              refine qa_goto (tgt := 96) hΓ dX6_explain_92 (by decide) ?_
              refine qz_ior hΓ dX6_explain_96 ?_
              refine qa_istore_n hΓ dX6_explain_97 (by decide) ?_
              refine qa_aload_n hΓ dX6_explain_98 rfl ?_
              refine qc_V0q hΓ dX6_explain_99 lk_X6_141 vw_X6_restores (by omega) (c_X6_restores l (d - 1) hM) rfl hM.lt hM.o rfl rfl (Nat.le_of_ble_eq_true rfl) (fun w hq => ?_)
              obtain ⟨hM, hF⟩ := hq
              have hF0 := hF0.tr hF
              refine qz_iinc hΓ dX6_explain_102 ii_1 rfl (by decide) ?_
              refine qa_goto (tgt := 21) hΓ dX6_explain_105 (by decide) ?_
              have e7 : mk (exB (M 0) seen) (i + 1) = mk (exB (M 0) seen) i ||| (if exB (M 0) seen i then 1 <<< i else 0) := rfl
              have ec : exB (M 0) seen i = true := by unfold exB; rw [decide_eq_true h_42, decide_eq_true h_86]; rfl
              rw [ec] at e7
              simp only [if_true, Bool.false_eq_true, if_false] at e7
              have h9 := ih (i + 1) w _ (by omega) (by omega) hM (hU.rest e92) hF0
              rw [e7] at h9
              exact h9
    exact loop (2 * M 0 1 + 1) 0 w M1 (Nat.zero_le _) (by omega) hM hU hF0
  · refine qa_iconst (v := (-1)) hΓ dX6_explain_11 ic_m1 ?_
    exact qr_i hR dX6_explain_12 ⟨-1, M, rfl, hM, Fr.rf, by unfold spExp; rw [if_neg (fun q => of_decide_eq_false h_8 q)]; exact ⟨rfl, Sm.rf M⟩⟩

def psL (then_ : Nat) (s : Nat → Nat) : Nat → Nat × (Nat → Nat)
  | 0 => (0, s)
  | m + 1 => match nx s false with
    | none => (0, s)
    | some e => if tmO s e ≤ then_ then ((psL then_ (hap s e) m).1 + 1, (psL then_ (hap s e) m).2) else (0, s)
def spPass (M : Bk) (tk : Int32) (r : Int32) (M' : Bk) : Prop := if nI 1 ≤ tk ∧ tk ≤ nI 1000 then (if 100000 < M 0 2 + tn tk then r = -3 ∧ Sm M M' else if 200 < (psL (M 0 2 + tn tk) (M 0) 201).1 then r = -3 ∧ Sm M M' else r = nI (psL (M 0 2 + tn tk) (M 0) 201).1 ∧ Op M (upN (psL (M 0 2 + tn tk) (M 0) 201).2 2 (M 0 2 + tn tk)) M') else r = -1 ∧ Sm M M'
theorem psL_le (then_ : Nat) : ∀ (m : Nat) (s : Nat → Nat), (psL then_ s m).1 ≤ m
  | 0, s => Nat.le_refl _
  | m + 1, s => by
    unfold psL
    split
    · exact Nat.zero_le _
    · rename_i e _
      split
      · have := psL_le then_ m (hap s e)
        show _ + 1 ≤ _
        omega
      · exact Nat.zero_le _
theorem Wt.psL {then_ : Nat} : ∀ {m : Nat} {s : Nat → Nat} {B : Nat}, Wt s B → Wt (psL then_ s m).2 (B + 20 * m)
  | 0, s, B, h => h
  | m + 1, s, B, h => by
    unfold Jvm.Pilot.@@N@@.psL
    split
    · exact h.mono (by omega)
    · rename_i e he
      split
      · have h1 := Wt.psL (then_ := then_) (m := m) (Wt.hap h (nx_lt he))
        rw [show B + 20 + 20 * m = B + 20 * (m + 1) by omega] at h1
        exact h1
      · exact h.mono (by omega)
theorem exchU {M9 M2 : Bk} {t : Nat → Nat} (h : Mup M9 t M2) : Mup (rset M9 2 t) (M9 2) (rset (rset M2 0 (M2 2)) 2 (M2 0)) := by
  have e2 : M2 2 = M9 2 := h.2.1 2 (by decide) (by decide)
  refine ⟨by rw [rset_ne _ _ (by decide), rset_eq, e2], fun a h1 h2 => ?_, ?_, ?_, ?_⟩
  · by_cases e : a = 2
    · subst e; rw [rset_eq, rset_eq, h.1]
    · rw [rset_ne _ _ e, rset_ne _ _ (by omega), rset_ne _ _ e]; exact h.2.1 a h1 h2
  · rw [rset_ne _ _ (by decide), rset_ne _ _ (by decide), rset_ne _ _ (by decide)]; exact h.2.2.1
  · rw [rset_ne _ _ (by decide), rset_ne _ _ (by decide), rset_ne _ _ (by decide)]; exact h.2.2.2.1
  · rw [rset_ne _ _ (by decide), rset_ne _ _ (by decide), rset_ne _ _ (by decide)]; exact h.2.2.2.2
/-- what notes and a second exchange leave -/
theorem Op.exch {M M1 M2 : Bk} {t : Nat → Nat} (hS : Sm M M1) (h2 : M1 2 = t) (hN : Ntd M1 M2) : Op M t (rset (rset M2 0 (M2 2)) 2 (M2 0)) := by
  obtain ⟨s0, s1, s2, s3, s4⟩ := hS
  obtain ⟨n1, n2, n3, n4, n5⟩ := hN
  have ep : p5 M1 = p5 M := by unfold p5; rw [s2]
  have e1 : ∀ i, pst M1 i = pst M i := fun i => by unfold pst; rw [s1]
  have e2 : ∀ i, pst (rset (rset M2 0 (M2 2)) 2 (M2 0)) i = pst M2 i := fun i => by unfold pst; rw [rset_ne _ _ (by decide), rset_ne _ _ (by decide)]
  refine ⟨⟨?_, fun i hi => ?_, ?_⟩, ?_, ?_, ?_⟩
  · rw [rset_ne _ _ (by decide), rset_ne _ _ (by decide), n3, ep]
  · rw [e2, n4 i (by rw [ep]; exact hi), s2, e1]
  · rw [e2, ← ep, n5, s0]
  · rw [rset_ne _ _ (by decide), rset_eq, n1 2 (by decide) (by decide), h2]
  · rw [rset_ne _ _ (by decide), rset_ne _ _ (by decide), n1 4 (by decide) (by decide), s3]
  · rw [rset_ne _ _ (by decide), rset_ne _ _ (by decide), n2 1 (by decide), s4]
set_option maxRecDepth 100000 in
set_option maxHeartbeats 4000000 in
theorem c_X6_pass (l : Launch) (d : Nat) (hd : 4 ≤ d) {n k : Nat} {w : Nat → AC} {M : Bk} (hM : MdAt n w k M) {B : Nat} (hW : Wt (M 0) B) (hB : B < 900000000) (hp : M 5 0 ≤ 6) (tk : Int32) : Sq l yX6_pass cX6_pass 5 (some .int) d [aR k, aI tk] n w (QM (spPass M tk) n k w) := by
  refine Sp.of (plainFor_of_name (by decide)) (Nat.le_of_ble_eq_true rfl) (fun Γ hΓ hR => ?_)
  show Γ 0 [aR k, aI tk, none, none, none] [] (0, 0) n w
  refine qa_iload_n hΓ dX6_pass_0 rfl ?_
  refine qa_iconst (v := nI 1) hΓ dX6_pass_1 ic_1 ?_
  refine qa_sipush (v := nI 1000) hΓ dX6_pass_2 sp_1000 ?_
  refine qc_S1 hΓ dX6_pass_5 lk_X6_33 vw_X6_in (by omega) (c_X6_in l (d - 1) _ _ _) rfl rfl (Nat.le_of_ble_eq_true rfl) ?_
  refine qb_if_ne (tgt := 13) hΓ dX6_pass_8 (by decide) (fun h_8 => ?_) (fun h_8 => ?_)
  · have hC : nI 1 ≤ tk ∧ tk ≤ nI 1000 := of_decide_eq_true h_8
    obtain ⟨tk, hk1, hk2, rfl⟩ := rng (by decide) hC (by decide)
    have ht0 := hW.2.2.1
    obtain ⟨w0, hw0⟩ : ∃ X, X = w ∧ ∀ w2, Fr k 6 X w2 → Fr k 6 w w2 := ⟨w, rfl, fun _ h => h⟩
    obtain ⟨hww, hw0⟩ := hw0
    refine qa_aload_n hΓ dX6_pass_13 rfl ?_
    refine qa_get hΓ dX6_pass_14 fk_X6_7 hM.lt hM.o rfl ?_
    refine qa_iconst (v := nI 2) hΓ dX6_pass_17 ic_2 ?_
    refine qz_iald hΓ dX6_pass_18 (hM.lti (i := 1) (by decide)) hM.a0 (by omega) (by decide) ?_
    refine qa_iload_n hΓ dX6_pass_19 rfl ?_
    refine qz_iadd hΓ dX6_pass_20 ?_
    refine qa_istore_n hΓ dX6_pass_21 (by decide) ?_
    refine qa_iload_n hΓ dX6_pass_22 rfl ?_
    refine qa_ldc (v := nI 100000) hΓ dX6_pass_23 ck_X6_131 ?_
    refine qz_icmp_le (tgt := 31) hΓ dX6_pass_25 (by decide) (by omega) (by omega) (fun h_25 => ?_) (fun h_25 => ?_)
    · have h_25n : ¬ 100000 < M 0 2 + tk := by omega
      refine qa_aload_n hΓ dX6_pass_31 rfl ?_
      refine qc_V0q hΓ dX6_pass_32 lk_X6_118 vw_X6_keeps (by omega) (c_X6_keeps l (d - 1) hM) rfl hM.lt hM.o rfl rfl (Nat.le_of_ble_eq_true rfl) (fun w hq => ?_)
      obtain ⟨hM, hF0⟩ := hq
      obtain ⟨M1, hM, hK⟩ : ∃ X, MdAt n w k X ∧ X = rset M 2 (M 0) := ⟨_, hM, rfl⟩
      have hU := keepU hK
      rw [← hww] at hF0
      obtain ⟨M9, hM9⟩ : ∃ X, X = M1 := ⟨_, rfl⟩
      have hU : Mup M9 (M 0) M1 := hM9 ▸ hU
      rw [← hM9] at hK
      refine qa_iconst (v := nI 0) hΓ dX6_pass_35 ic_0 ?_
      refine qa_istore_n hΓ dX6_pass_36 (by decide) ?_
      refine qa_aload_n hΓ dX6_pass_37 rfl ?_
      refine qa_iconst (v := nI 0) hΓ dX6_pass_38 ic_0 ?_
      refine qc_V1 hΓ dX6_pass_39 lk_X6_71 vw_X6_next (by omega) (c_X6_next l (d - 1) (by omega) hM (by rw [hU.1]; exact hW) (by omega) false) rfl hM.lt hM.o rfl rfl (Nat.le_of_ble_eq_true rfl) ?_
      rw [hU.1]
      refine qa_istore hΓ dX6_pass_42 (by decide) ?_
      have tail : ∀ (w1 : Nat → AC) (M2 : Bk) (t : Nat → Nat) (j : Nat) (v : AV), MdAt n w1 k M2 → Mup M9 t M2 → Fr k 6 w0 w1 → j ≤ 201 → psL (M 0 2 + tk) (M 0) 201 = (j, t) → Γ 87 [aR k, aZ tk, aZ (M 0 2 + tk), aZ j, v] [] (0, 0) n w1 := by
        intro w M2 t j v hM hU hF0 hj hps
        refine qa_aload_n hΓ dX6_pass_87 rfl ?_
        refine qa_get hΓ dX6_pass_88 fk_X6_7 hM.lt hM.o rfl ?_
        refine qa_iconst (v := nI 2) hΓ dX6_pass_91 ic_2 ?_
        refine qa_iload_n hΓ dX6_pass_92 rfl ?_
        refine qM_ast hΓ (N := 203) 0 (by decide) rfl rfl dX6_pass_93 hM (by omega) (fun w hM hF => ?_)
        have hF0 := hF0.tr hF
        obtain ⟨M1, hM, hU⟩ := Mup.setE hM hU
        refine qa_aload_n hΓ dX6_pass_94 rfl ?_
        refine qc_V0q hΓ dX6_pass_95 lk_X6_124 vw_X6_exchanges (by omega) (c_X6_exchanges l (d - 1) hM) rfl hM.lt hM.o rfl rfl (Nat.le_of_ble_eq_true rfl) (fun w hq => ?_)
        obtain ⟨hM, hF⟩ := hq
        have hF0 := hF0.tr hF
        obtain ⟨M3, hM, hM3⟩ : ∃ X, MdAt n w k X ∧ X = rset (rset M1 0 (M1 2)) 2 (M1 0) := ⟨_, hM, rfl⟩
        have hU3 := exchU hU
        rw [← hM3] at hU3
        have h32 : M3 2 = upN t 2 (M 0 2 + tk) := by rw [hM3, rset_eq, hU.1]
        have hS3 : Sm M M3 := ⟨hU3.1.trans (by rw [hK, rset_eq]), (hU3.2.1 1 (by decide) (by decide)).trans (by rw [rset_ne _ _ (by decide), hK, rset_ne _ _ (by decide)]), hU3.2.2.1.trans (by rw [rset_ne _ _ (by decide), hK, rset_ne _ _ (by decide)]), (hU3.2.1 4 (by decide) (by decide)).trans (by rw [rset_ne _ _ (by decide), hK, rset_ne _ _ (by decide)]), hU3.2.2.2.1.trans (by rw [rset_ne _ _ (by decide), hK, rset_ne _ _ (by decide)])⟩
        refine qa_iload_n hΓ dX6_pass_98 rfl ?_
        refine qa_sipush (v := nI 200) hΓ dX6_pass_99 sp_200 ?_
        refine qz_icmp_le (tgt := 108) hΓ dX6_pass_102 (by decide) (by omega) (by omega) (fun h_102 => ?_) (fun h_102 => ?_)
        · refine qa_aload_n hΓ dX6_pass_108 rfl ?_
          refine qc_V0q hΓ dX6_pass_109 lk_X6_79 vw_X6_notes (by omega) (c_X6_notes l (d - 1) hM (by rw [hS3.2.2.1]; exact hp)) rfl hM.lt hM.o rfl rfl (Nat.le_of_ble_eq_true rfl) (fun w hq => ?_)
          obtain ⟨M4, hM, hN, hF⟩ := hq
          have hF0 := hF0.tr hF
          refine qa_aload_n hΓ dX6_pass_112 rfl ?_
          refine qc_V0q hΓ dX6_pass_113 lk_X6_124 vw_X6_exchanges (by omega) (c_X6_exchanges l (d - 1) hM) rfl hM.lt hM.o rfl rfl (Nat.le_of_ble_eq_true rfl) (fun w hq => ?_)
          obtain ⟨hM, hF⟩ := hq
          have hF0 := hF0.tr hF
          refine qa_iload_n hΓ dX6_pass_116 rfl ?_
          exact qr_i hR dX6_pass_117 ⟨_, _, rfl, hM, hw0 _ hF0, by
            unfold spPass
            rw [if_pos hC, tn_nI (by omega), if_neg h_25n, hps, if_neg (by show ¬ 200 < j; omega)]
            exact ⟨rfl, Op.exch hS3 h32 hN⟩⟩
        · refine qa_bipush (v := (-3)) hΓ dX6_pass_105 bp_m3 ?_
          exact qr_i hR dX6_pass_107 ⟨-3, M3, rfl, hM, hw0 _ hF0, by
            unfold spPass
            rw [if_pos hC, tn_nI (by omega), if_neg h_25n, if_pos (by rw [hps]; exact h_102)]
            exact ⟨rfl, hS3⟩⟩
      have loop : ∀ (m j : Nat) (w1 : Nat → AC) (M2 : Bk) (t : Nat → Nat), j + m = 201 → MdAt n w1 k M2 → Mup M9 t M2 → Fr k 6 w0 w1 → Wt t (B + 20 * j) → psL (M 0 2 + tk) (M 0) 201 = ((psL (M 0 2 + tk) t m).1 + j, (psL (M 0 2 + tk) t m).2) → Γ 44 [aR k, aZ tk, aZ (M 0 2 + tk), aZ j, aI (nI9 (nx t false))] [] (0, 0) n w1 := by
        intro m
        induction m with
        | zero =>
          intro j w M2 t hj hM hU hF0 hWt hz
          refine qa_iload_n hΓ dX6_pass_44 rfl ?_
          refine qa_sipush (v := nI 200) hΓ dX6_pass_45 sp_200 ?_
          refine qz_icmp_gt (tgt := 87) hΓ dX6_pass_48 (by decide) (by omega) (by decide) (fun _ => ?_) (fun h => absurd h (by omega))
          refine tail w M2 t j _ hM hU hF0 (by omega) ?_
          rw [hz]
          simp [psL]
        | succ m ih =>
          intro j w M2 t hj hM hU hF0 hWt hz
          have h8 := hWt.2.1
          have ht0 := hW.2.2.1
          cases ho : nx t false with
          | none =>
            show Γ 44 [aR k, aZ tk, aZ (M 0 2 + tk), aZ j, aI (-9)] [] (0, 0) n w
            refine qa_iload_n hΓ dX6_pass_44 rfl ?_
            refine qa_sipush (v := nI 200) hΓ dX6_pass_45 sp_200 ?_
            refine qz_icmp_gt (tgt := 87) hΓ dX6_pass_48 (by decide) (by omega) (by decide) (fun h => absurd h (by omega)) (fun _ => ?_)
            refine qa_iload hΓ dX6_pass_51 rfl ?_
            refine qa_bipush (v := (-9)) hΓ dX6_pass_53 bp_m9 ?_
            refine qa_icmp_eq (tgt := 87) hΓ dX6_pass_55 (by decide) (fun _ => ?_) (fun h => absurd rfl h)
            refine tail w M2 t j _ hM hU hF0 (by omega) ?_
            rw [hz]
            simp [psL, ho]
          | some q =>
            have hq9 := nx_lt ho
            have htq := hWt.tm hq9
            show Γ 44 [aR k, aZ tk, aZ (M 0 2 + tk), aZ j, aZ q] [] (0, 0) n w
            refine qa_iload_n hΓ dX6_pass_44 rfl ?_
            refine qa_sipush (v := nI 200) hΓ dX6_pass_45 sp_200 ?_
            refine qz_icmp_gt (tgt := 87) hΓ dX6_pass_48 (by decide) (by omega) (by decide) (fun h => absurd h (by omega)) (fun _ => ?_)
            refine qa_iload hΓ dX6_pass_51 rfl ?_
            refine qa_bipush (v := (-9)) hΓ dX6_pass_53 bp_m9 ?_
            refine qa_icmp_eq (tgt := 87) hΓ dX6_pass_55 (by decide) (fun h => absurd h (nI_m9 q (by omega))) (fun _ => ?_)
            refine qa_aload_n hΓ dX6_pass_58 rfl ?_
            refine qa_iload hΓ dX6_pass_59 rfl ?_
            refine qc_V1 hΓ dX6_pass_61 lk_X6_53 vw_X6_timeOf (by omega) (c_X6_timeOf l (d - 1) (by omega) hM q (by omega)) rfl hM.lt hM.o rfl rfl (Nat.le_of_ble_eq_true rfl) ?_
            rw [hU.1]
            refine qa_iload_n hΓ dX6_pass_64 rfl ?_
            refine qz_icmp_gt (tgt := 87) hΓ dX6_pass_65 (by decide) (by omega) (by omega) (fun h_65 => ?_) (fun h_65 => ?_)
            · refine tail w M2 t j _ hM hU hF0 (by omega) ?_
              rw [hz]
              simp [psL, ho, Nat.not_le.mpr h_65]
            · refine qa_aload_n hΓ dX6_pass_68 rfl ?_
              refine qa_iload hΓ dX6_pass_69 rfl ?_
              refine qc_V0q hΓ dX6_pass_71 lk_X6_75 vw_X6_happens (by omega) (c_X6_happens l (d - 1) (by omega) hM (by rw [hU.1]; exact hWt) (by omega) q (by rw [hU.1]; exact hq9) (nx_kind ho)) rfl hM.lt hM.o rfl rfl (Nat.le_of_ble_eq_true rfl) (fun w hq => ?_)
              obtain ⟨M3, hM, hU2, hF⟩ := hq
              have hF0 := hF0.tr hF
              rw [hU.1] at hU2
              have hU := hU.tr hU2
              refine qz_iinc hΓ dX6_pass_74 ii_1 rfl (by decide) ?_
              have hWt : Wt (hap t q) (B + 20 * (j + 1)) := by
                rw [show B + 20 * (j + 1) = B + 20 * j + 20 by omega]
                exact hWt.hap hq9
              refine qa_aload_n hΓ dX6_pass_77 rfl ?_
              refine qa_iconst (v := nI 0) hΓ dX6_pass_78 ic_0 ?_
              refine qc_V1 hΓ dX6_pass_79 lk_X6_71 vw_X6_next (by omega) (c_X6_next l (d - 1) (by omega) hM (by rw [hU.1]; exact hWt) (by omega) false) rfl hM.lt hM.o rfl rfl (Nat.le_of_ble_eq_true rfl) ?_
              rw [hU.1]
              refine qa_istore hΓ dX6_pass_82 (by decide) ?_
              refine qa_goto (tgt := 44) hΓ dX6_pass_84 (by decide) ?_
              refine ih (j + 1) w M3 (hap t q) (by omega) hM hU hF0 hWt ?_
              rw [hz]
              simp [psL, ho, h_65]
              omega
      exact loop 201 0 w M1 (M 0) (by omega) hM hU hF0 hW rfl
    · refine qa_bipush (v := (-3)) hΓ dX6_pass_28 bp_m3 ?_
      exact qr_i hR dX6_pass_30 ⟨-3, M, rfl, hM, Fr.rf, by
        unfold spPass
        rw [if_pos hC, tn_nI (by omega), if_pos h_25]
        exact ⟨rfl, Sm.rf M⟩⟩
  · refine qa_iconst (v := (-1)) hΓ dX6_pass_11 ic_m1 ?_
    exact qr_i hR dX6_pass_12 ⟨-1, M, rfl, hM, Fr.rf, by unfold spPass; rw [if_neg (fun q => by first | exact of_decide_eq_false h_8 (q))]; exact ⟨rfl, Sm.rf M⟩⟩

