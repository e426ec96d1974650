/-! The model: load -/
def RD (n k : Nat) (M0 : Bk) (r B : Nat) (z : Nat ⊕ Rst) (w : Nat → AC) (b : Bool) (w' : Nat → AC) : Prop := ∃ M' s' a' k' g', MdAt n w' k M' ∧ Pup M0 s' a' M' ∧ Fr k 6 w w' ∧ PRs (M0 0) r s' k' g' B ∧ a' ≤ M0 5 1 ∧ (if b then ∃ p, z = .inr (p, k', g') else z = .inl a')
theorem Pup.rf (M : Bk) : Pup M (M 0) (M 5 3) M := ⟨rfl, fun _ _ _ => rfl, rfl, rfl, rfl⟩
theorem rd1 {M : Bk} {a : Nat} {g : Nat → Nat} (ha : a ≤ M 5 1) (hc : skM M a < M 5 1 ∧ M 4 (skM M a) = 48) : scM M a (0, 0, g) = scM M (skM M (skM M a + 1)) (5, 0, g) := by
  refine (sc_to _ _ ha).trans ?_
  rw [sc_at _ _ hc.1 (by rw [show M 4 (sk (M 4) (M 5 1) a) = 48 from hc.2]; decide), show M 4 (sk (M 4) (M 5 1) a) = 48 from hc.2]
  exact sc_to _ _ hc.1
theorem rd2 {M : Bk} {a p kk : Nat} {g : Nat → Nat} (ha : M 5 1 ≤ a) (hp : p = 2 ∨ p = 4 ∨ p = 5) : scM M a (p, kk, g) = .inr (p, kk, g) := by
  show sc _ _ _ (M 5 1 - a) _ = _
  rw [show M 5 1 - a = 0 by omega]
  show (if p = 2 ∨ p = 4 ∨ p = 5 then _ else _) = _
  rw [if_pos hp]
theorem rd3 {M : Bk} {a kk : Nat} {g : Nat → Nat} (h : a < M 5 1) (h2 : M 4 a ≠ 32) : scM M a (5, kk, g) = .inl a := sc_at _ _ h h2
theorem rd4 {M : Bk} {a : Nat} {g : Nat → Nat} (ha : a ≤ M 5 1) (hc : ¬ (skM M a < M 5 1 ∧ M 4 (skM M a) = 48)) : scM M a (0, 0, g) = scMX M (tkB (M 0 1) 0 g) (skM M a) := by
  obtain ⟨h1, h2, h3⟩ := sk_spec (T := M 4) ha
  refine (sc_to _ _ ha).trans ?_
  rcases Nat.lt_or_ge (sk (M 4) (M 5 1) a) (M 5 1) with q | q
  · refine (sc_at _ _ q (h3 q)).trans (Eq.trans ?_ (scX_at _ _ q (h3 q)).symm)
    show (match (if M 4 (sk (M 4) (M 5 1) a) = 48 then some _ else tkB (M 0 1) 0 g (M 4 (sk (M 4) (M 5 1) a))) with | none => Sum.inl (sk (M 4) (M 5 1) a) | some st' => sc (M 0 1) (M 4) (M 5 1) (M 5 1 - (sk (M 4) (M 5 1) a + 1)) st') = _
    rw [if_neg (fun e => hc ⟨q, e⟩)]
    rfl
  · refine Eq.trans ?_ (scX_end _ _ q).symm
    rw [show M 5 1 - sk (M 4) (M 5 1) a = 0 by omega]
    rfl
theorem rd5 {M : Bk} {a kk p : Nat} {g : Nat → Nat} (h : a < M 5 1) (h2 : M 4 a = 43) (hp : p = 2 ∨ p = 4) : scM M a (p, kk, g) = scMX M (tkB (M 0 1) kk g) (a + 1) := by
  refine (sc_at _ _ h (by rw [h2]; decide)).trans ?_
  rw [h2]
  rcases hp with rfl | rfl
  · show sc _ _ _ _ (1, kk, g) = _
    exact sc_X _ _ _ _ (by show ¬ (1 = 2 ∨ 1 = 4 ∨ 1 = 5); decide) _
  · show sc _ _ _ _ (1, kk, g) = _
    exact sc_X _ _ _ _ (by show ¬ (1 = 2 ∨ 1 = 4 ∨ 1 = 5); decide) _
set_option maxRecDepth 100000 in
set_option maxHeartbeats 4000000 in
theorem c_X6_reads (l : Launch) (d : Nat) (hd : 5 ≤ d) {n k : Nat} {w : Nat → AC} {M0 : Bk} (hM : MdAt n w k M0) (hT : ∀ j, M0 4 j < 256) (hN : M0 5 1 ≤ 60) {r B : Nat} (g : Nat → Nat) (h8 : M0 0 1 ≤ 8) (hr : r < M0 0 1) (hW : Wt (M0 0) B) (hB : B < 900000000) : Sq l yX6_reads cX6_reads 3 (some .boolean) d [aR k, aZ r] n w (Qb (RD n k M0 r B (scM M0 0 (0, 0, g)) w)) := by
  refine Sp.of (plainFor_of_name (by decide)) (Nat.le_of_ble_eq_true rfl) (fun Γ hΓ hR => ?_)
  show Γ 0 [aR k, aZ r, none] [] (0, 0) n w
  obtain ⟨w0, hw0⟩ : ∃ X, X = w ∧ ∀ w2, Fr k 6 X w2 → Fr k 6 w w2 := ⟨w, rfl, fun _ h => h⟩
  obtain ⟨hww, hw0⟩ := hw0
  have hF0 : Fr k 6 w0 w := hww ▸ Fr.rf
  have hP := Pup.rf M0
  obtain ⟨z, hz⟩ : ∃ X, scM M0 0 (0, 0, g) = X := ⟨_, rfl⟩
  rw [hz] at hR
  refine qa_aload_n hΓ dX6_reads_0 rfl ?_
  refine qa_iconst (v := nI 0) hΓ dX6_reads_1 ic_0 ?_
  refine qM_put hΓ 3 dX6_reads_2 fk_X6_99 (by decide) hM (fun w hM hF => ?_)
  have hF0 := hF0.tr hF
  obtain ⟨M1, hM, hP⟩ := Pup.atE hM hP
  refine qa_aload_n hΓ dX6_reads_5 rfl ?_
  refine qa_iload_n hΓ dX6_reads_6 rfl ?_
  refine qa_bipush (v := nI 12) hΓ dX6_reads_7 bp_12 ?_
  refine qa_iconst (v := nI 0) hΓ dX6_reads_9 ic_0 ?_
  refine qc_V0q hΓ dX6_reads_10 lk_X6_49 vw_X6_puts (by omega) (c_X6_puts l (d - 1) hM r 12 0 (by omega) (by decide)) rfl hM.lt hM.o rfl rfl (Nat.le_of_ble_eq_true rfl) (fun w hq2 => ?_)
  obtain ⟨hM, hF⟩ := hq2
  have hF0 := hF0.tr hF
  obtain ⟨M1, hM, hP⟩ := Pup.putE hM hP
  have hq := PRs.zero (r := r) g hW
  refine qa_aload_n hΓ dX6_reads_13 rfl ?_
  refine qc_V1q hΓ dX6_reads_14 lk_X6_102 vw_X6_here (by omega) (c_X6_here l (d - 1) hM hP hT hN (Nat.zero_le _)) rfl hM.lt hM.o rfl rfl (Nat.le_of_ble_eq_true rfl) (fun w hq2 => ?_)
  obtain ⟨M1, hM, hP, hF⟩ := hq2
  have hF0 := hF0.tr hF
  have h53 := hP.2.2.2.2
  have hs := sk_spec (T := M0 4) (N := M0 5 1) (Nat.zero_le _)
  refine qa_bipush (v := nI 48) hΓ dX6_reads_17 bp_48 ?_
  refine qa_icmp_ne (tgt := 45) hΓ dX6_reads_19 (by decide) (fun h_19 => ?_) (fun h_19 => ?_)
  · have hz1 := hz.symm.trans (rd4 (Nat.zero_le _) (fun q => h_19 ((chI_eq hT (by decide)).mpr q)))
    refine qa_aload_n hΓ dX6_reads_45 rfl ?_
    refine qa_iload_n hΓ dX6_reads_46 rfl ?_
    refine qc_V1b hΓ dX6_reads_47 lk_X6_115 vw_X6_readsBranch (by omega) (c_X6_readsBranch (kk := 0) l (d - 1) (by omega) hM hP hT hN hs.2.1 h8 hr hB hq) rfl hM.lt hM.o rfl rfl (Nat.le_of_ble_eq_true rfl) (fun b w hq2 => ?_)
    obtain ⟨M3, s3, a3, k3, g3, hM, hP, hF, hq, ha3, hb2⟩ := hq2
    have hF0 := hF0.tr hF
    refine qa_istore_n hΓ dX6_reads_50 (by decide) ?_
    have fin : ∀ (w1 : Nat → AC) (M1 : Bk) (s' : Nat → Nat) (a' k' : Nat) (g' : Nat → Nat), MdAt n w1 k M1 → Pup M0 s' a' M1 → Fr k 6 w0 w1 → PRs (M0 0) r s' k' g' B → a' ≤ M0 5 1 → z = .inl a' → Γ 51 [aR k, aZ r, aZ 0] [] (0, 0) n w1 := by
      intro w M s p k1 g1 hM hP hF0 hq ha hb
      refine qa_iload_n hΓ dX6_reads_51 rfl ?_
      refine qz_if_eq (tgt := 83) hΓ dX6_reads_52 (by decide) (by decide) (fun _ => ?_) (fun h => absurd h (by decide))
      refine qa_iload_n hΓ dX6_reads_83 rfl ?_
      refine qr_b (p := false) hR dX6_reads_84 ⟨false, rfl, M, _, _, k1, g1, hM, hP, hw0 _ hF0, hq, ha, ?_⟩
      rw [if_neg (by decide)]
      exact hb
    have loop : ∀ (m : Nat) (w1 : Nat → AC) (M1 : Bk) (s' : Nat → Nat) (a' k' : Nat) (g' : Nat → Nat), M0 5 1 < a' + m → MdAt n w1 k M1 → Pup M0 s' a' M1 → Fr k 6 w0 w1 → PRs (M0 0) r s' k' g' B → a' ≤ M0 5 1 → (M0 5 1 ≤ a' ∨ M0 4 a' = 43) → (z = scM M0 a' (2, k', g') ∨ z = scM M0 a' (4, k', g')) → Γ 51 [aR k, aZ r, aZ 1] [] (0, 0) n w1 := by
      intro m
      induction m with
      | zero => intro w M s p k1 g1 hm; intros; exact absurd hm (by omega)
      | succ m ih =>
        intro w M s p k1 g1 hm hM hP hF0 hq ha he hb
        have hid : sk (M0 4) (M0 5 1) p = p := sk_id (fun q => he.elim (fun u => absurd q (by omega)) (fun u => by rw [u]; decide))
        refine qa_iload_n hΓ dX6_reads_51 rfl ?_
        refine qz_if_eq (tgt := 83) hΓ dX6_reads_52 (by decide) (by decide) (fun h => absurd h (by decide)) (fun _ => ?_)
        refine qa_aload_n hΓ dX6_reads_55 rfl ?_
        refine qc_V1q hΓ dX6_reads_56 lk_X6_102 vw_X6_here (by omega) (c_X6_here l (d - 1) hM hP hT hN ha) rfl hM.lt hM.o rfl rfl (Nat.le_of_ble_eq_true rfl) (fun w hq2 => ?_)
        obtain ⟨M1, hM, hP, hF⟩ := hq2
        have hF0 := hF0.tr hF
        rw [hid] at hP ⊢
        have h53 := hP.2.2.2.2
        refine qa_bipush (v := nI 43) hΓ dX6_reads_59 bp_43 ?_
        refine qa_icmp_ne (tgt := 83) hΓ dX6_reads_61 (by decide) (fun h_61 => ?_) (fun h_61 => ?_)
        · refine qa_iload_n hΓ dX6_reads_83 rfl ?_
          refine qr_b (p := true) hR dX6_reads_84 ⟨true, rfl, M1, _, _, k1, g1, hM, hP, hw0 _ hF0, hq, ha, ?_⟩
          rw [if_pos rfl]
          have hge : M0 5 1 ≤ p := by
            rcases he with u | u
            · exact u
            · exact Nat.le_of_not_lt (fun q => h_61 ((chI_eq hT (by decide)).mpr ⟨q, u⟩))
          rcases hb with u | u
          · exact ⟨2, u.trans (rd2 hge (Or.inl rfl))⟩
          · exact ⟨4, u.trans (rd2 hge (Or.inr (Or.inl rfl)))⟩
        · have hc := (chI_eq hT (by decide)).mp h_61
          obtain ⟨p4, hp4, hb4⟩ : ∃ x, (x = 2 ∨ x = 4) ∧ z = scM M0 p (x, k1, g1) := by
            rcases hb with u | u
            · exact ⟨2, Or.inl rfl, u⟩
            · exact ⟨4, Or.inr rfl, u⟩
          have hb5 := hb4.trans (rd5 hc.1 hc.2 hp4)
          refine qa_aload_n hΓ dX6_reads_64 rfl ?_
          refine qa_dup hΓ dX6_reads_65 ?_
          refine qa_get hΓ dX6_reads_66 fk_X6_99 hM.lt hM.o rfl ?_
          refine qa_iconst (v := nI 1) hΓ dX6_reads_69 ic_1 ?_
          refine qz_iadd hΓ dX6_reads_70 ?_
          refine qM_put hΓ 3 dX6_reads_71 fk_X6_99 (by decide) hM (fun w hM hF => ?_)
          have hF0 := hF0.tr hF
          obtain ⟨M1, hM, hP⟩ := Pup.atE hM hP
          rw [h53] at hP
          refine qa_aload_n hΓ dX6_reads_74 rfl ?_
          refine qa_iload_n hΓ dX6_reads_75 rfl ?_
          refine qc_V1b hΓ dX6_reads_76 lk_X6_115 vw_X6_readsBranch (by omega) (c_X6_readsBranch (kk := k1) l (d - 1) (by omega) hM hP hT hN hc.1 h8 hr hB hq) rfl hM.lt hM.o rfl rfl (Nat.le_of_ble_eq_true rfl) (fun b w hq2 => ?_)
          obtain ⟨M3, s3, a3, k3, g3, hM, hP, hF, hq, ha3, hb2⟩ := hq2
          have hF0 := hF0.tr hF
          refine qa_istore_n hΓ dX6_reads_79 (by decide) ?_
          refine qa_goto (tgt := 51) hΓ dX6_reads_80 (by decide) ?_
          cases b with
          | false =>
            rw [if_neg (by decide)] at hb2
            exact fin w M3 s3 a3 k3 g3 hM hP hF0 hq ha3 (hb5.trans hb2)
          | true =>
            rw [if_pos rfl] at hb2
            refine ih w M3 s3 a3 k3 g3 (by have := hb2.1; omega) hM hP hF0 hq ha3 hb2.2.1 ?_
            rcases hb2.2.2 with u | u
            · exact Or.inl (hb5.trans u)
            · exact Or.inr (hb5.trans u)
    cases b with
    | false =>
      rw [if_neg (by decide)] at hb2
      exact fin w M3 s3 a3 k3 g3 hM hP hF0 hq ha3 (hz1.trans hb2)
    | true =>
      rw [if_pos rfl] at hb2
      refine loop (M0 5 1 + 1) w M3 s3 a3 k3 g3 (by omega) hM hP hF0 hq ha3 hb2.2.1 ?_
      rcases hb2.2.2 with u | u
      · exact Or.inl (hz1.trans u)
      · exact Or.inr (hz1.trans u)
  · have hc := (chI_eq hT (by decide)).mp h_19
    have hz1 := hz.symm.trans (rd1 (Nat.zero_le _) hc)
    refine qa_aload_n hΓ dX6_reads_22 rfl ?_
    refine qa_dup hΓ dX6_reads_23 ?_
    refine qa_get hΓ dX6_reads_24 fk_X6_99 hM.lt hM.o rfl ?_
    refine qa_iconst (v := nI 1) hΓ dX6_reads_27 ic_1 ?_
    refine qz_iadd hΓ dX6_reads_28 ?_
    refine qM_put hΓ 3 dX6_reads_29 fk_X6_99 (by decide) hM (fun w hM hF => ?_)
    have hF0 := hF0.tr hF
    obtain ⟨M1, hM, hP⟩ := Pup.atE hM hP
    rw [h53] at hP
    refine qa_aload_n hΓ dX6_reads_32 rfl ?_
    refine qc_V1q hΓ dX6_reads_33 lk_X6_102 vw_X6_here (by omega) (c_X6_here l (d - 1) hM hP hT hN hc.1) rfl hM.lt hM.o rfl rfl (Nat.le_of_ble_eq_true rfl) (fun w hq2 => ?_)
    obtain ⟨M1, hM, hP, hF⟩ := hq2
    have hF0 := hF0.tr hF
    have hs2 := sk_spec (T := M0 4) (show skM M0 0 + 1 ≤ M0 5 1 from hc.1)
    refine qa_if_ge (tgt := 43) hΓ dX6_reads_36 (by decide) (fun h_36 => ?_) (fun h_36 => ?_)
    · refine qa_iconst (v := nI 0) hΓ dX6_reads_43 ic_0 ?_
      refine qr_b (p := false) hR dX6_reads_44 ⟨false, rfl, M1, _, _, 0, g, hM, hP, hw0 _ hF0, hq, hs2.2.1, ?_⟩
      rw [if_neg (by decide)]
      have hlt : skM M0 (skM M0 0 + 1) < M0 5 1 := Nat.lt_of_not_le (fun q => Int32.not_lt.mpr h_36 ((chI_neg hT).mpr q))
      exact hz1.trans (rd3 hlt (hs2.2.2 hlt))
    · refine qa_iconst (v := nI 1) hΓ dX6_reads_39 ic_1 ?_
      refine qa_goto (tgt := 44) hΓ dX6_reads_40 (by decide) ?_
      refine qr_b (p := true) hR dX6_reads_44 ⟨true, rfl, M1, _, _, 0, g, hM, hP, hw0 _ hF0, hq, hs2.2.1, ?_⟩
      rw [if_pos rfl]
      exact ⟨5, hz1.trans (rd2 ((chI_neg hT).mp (Int32.not_le.mp h_36)) (Or.inr (Or.inr rfl)))⟩

/-- the state is kept, and the text is cleared -/
def OpL (M : Bk) (s : Nat → Nat) (M' : Bk) : Prop := Nt M M' ∧ M' 0 = s ∧ M' 4 = M 4 ∧ M' 5 1 = 0
def spLoad (M : Bk) (g : Nat → Nat) (rl : Int32) (rr : Int32) (M' : Bk) : Prop := if isR (M 0 1) rl then (match scM M 0 (0, 0, g) with
    | .inl e => rr = -10 - nI e ∧ Sm M M'
    | .inr st => rr = nI st.2.1 ∧ st.2.1 ≤ 6 ∧ ∃ s', (∃ B, PRs (M 0) (tn rl) s' st.2.1 st.2.2 B) ∧ OpL M (lks s').2 M') else rr = -1 ∧ Sm M M'

set_option maxRecDepth 100000 in
set_option maxHeartbeats 4000000 in
theorem c_X6_load (l : Launch) (d : Nat) (hd : 6 ≤ d) {n k : Nat} {w : Nat → AC} {M : Bk} (hM : MdAt n w k M) {B : Nat} (hW : Wt (M 0) B) (hB : B < 900000000) (hp : M 5 0 ≤ 6) (hT : ∀ j, M 4 j < 256) (hN : M 5 1 ≤ 60) (g : Nat → Nat) (rl : Int32) : Sq l yX6_load cX6_load 3 (some .int) d [aR k, aI rl] n w (QM (spLoad M g rl) n k w) := by
  refine Sp.of (plainFor_of_name (by decide)) (Nat.le_of_ble_eq_true rfl) (fun Γ hΓ hR => ?_)
  show Γ 0 [aR k, aI rl, none] [] (0, 0) n w
  refine qa_aload_n hΓ dX6_load_0 rfl ?_
  refine qa_iload_n hΓ dX6_load_1 rfl ?_
  refine qc_V1 hΓ dX6_load_2 lk_X6_82 vw_X6_isRelay (by omega) (c_X6_isRelay l (d - 1) (by omega) hM _) rfl hM.lt hM.o rfl rfl (Nat.le_of_ble_eq_true rfl) ?_
  refine qb_if_ne (tgt := 10) hΓ dX6_load_5 (by decide) (fun h_5 => ?_) (fun h_5 => ?_)
  · have hC : isR (M 0 1) rl := of_decide_eq_true h_5
    have h8 := hW.2.1
    obtain ⟨r, hr, rfl⟩ := isR_of (by omega) hC
    obtain ⟨w0, hw0⟩ : ∃ X, X = w ∧ ∀ w2, Fr k 6 X w2 → Fr k 6 w w2 := ⟨w, rfl, fun _ h => h⟩
    obtain ⟨hww, hw0⟩ := hw0
    refine qa_aload_n hΓ dX6_load_10 rfl ?_
    refine qc_V0q hΓ dX6_load_11 lk_X6_118 vw_X6_keeps (by omega) (c_X6_keeps l (d - 1) hM) rfl hM.lt hM.o rfl rfl (Nat.le_of_ble_eq_true rfl) (fun w hq2 => ?_)
    obtain ⟨hM, hF0⟩ := hq2
    have hF0 := hww ▸ hF0
    obtain ⟨M1, hM, hK⟩ : ∃ X, MdAt n w k X ∧ X = rset M 2 (M 0) := ⟨_, hM, rfl⟩
    have hK0 : M1 0 = M 0 := by rw [hK, rset_ne _ _ (by decide)]
    have hK1 : M1 1 = M 1 := by rw [hK, rset_ne _ _ (by decide)]
    have hK2 : M1 2 = M 0 := by rw [hK, rset_eq]
    have hK4 : M1 4 = M 4 := by rw [hK, rset_ne _ _ (by decide)]
    have hK5 : M1 5 = M 5 := by rw [hK, rset_ne _ _ (by decide)]
    have hsc : scM M1 0 (0, 0, g) = scM M 0 (0, 0, g) := by unfold scM; rw [hK0, hK4, hK5]
    refine qa_aload_n hΓ dX6_load_14 rfl ?_
    refine qa_iload_n hΓ dX6_load_15 rfl ?_
    refine qc_V1b hΓ dX6_load_16 lk_X6_121 vw_X6_reads (by omega) (c_X6_reads l (d - 1) (by omega) hM (by rw [hK4]; exact hT) (by rw [hK5]; exact hN) (r := r) (B := B) g (by rw [hK0]; exact h8) (by rw [hK0]; exact hr) (by rw [hK0]; exact hW) hB) rfl hM.lt hM.o rfl rfl (Nat.le_of_ble_eq_true rfl) (fun b w hq2 => ?_)
    obtain ⟨M2, s2, a2, k2, g2, hM, hP, hF, hq, ha2, hb2⟩ := hq2
    have hF0 := hF0.tr hF
    refine qa_istore_n hΓ dX6_load_19 (by decide) ?_
    refine qa_aload_n hΓ dX6_load_20 rfl ?_
    refine qc_V0q hΓ dX6_load_21 lk_X6_124 vw_X6_exchanges (by omega) (c_X6_exchanges l (d - 1) hM) rfl hM.lt hM.o rfl rfl (Nat.le_of_ble_eq_true rfl) (fun w hq2 => ?_)
    obtain ⟨hM, hF⟩ := hq2
    have hF0 := hF0.tr hF
    obtain ⟨M3, hM, hM3⟩ : ∃ X, MdAt n w k X ∧ X = rset (rset M2 0 (M2 2)) 2 (M2 0) := ⟨_, hM, rfl⟩
    have h30 : M3 0 = M 0 := by rw [hM3, rset_ne _ _ (by decide), rset_eq, hP.2.1 2 (by decide) (by decide), hK2]
    have h32 : M3 2 = s2 := by rw [hM3, rset_eq, hP.1]
    have h35 : ∀ j, j = 0 ∨ j = 1 → M3 5 j = M 5 j := fun j hj => by
      rw [hM3, rset_ne _ _ (by decide), rset_ne _ _ (by decide), ← hK5]
      rcases hj with rfl | rfl
      · exact hP.2.2.1
      · exact hP.2.2.2.1
    have h31 : M3 1 = M 1 := by rw [hM3, rset_ne _ _ (by decide), rset_ne _ _ (by decide), hP.2.1 1 (by decide) (by decide), hK1]
    have h34 : M3 4 = M 4 := by rw [hM3, rset_ne _ _ (by decide), rset_ne _ _ (by decide), hP.2.1 4 (by decide) (by decide), hK4]
    have h353 : M3 5 3 = a2 := by rw [hM3, rset_ne _ _ (by decide), rset_ne _ _ (by decide)]; exact hP.2.2.2.2
    have hS3 : Sm M M3 := ⟨h30, h31, h35 0 (Or.inl rfl), h34, h35 1 (Or.inr rfl)⟩
    refine qa_iload_n hΓ dX6_load_24 rfl ?_
    refine qb_if_ne (tgt := 36) hΓ dX6_load_25 (by decide) (fun h_25 => ?_) (fun h_25 => ?_)
    · refine qa_aload_n hΓ dX6_load_36 rfl ?_
      refine qc_V0q hΓ dX6_load_37 lk_X6_79 vw_X6_notes (by omega) (c_X6_notes l (d - 1) hM (by rw [h35 0 (Or.inl rfl)]; exact hp)) rfl hM.lt hM.o rfl rfl (Nat.le_of_ble_eq_true rfl) (fun w hq2 => ?_)
      obtain ⟨M4, hM, hN4, hF⟩ := hq2
      have hF0 := hF0.tr hF
      refine qa_aload_n hΓ dX6_load_40 rfl ?_
      refine qc_V0q hΓ dX6_load_41 lk_X6_124 vw_X6_exchanges (by omega) (c_X6_exchanges l (d - 1) hM) rfl hM.lt hM.o rfl rfl (Nat.le_of_ble_eq_true rfl) (fun w hq2 => ?_)
      obtain ⟨hM, hF⟩ := hq2
      have hF0 := hF0.tr hF
      obtain ⟨M5, hM, hM5⟩ : ∃ X, MdAt n w k X ∧ X = rset (rset M4 0 (M4 2)) 2 (M4 0) := ⟨_, hM, rfl⟩
      have hO5 : Op M s2 M5 := by rw [hM5]; exact Op.exch hS3 h32 hN4
      refine qa_aload_n hΓ dX6_load_44 rfl ?_
      refine qa_iconst (v := nI 0) hΓ dX6_load_45 ic_0 ?_
      refine qM_put hΓ 1 dX6_load_46 fk_X6_26 (by decide) hM (fun w hM hF => ?_)
      have hF0 := hF0.tr hF
      obtain ⟨M6, hM, hM6⟩ : ∃ X, MdAt n w k X ∧ X = bset M5 5 1 0 := ⟨_, hM, rfl⟩
      have h60 : M6 0 = s2 := by rw [hM6, bset_ne _ _ _ (by decide)]; exact hO5.2.1
      have h61 : M6 1 = M5 1 := by rw [hM6, bset_ne _ _ _ (by decide)]
      have h64 : M6 4 = M5 4 := by rw [hM6, bset_ne _ _ _ (by decide)]
      have h650 : M6 5 0 = M5 5 0 := by rw [hM6, bset_eq, upN_ne _ _ _ (by decide)]
      have h651 : M6 5 1 = 0 := by rw [hM6, bset_eq, upN_self]
      refine qa_aload_n hΓ dX6_load_49 rfl ?_
      refine qa_dup hΓ dX6_load_50 ?_
      refine qa_get hΓ dX6_load_51 fk_X6_65 hM.lt hM.o rfl ?_
      refine qa_aload_n hΓ dX6_load_54 rfl ?_
      refine qc_V1q hΓ dX6_load_55 lk_X6_68 vw_X6_looks (by omega) (c_X6_looks l (d - 1) (by omega) hM (by rw [h60]; exact hq.1) (by omega)) rfl hM.lt hM.o rfl rfl (Nat.le_of_ble_eq_true rfl) (fun w hq2 => ?_)
      obtain ⟨M7, hM, hU7, hF⟩ := hq2
      have hF0 := hF0.tr hF
      rw [h60] at hU7 ⊢
      refine qz_iadd hΓ dX6_load_58 ?_
      refine qM_put hΓ 2 dX6_load_59 fk_X6_65 (by decide) hM (fun w hM hF => ?_)
      have hF0 := hF0.tr hF
      refine qa_aload_n hΓ dX6_load_62 rfl ?_
      refine qa_iload_n hΓ dX6_load_63 rfl ?_
      refine qa_bipush (v := nI 12) hΓ dX6_load_64 bp_12 ?_
      refine qc_V1 hΓ dX6_load_66 lk_X6_37 vw_X6_of (by omega) (c_X6_of l (d - 1) hM r 12 (by omega) (by decide)) rfl hM.lt hM.o rfl rfl (Nat.le_of_ble_eq_true rfl) ?_
      rw [show vv ((bset M7 5 2 (M6 5 2 + (lks s2).1)) 0) r 12 = k2 from by rw [bset_ne _ _ _ (by decide), hU7.1]; exact (lk_oth _ _ (by decide) (by decide) _).trans hq.2.2.2.1]
      have hF9 := hF0
      cases b with
      | false => cases h_25
      | true =>
        rw [if_pos rfl, hsc] at hb2
        obtain ⟨p, hb2⟩ := hb2
        refine qr_i hR dX6_load_69 ⟨_, _, rfl, hM, hw0 _ hF0, ?_⟩
        unfold spLoad
        rw [if_pos hC, hb2, tn_nI (by omega)]
        refine ⟨rfl, hq.k6 (by rw [hK0]; exact hr), s2, ⟨B, by rw [← hK0]; exact hq⟩, ⟨?_, ?_, ?_⟩, ?_, ?_, ?_⟩
        · rw [bset_eq, upN_ne _ _ _ (by decide), hU7.2.2.1, h650]; exact hO5.1.1
        · intro i hi
          rw [show pst (bset M7 5 2 _) i = pst M5 i from by unfold pst; rw [bset_ne _ _ _ (by decide), hU7.2.1 1 (by decide) (by decide), h61]]
          exact hO5.1.2.1 i hi
        · rw [show pst (bset M7 5 2 _) _ = pst M5 _ from by unfold pst; rw [bset_ne _ _ _ (by decide), hU7.2.1 1 (by decide) (by decide), h61]]
          exact hO5.1.2.2
        · rw [bset_ne _ _ _ (by decide), hU7.1]
        · rw [bset_ne _ _ _ (by decide), hU7.2.1 4 (by decide) (by decide), h64]; exact hO5.2.2.1
        · rw [bset_eq, upN_ne _ _ _ (by decide), hU7.2.2.2.1, h651]
    · refine qa_bipush (v := -10) hΓ dX6_load_28 bp_m10 ?_
      refine qa_aload_n hΓ dX6_load_30 rfl ?_
      refine qa_get hΓ dX6_load_31 fk_X6_99 hM.lt hM.o rfl ?_
      refine qa_isub hΓ dX6_load_34 ?_
      have hF9 := hF0
      cases b with
      | true => cases h_25
      | false =>
        rw [if_neg (by decide), hsc] at hb2
        exact qr_i hR dX6_load_35 ⟨_, M3, rfl, hM, hw0 _ hF0, by
          unfold spLoad
          rw [if_pos hC, hb2]
          exact ⟨by rw [h353], hS3⟩⟩
  · refine qa_iconst (v := (-1)) hΓ dX6_load_8 ic_m1 ?_
    exact qr_i hR dX6_load_9 ⟨-1, M, rfl, hM, Fr.rf, by unfold spLoad; rw [if_neg (fun q => of_decide_eq_false h_5 q)]; exact ⟨rfl, Sm.rf M⟩⟩

