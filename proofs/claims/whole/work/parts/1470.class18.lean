/-! The class: a whole text read -/
theorem tkL_ok {R k c how : Nat} {g : Nat → Nat} {st : Rst} (hk : 1 ≤ k) (h : tkL R k g c how = some st) : st.1 ≤ 5 ∧ (st.1 = 2 ∨ st.1 = 3 → 1 ≤ st.2.1) := by
  unfold tkL at h
  split at h
  · cases h
  · split at h
    · cases h
    · cases h; exact ⟨by simp, fun _ => hk⟩
theorem tkC_ok {R k c : Nat} {g : Nat → Nat} {st : Rst} (hk : 1 ≤ k) (h : tkC R k g c = some st) : st.1 ≤ 5 ∧ (st.1 = 2 ∨ st.1 = 3 → 1 ≤ st.2.1) := by
  unfold tkC at h
  split at h
  · cases h; exact ⟨by simp, fun _ => hk⟩
  · exact tkL_ok hk h
theorem tkB_ok {R k c : Nat} {g : Nat → Nat} {st : Rst} (h : tkB R k g c = some st) : st.1 ≤ 5 ∧ (st.1 = 2 ∨ st.1 = 3 → 1 ≤ st.2.1) := by
  unfold tkB at h
  split at h
  · cases h
  · split at h
    · cases h; exact ⟨by simp, fun _ => Nat.succ_le_succ (Nat.zero_le _)⟩
    · exact tkC_ok (Nat.succ_le_succ (Nat.zero_le _)) h
theorem tk_ok {R p k c : Nat} {g : Nat → Nat} {st : Rst} (hz : p = 2 ∨ p = 3 → 1 ≤ k) (h : tk R (p, k, g) c = some st) : st.1 ≤ 5 ∧ (st.1 = 2 ∨ st.1 = 3 → 1 ≤ st.2.1) := by
  unfold tk at h
  simp only at h
  split at h
  · split at h
    · cases h; exact ⟨by simp, fun q => absurd q (by simp)⟩
    · exact tkB_ok h
  · split at h
    · exact tkB_ok h
    · split at h
      · split at h
        · cases h; exact ⟨by simp, fun q => absurd q (by simp)⟩
        · exact tkC_ok (hz (Or.inl (by assumption))) h
      · split at h
        · exact tkL_ok (hz (Or.inr (by assumption))) h
        · split at h
          · split at h
            · cases h; exact ⟨by simp, fun q => absurd q (by simp)⟩
            · cases h
          · cases h
/-- what read leaves: an error's place, or -1 and the circuit -/
def RR (n k R : Nat) (zz : Nat ⊕ Rst) (w : Nat → AC) (r : Option AV) (w' : Nat → AC) : Prop := ∃ g' z' p', RdAt n w' k g' z' R p' ∧ Fr k 2 w w' ∧ z' ≤ 6 ∧ (∀ j, j < 6 → g' j < 4294967296) ∧ ((∃ e, zz = .inl e ∧ e < 2147483648 ∧ r = some (aZ e)) ∨ (zz = .inr (p', z', g') ∧ r = some (aI (-1))))
set_option maxRecDepth 100000 in
set_option maxHeartbeats 4000000 in
theorem c_X2_read (l : Launch) (d : Nat) (hd : 6 ≤ d) {n k kx : Nat} {w : Nat → AC} {g T : Nat → Nat} {z R0 p R N : Nat} (hQ : RdAt n w k g z R0 p) (hX : XtAt n w kx T N) (hdj : kx + 2 ≤ k ∨ k + 2 ≤ kx) (hR8 : R ≤ 8) (hN : N ≤ 60) (hT : ∀ j, T j < 256) (hg : ∀ j, j < 6 → g j < 4294967296) : Sq l yX2_read cX2_read 5 (some .int) d [aR k, aR kx, aZ R] n w (RR n k R (sc R T N N (0, 0, g)) w) := by
  refine Sp.of (plainFor_of_name (by decide)) (Nat.le_of_ble_eq_true rfl) (fun Γ hΓ hR => ?_)
  show Γ 0 [aR k, aR kx, aZ R, none, none] [] (0, 0) n w
  obtain ⟨w0, hw0⟩ : ∃ X, X = w ∧ ∀ w2, Fr k 2 X w2 → Fr k 2 w w2 := ⟨w, rfl, fun _ h => h⟩
  obtain ⟨hww, hw0⟩ := hw0
  have hF0 : Fr k 2 w0 w := hww ▸ Fr.rf
  obtain ⟨zz, hzz⟩ : ∃ X, sc R T N N (0, 0, g) = X := ⟨_, rfl⟩
  rw [hzz] at hR
  refine qa_aload_n hΓ dX2_read_0 rfl ?_
  refine qa_iload_n hΓ dX2_read_1 rfl ?_
  refine qR_put2 hΓ dX2_read_2 fk_X2_15 hQ (fun w hQ hF => ?_)
  have hX := hX.ofFr hF hdj
  have hF0 := hF0.tr hF
  refine qa_aload_n hΓ dX2_read_5 rfl ?_
  refine qa_iconst (v := nI 0) hΓ dX2_read_6 ic_0 ?_
  refine qR_put1 hΓ dX2_read_7 fk_X2_19 hQ (fun w hQ hF => ?_)
  have hX := hX.ofFr hF hdj
  have hF0 := hF0.tr hF
  refine qa_aload_n hΓ dX2_read_10 rfl ?_
  refine qa_iconst (v := nI 0) hΓ dX2_read_11 ic_0 ?_
  refine qR_put3 hΓ dX2_read_12 fk_X2_22 hQ (fun w hQ hF => ?_)
  have hX := hX.ofFr hF hdj
  have hF0 := hF0.tr hF
  refine qa_iconst (v := nI 0) hΓ dX2_read_15 ic_0 ?_
  refine qa_istore_n hΓ dX2_read_16 (by decide) ?_
  have loop : ∀ (m i : Nat) (w1 : Nat → AC) (g : Nat → Nat) (z p : Nat) (v : AV), i + m = N → RdAt n w1 k g z R p → XtAt n w1 kx T N → Fr k 2 w0 w1 → z ≤ 6 → p ≤ 5 → (p = 2 ∨ p = 3 → 1 ≤ z) → (∀ j, j < 6 → g j < 4294967296) → zz = sc R T N m (p, z, g) → Γ 17 [aR k, aR kx, aZ R, aZ i, v] [] (0, 0) n w1 := by
    intro m
    induction m with
    | zero =>
      intro i w g z p v him hQ hX hF0 hz6 hp5 hz1 hg hzz
      refine qa_iload_n hΓ dX2_read_17 rfl ?_
      refine qa_aload_n hΓ dX2_read_18 rfl ?_
      refine qa_getN hΓ dX2_read_19 fn_X2_25 hX.lt hX.o rfl ?_
      refine qz_icmp_ge (tgt := 56) hΓ dX2_read_22 (by decide) (by omega) (by omega) (fun _ => ?_) (fun h => absurd h (by omega))
      refine qa_aload_n hΓ dX2_read_56 rfl ?_
      refine qa_get hΓ dX2_read_57 fk_X2_22 hQ.lt hQ.o rfl ?_
      refine qa_iconst (v := nI 2) hΓ dX2_read_60 ic_2 ?_
      refine qz_icmp_eq (tgt := 80) hΓ dX2_read_61 (by decide) (by omega) (by decide) (fun h_61 => ?_) (fun h_61 => ?_)
      · refine qa_iconst (v := nI 1) hΓ dX2_read_80 ic_1 ?_
        refine qa_goto (tgt := 85) hΓ dX2_read_81 (by decide) ?_
        refine qa_istore_n hΓ dX2_read_85 (by decide) ?_
        refine qa_iload_n hΓ dX2_read_86 rfl ?_
        refine qz_if_eq (tgt := 94) hΓ dX2_read_87 (by decide) (by decide) (fun h => absurd h (by decide)) (fun _ => ?_)
        refine qa_iconst (v := -1) hΓ dX2_read_90 ic_m1 ?_
        refine qa_goto (tgt := 98) hΓ dX2_read_91 (by decide) ?_
        have e9 : zz = .inr (p, z, g) := hzz.trans (by show (if p = 2 ∨ p = 4 ∨ p = 5 then _ else _) = _; rw [if_pos (by omega)])
        exact qr_i hR dX2_read_98 ⟨g, z, p, hQ, hw0 _ hF0, hz6, hg, Or.inr ⟨e9, rfl⟩⟩
      · refine qa_aload_n hΓ dX2_read_64 rfl ?_
        refine qa_get hΓ dX2_read_65 fk_X2_22 hQ.lt hQ.o rfl ?_
        refine qa_iconst (v := nI 4) hΓ dX2_read_68 ic_4 ?_
        refine qz_icmp_eq (tgt := 80) hΓ dX2_read_69 (by decide) (by omega) (by decide) (fun h_69 => ?_) (fun h_69 => ?_)
        · refine qa_iconst (v := nI 1) hΓ dX2_read_80 ic_1 ?_
          refine qa_goto (tgt := 85) hΓ dX2_read_81 (by decide) ?_
          refine qa_istore_n hΓ dX2_read_85 (by decide) ?_
          refine qa_iload_n hΓ dX2_read_86 rfl ?_
          refine qz_if_eq (tgt := 94) hΓ dX2_read_87 (by decide) (by decide) (fun h => absurd h (by decide)) (fun _ => ?_)
          refine qa_iconst (v := -1) hΓ dX2_read_90 ic_m1 ?_
          refine qa_goto (tgt := 98) hΓ dX2_read_91 (by decide) ?_
          have e9 : zz = .inr (p, z, g) := hzz.trans (by show (if p = 2 ∨ p = 4 ∨ p = 5 then _ else _) = _; rw [if_pos (by omega)])
          exact qr_i hR dX2_read_98 ⟨g, z, p, hQ, hw0 _ hF0, hz6, hg, Or.inr ⟨e9, rfl⟩⟩
        · refine qa_aload_n hΓ dX2_read_72 rfl ?_
          refine qa_get hΓ dX2_read_73 fk_X2_22 hQ.lt hQ.o rfl ?_
          refine qa_iconst (v := nI 5) hΓ dX2_read_76 ic_5 ?_
          refine qz_icmp_ne (tgt := 84) hΓ dX2_read_77 (by decide) (by omega) (by decide) (fun h_77 => ?_) (fun h_77 => ?_)
          · refine qa_iconst (v := nI 0) hΓ dX2_read_84 ic_0 ?_
            refine qa_istore_n hΓ dX2_read_85 (by decide) ?_
            refine qa_iload_n hΓ dX2_read_86 rfl ?_
            refine qz_if_eq (tgt := 94) hΓ dX2_read_87 (by decide) (by decide) (fun _ => ?_) (fun h => absurd h (by decide))
            refine qa_aload_n hΓ dX2_read_94 rfl ?_
            refine qa_getN hΓ dX2_read_95 fn_X2_25 hX.lt hX.o rfl ?_
            have e9 : zz = .inl N := hzz.trans (by show (if p = 2 ∨ p = 4 ∨ p = 5 then _ else _) = _; rw [if_neg (by omega)])
            exact qr_i hR dX2_read_98 ⟨g, z, p, hQ, hw0 _ hF0, hz6, hg, Or.inl ⟨N, e9, by omega, rfl⟩⟩
          · refine qa_iconst (v := nI 1) hΓ dX2_read_80 ic_1 ?_
            refine qa_goto (tgt := 85) hΓ dX2_read_81 (by decide) ?_
            refine qa_istore_n hΓ dX2_read_85 (by decide) ?_
            refine qa_iload_n hΓ dX2_read_86 rfl ?_
            refine qz_if_eq (tgt := 94) hΓ dX2_read_87 (by decide) (by decide) (fun h => absurd h (by decide)) (fun _ => ?_)
            refine qa_iconst (v := -1) hΓ dX2_read_90 ic_m1 ?_
            refine qa_goto (tgt := 98) hΓ dX2_read_91 (by decide) ?_
            have e9 : zz = .inr (p, z, g) := hzz.trans (by show (if p = 2 ∨ p = 4 ∨ p = 5 then _ else _) = _; rw [if_pos (by omega)])
            exact qr_i hR dX2_read_98 ⟨g, z, p, hQ, hw0 _ hF0, hz6, hg, Or.inr ⟨e9, rfl⟩⟩
    | succ m ih =>
      intro i w g z p v him hQ hX hF0 hz6 hp5 hz1 hg hzz
      have hTi : T i < 256 := hT i
      have ei : N - (m + 1) = i := by omega
      refine qa_iload_n hΓ dX2_read_17 rfl ?_
      refine qa_aload_n hΓ dX2_read_18 rfl ?_
      refine qa_getN hΓ dX2_read_19 fn_X2_25 hX.lt hX.o rfl ?_
      refine qz_icmp_ge (tgt := 56) hΓ dX2_read_22 (by decide) (by omega) (by omega) (fun h => absurd h (by omega)) (fun _ => ?_)
      refine qa_aload_n hΓ dX2_read_25 rfl ?_
      refine qa_iload_n hΓ dX2_read_26 rfl ?_
      refine qc_V1 hΓ dX2_read_27 lk_X2_30 vw_X4_characterAt (by omega) (c_X4_characterAt l (d - 1) hX i (by omega) (by omega)) rfl hX.lt hX.o rfl rfl (Nat.le_of_ble_eq_true rfl) ?_
      refine qa_istore hΓ dX2_read_30 (by decide) ?_
      refine qa_iload hΓ dX2_read_32 rfl ?_
      refine qa_bipush (v := nI 32) hΓ dX2_read_34 bp_32 ?_
      refine qz_icmp_eq (tgt := 50) hΓ dX2_read_36 (by decide) (by omega) (by decide) (fun h_36 => ?_) (fun h_36 => ?_)
      · refine qz_iinc hΓ dX2_read_50 ii_1 rfl (by decide) ?_
        refine qa_goto (tgt := 17) hΓ dX2_read_53 (by decide) ?_
        refine ih (i + 1) w g z p _ (by omega) hQ hX hF0 hz6 hp5 hz1 hg ?_
        rw [hzz]
        show (if T (N - (m + 1)) = 32 then _ else _) = _
        rw [ei, if_pos h_36]
      · refine qa_aload_n hΓ dX2_read_39 rfl ?_
        refine qa_iload hΓ dX2_read_40 rfl ?_
        refine qc_V1b hΓ dX2_read_42 lk_X2_34 vw_X2_take (by omega) (c_X2_take l (d - 1) (by omega) hQ hR8 hz6 hg hp5 hz1 (T i) (by omega)) rfl hQ.lt hQ.o rfl rfl (Nat.le_of_ble_eq_true rfl) (fun b w hq => ?_)
        obtain ⟨g', z', p', hQ, hF, r1, r2, hb, hs⟩ := hq
        have hX := hX.ofFr hF hdj
        have hF0 := hF0.tr hF
        refine qb_if_ne (tgt := 50) hΓ dX2_read_45 (by decide) (fun h_45 => ?_) (fun h_45 => ?_)
        · refine qz_iinc hΓ dX2_read_50 ii_1 rfl (by decide) ?_
          refine qa_goto (tgt := 17) hΓ dX2_read_53 (by decide) ?_
          cases ho : tk R (p, z, g) (T i) with
          | none => rw [ho] at hb; rw [hb] at h_45; cases h_45
          | some st =>
            have hst := hs st ho
            obtain ⟨t1, t2⟩ := tk_ok hz1 ho
            rw [hst] at t1 t2
            refine ih (i + 1) w g' z' p' _ (by omega) hQ hX hF0 r1 t1 t2 r2 ?_
            rw [hzz]
            show (if T (N - (m + 1)) = 32 then _ else match tk R (p, z, g) (T (N - (m + 1))) with | none => _ | some st' => _) = _
            rw [ei, if_neg h_36, ho, hst]
        · refine qa_iload_n hΓ dX2_read_48 rfl ?_
          have hF9 := hF0
          cases ho : tk R (p, z, g) (T i) with
          | some st => rw [ho] at hb; rw [hb] at h_45; cases h_45
          | none =>
            have e9 : zz = .inl i := by
              rw [hzz]
              show (if T (N - (m + 1)) = 32 then _ else match tk R (p, z, g) (T (N - (m + 1))) with | none => _ | some st' => _) = _
              rw [ei, if_neg h_36, ho]
            exact qr_i hR dX2_read_49 ⟨g', z', p', hQ, hw0 _ hF0, r1, r2, Or.inl ⟨i, e9, by omega, rfl⟩⟩
  exact loop N 0 w g 0 0 _ (by omega) hQ hX hF0 (by decide) (by decide) (fun q => absurd q (by decide)) hg hzz.symm

