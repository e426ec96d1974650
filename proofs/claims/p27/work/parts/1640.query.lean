/-! The questions, as rows: what each answers, a number of the model's; nothing that is seen changes -/
theorem CW.back {M : Bk} {B C n : Nat} {w w' : Nat → AC} (h : CW M B n w) (h' : CW M C n w') : CW M B n w' := by
  obtain ⟨b, ol, p, g, z, R, q, c1, c2, hZ, hX⟩ := h
  obtain ⟨b', ol', p', g', z', R', q', c1', c2', hZ', hX'⟩ := h'
  obtain ⟨k1, k2, k3, k4, k5, k6, k7, k8⟩ := hX
  obtain ⟨j1, j2, j3, j4, j5, j6, j7, j8⟩ := hX'
  exact ⟨b', ol', p', g', z', R', q', c1', c2', hZ', j1, j2, j3, k4, j5, fun i hi => ⟨(j6 i hi).1, (j6 i hi).2.1, (j6 i hi).2.2.1, (k6 i hi).2.2.2⟩, j7, j8⟩
def cnI (M : Bk) (x : Int32) : Int32 := if nI 0 ≤ x ∧ x ≤ nI 9 then nI (cnV M (tn x)) else -1
def reI (M : Bk) (rl wh : Int32) : Int32 := if isR (M 0 1) rl ∧ (nI 0 ≤ wh ∧ wh ≤ nI 7) then nI (reV (M 0) (tn rl) (tn wh)) else -1
def cdI (M : Bk) (rl br su : Int32) : Int32 := if isR (M 0 1) rl ∧ (nI 0 ≤ br ∧ br ≤ nI (vv (M 0) (tn rl) 12) - nI 1) ∧ (nI 0 ≤ su ∧ su ≤ nI 15) then nI (how3 (M 0) (tn rl) (tn br) (tn su)) else -1
def evI (M : Bk) (i p : Int32) : Int32 := if 0 ≤ i ∧ (nI 0 ≤ p ∧ p ≤ nI 2) then evR (M 0) (tn i) (tn p) else -1
def ouI (M : Bk) (rv ev : Int32) : Int32 := if (nI 0 ≤ rv ∧ rv ≤ nI 1) ∧ (nI 1 ≤ ev ∧ ev ≤ nI 200) then nI (ndE (M 0) (decide (tn rv = 1)) (tn ev)) else -1
theorem sp_cn (M : Bk) (x : Int32) : spCount M x (cnI M x) M := by
  unfold spCount cnI
  by_cases h : nI 0 ≤ x ∧ x ≤ nI 9
  · rw [if_pos h, if_pos h]
    exact ⟨rfl, Sm.rf M⟩
  · rw [if_neg h, if_neg h]
    exact ⟨rfl, Sm.rf M⟩
theorem sp_re (M : Bk) (rl wh : Int32) : spRelay M rl wh (reI M rl wh) M := by
  unfold spRelay reI
  by_cases h : isR (M 0 1) rl ∧ (nI 0 ≤ wh ∧ wh ≤ nI 7)
  · rw [if_pos h, if_pos h]
    exact ⟨rfl, Sm.rf M⟩
  · rw [if_neg h, if_neg h]
    exact ⟨rfl, Sm.rf M⟩
theorem sp_cd (M : Bk) (rl br su : Int32) : spCond M rl br su (cdI M rl br su) M := by
  unfold spCond cdI
  by_cases h : isR (M 0 1) rl ∧ (nI 0 ≤ br ∧ br ≤ nI (vv (M 0) (tn rl) 12) - nI 1) ∧ (nI 0 ≤ su ∧ su ≤ nI 15)
  · rw [if_pos h, if_pos h]
    exact ⟨rfl, Sm.rf M⟩
  · rw [if_neg h, if_neg h]
    exact ⟨rfl, Sm.rf M⟩
theorem sp_ev (M : Bk) (i p : Int32) : spEvent M i p (evI M i p) M := by
  unfold spEvent evI
  by_cases h : 0 ≤ i ∧ (nI 0 ≤ p ∧ p ≤ nI 2)
  · rw [if_pos h, if_pos h]
    exact ⟨rfl, Sm.rf M⟩
  · rw [if_neg h, if_neg h]
    exact ⟨rfl, Sm.rf M⟩
theorem sp_ou (M : Bk) (rv ev : Int32) : spOut M rv ev (ouI M rv ev) M := by
  unfold spOut ouI
  by_cases h : (nI 0 ≤ rv ∧ rv ≤ nI 1) ∧ (nI 1 ≤ ev ∧ ev ≤ nI 200)
  · rw [if_pos h, if_pos h]
    exact ⟨rfl, Sm.rf M⟩
  · rw [if_neg h, if_neg h]
    exact ⟨rfl, Sm.rf M⟩
section
variable {Γ : Gm} {l : Launch} {y : MethodName} {cc : ByteArray} {mL d mc ms : Nat} {pc n : Nat} {L st : List AV} {cs : Nat × Nat} {w : Nat → AC} {idx : Nat} {M : Bk} {B : Nat}
theorem qy_count (hΓ : Ok Γ l y cc mL d mc ms) (hd : decode cc pc = .ok (.invokevirtual idx, 3)) (hlk : Cond.methodLink y.cls idx yX5_count ∈ wsL_law) (hC : CW M B n w) (hB : B < 800000000) (hdd : 2 ≤ d) (hl8 : st.length ≤ 4) (hcs : cs.1 ≤ mc ∧ cs.2 ≤ ms) (x : Int32) (kk : ∀ w', CW M B n w' → Γ (pc + 3) L (aI (cnI M x) :: st) cs n w') : Γ pc L (aI x :: aR 0 :: st) cs n w := by
  obtain ⟨b, ol, p, g, z, R, q, c1, c2, hZ, hX⟩ := id hC
  refine qa_callV hΓ hd hlk vw_X5_count (c_X5_count l (d - 1) (by omega) hZ hX hB x) (by omega) rfl hZ.lt hZ.o rfl rfl hl8 hcs (fun r n' w' h => h.1) (fun r w1 h => ?_)
  obtain ⟨-, rr, rfl, hF, hq⟩ := h
  obtain ⟨e, hC1⟩ := hq _ M (sp_cn M x)
  subst e
  exact kk w1 (hC.back hC1)
theorem qy_relay (hΓ : Ok Γ l y cc mL d mc ms) (hd : decode cc pc = .ok (.invokevirtual idx, 3)) (hlk : Cond.methodLink y.cls idx yX5_relay ∈ wsL_law) (hC : CW M B n w) (hB : B < 800000000) (hdd : 4 ≤ d) (hl8 : st.length ≤ 4) (hcs : cs.1 ≤ mc ∧ cs.2 ≤ ms) (rl wh : Int32) (kk : ∀ w', CW M B n w' → Γ (pc + 3) L (aI (reI M rl wh) :: st) cs n w') : Γ pc L (aI wh :: aI rl :: aR 0 :: st) cs n w := by
  obtain ⟨b, ol, p, g, z, R, q, c1, c2, hZ, hX⟩ := id hC
  refine qa_callV hΓ hd hlk vw_X5_relay (c_X5_relay l (d - 1) (by omega) hZ hX hB rl wh) (by omega) rfl hZ.lt hZ.o rfl rfl hl8 hcs (fun r n' w' h => h.1) (fun r w1 h => ?_)
  obtain ⟨-, rr, rfl, hF, hq⟩ := h
  obtain ⟨e, hC1⟩ := hq _ M (sp_re M rl wh)
  subst e
  exact kk w1 (hC.back hC1)
theorem qy_cond (hΓ : Ok Γ l y cc mL d mc ms) (hd : decode cc pc = .ok (.invokevirtual idx, 3)) (hlk : Cond.methodLink y.cls idx yX5_condition ∈ wsL_law) (hC : CW M B n w) (hB : B < 800000000) (hdd : 4 ≤ d) (hl8 : st.length ≤ 4) (hcs : cs.1 ≤ mc ∧ cs.2 ≤ ms) (rl br su : Int32) (kk : ∀ w', CW M B n w' → Γ (pc + 3) L (aI (cdI M rl br su) :: st) cs n w') : Γ pc L (aI su :: aI br :: aI rl :: aR 0 :: st) cs n w := by
  obtain ⟨b, ol, p, g, z, R, q, c1, c2, hZ, hX⟩ := id hC
  refine qa_callV hΓ hd hlk vw_X5_condition (c_X5_condition l (d - 1) (by omega) hZ hX hB rl br su) (by omega) rfl hZ.lt hZ.o rfl rfl hl8 hcs (fun r n' w' h => h.1) (fun r w1 h => ?_)
  obtain ⟨-, rr, rfl, hF, hq⟩ := h
  obtain ⟨e, hC1⟩ := hq _ M (sp_cd M rl br su)
  subst e
  exact kk w1 (hC.back hC1)
theorem qy_event (hΓ : Ok Γ l y cc mL d mc ms) (hd : decode cc pc = .ok (.invokevirtual idx, 3)) (hlk : Cond.methodLink y.cls idx yX5_event ∈ wsL_law) (hC : CW M B n w) (hB : B < 800000000) (hdd : 4 ≤ d) (hl8 : st.length ≤ 4) (hcs : cs.1 ≤ mc ∧ cs.2 ≤ ms) (iv pt : Int32) (kk : ∀ w', CW M B n w' → Γ (pc + 3) L (aI (evI M iv pt) :: st) cs n w') : Γ pc L (aI pt :: aI iv :: aR 0 :: st) cs n w := by
  obtain ⟨b, ol, p, g, z, R, q, c1, c2, hZ, hX⟩ := id hC
  refine qa_callV hΓ hd hlk vw_X5_event (c_X5_event l (d - 1) (by omega) hZ hX hB iv pt) (by omega) rfl hZ.lt hZ.o rfl rfl hl8 hcs (fun r n' w' h => h.1) (fun r w1 h => ?_)
  obtain ⟨-, rr, rfl, hF, hq⟩ := h
  obtain ⟨e, hC1⟩ := hq _ M (sp_ev M iv pt)
  subst e
  exact kk w1 (hC.back hC1)
theorem qy_out (hΓ : Ok Γ l y cc mL d mc ms) (hd : decode cc pc = .ok (.invokevirtual idx, 3)) (hlk : Cond.methodLink y.cls idx yX5_outcome ∈ wsL_law) (hC : CW M B n w) (hB : B < 800000000) (hdd : 7 ≤ d) (hl8 : st.length ≤ 4) (hcs : cs.1 ≤ mc ∧ cs.2 ≤ ms) (rv0 ev : Int32) (kk : ∀ w', CW M B n w' → Γ (pc + 3) L (aI (ouI M rv0 ev) :: st) cs n w') : Γ pc L (aI ev :: aI rv0 :: aR 0 :: st) cs n w := by
  obtain ⟨b, ol, p, g, z, R, q, c1, c2, hZ, hX⟩ := id hC
  refine qa_callV hΓ hd hlk vw_X5_outcome (c_X5_outcome l (d - 1) (by omega) hZ hX hB rv0 ev) (by omega) rfl hZ.lt hZ.o rfl rfl hl8 hcs (fun r n' w' h => h.1) (fun r w1 h => ?_)
  obtain ⟨-, rr, rfl, hF, hq⟩ := h
  obtain ⟨e, hC1⟩ := hq _ M (sp_ou M rv0 ev)
  subst e
  exact kk w1 (hC.back hC1)
theorem qy_race (hΓ : Ok Γ l y cc mL d mc ms) (hd : decode cc pc = .ok (.invokevirtual idx, 3)) (hlk : Cond.methodLink y.cls idx yX5_isRace ∈ wsL_law) (hC : CW M B n w) (hB : B < 800000000) (hdd : 8 ≤ d) (hl8 : st.length ≤ 4) (hcs : cs.1 ≤ mc ∧ cs.2 ≤ ms) (kk : ∀ w', CW M B n w' → Γ (pc + 3) L (aI (nI (rcV (M 0))) :: st) cs n w') : Γ pc L (aR 0 :: st) cs n w := by
  obtain ⟨b, ol, p, g, z, R, q, c1, c2, hZ, hX⟩ := id hC
  refine qa_callV hΓ hd hlk vw_X5_isRace (c_X5_isRace l (d - 1) (by omega) hZ hX hB) (by omega) rfl hZ.lt hZ.o rfl rfl hl8 hcs (fun r n' w' h => h.1) (fun r w1 h => ?_)
  obtain ⟨-, rr, rfl, hF, hq⟩ := h
  obtain ⟨e, hC1⟩ := hq _ M ((⟨rfl, Sm.rf M⟩ : spRace M _ M))
  subst e
  exact kk w1 (hC.back hC1)
theorem qy_add (hΓ : Ok Γ l y cc mL d mc ms) (hd : decode cc pc = .ok (.invokevirtual idx, 3)) (hlk : Cond.methodLink y.cls idx yX5_addRelay ∈ wsL_law) (hC : CW M B n w) (hB : B < 800000000) (hI : Iv (M 0)) (hdd : 4 ≤ d) (hl8 : st.length ≤ 4) (hcs : cs.1 ≤ mc ∧ cs.2 ≤ ms) (u v x : Int32) (kk : ∀ r M' w', Dn M r M' → CW M' (B + 4100) n w' → Γ (pc + 3) L (aI r :: st) cs n w') : Γ pc L (aI x :: aI v :: aI u :: aR 0 :: st) cs n w := by
  obtain ⟨b, ol, p, g, z, R, q, c1, c2, hZ, hX⟩ := id hC
  have hW := hX.2.2.2.1
  refine qa_callV hΓ hd hlk vw_X5_addRelay (c_X5_addRelay l (d - 1) (by omega) hZ hX hB u v x) (by omega) rfl hZ.lt hZ.o rfl rfl hl8 hcs (fun r n' w' h => h.1) (fun r w1 h => ?_)
  obtain ⟨-, rr, rfl, hF, hq⟩ := h
  obtain ⟨r2, M2, hsp, hD⟩ := st_add hW hI u v x
  obtain ⟨e, hC1⟩ := hq _ _ hsp
  subst e
  exact kk _ M2 w1 hD hC1
theorem qy_setD (hΓ : Ok Γ l y cc mL d mc ms) (hd : decode cc pc = .ok (.invokevirtual idx, 3)) (hlk : Cond.methodLink y.cls idx yX5_setDelays ∈ wsL_law) (hC : CW M B n w) (hB : B < 800000000) (hI : Iv (M 0)) (hdd : 4 ≤ d) (hl8 : st.length ≤ 4) (hcs : cs.1 ≤ mc ∧ cs.2 ≤ ms) (rl u v x : Int32) (kk : ∀ r M' w', Dn M r M' → CW M' (B + 4100) n w' → Γ (pc + 3) L (aI r :: st) cs n w') : Γ pc L (aI x :: aI v :: aI u :: aI rl :: aR 0 :: st) cs n w := by
  obtain ⟨b, ol, p, g, z, R, q, c1, c2, hZ, hX⟩ := id hC
  have hW := hX.2.2.2.1
  refine qa_callV hΓ hd hlk vw_X5_setDelays (c_X5_setDelays l (d - 1) (by omega) hZ hX hB rl u v x) (by omega) rfl hZ.lt hZ.o rfl rfl hl8 hcs (fun r n' w' h => h.1) (fun r w1 h => ?_)
  obtain ⟨-, rr, rfl, hF, hq⟩ := h
  obtain ⟨r2, M2, hsp, hD⟩ := st_sd hW hI rl u v x
  obtain ⟨e, hC1⟩ := hq _ _ hsp
  subst e
  exact kk _ M2 w1 hD hC1
theorem qy_setC (hΓ : Ok Γ l y cc mL d mc ms) (hd : decode cc pc = .ok (.invokevirtual idx, 3)) (hlk : Cond.methodLink y.cls idx yX5_setCondition ∈ wsL_law) (hC : CW M B n w) (hB : B < 800000000) (hI : Iv (M 0)) (hdd : 5 ≤ d) (hl8 : st.length ≤ 4) (hcs : cs.1 ≤ mc ∧ cs.2 ≤ ms) (rl br su hw : Int32) (kk : ∀ r M' w', Dn M r M' → CW M' (B + 4100) n w' → Γ (pc + 3) L (aI r :: st) cs n w') : Γ pc L (aI hw :: aI su :: aI br :: aI rl :: aR 0 :: st) cs n w := by
  obtain ⟨b, ol, p, g, z, R, q, c1, c2, hZ, hX⟩ := id hC
  have hW := hX.2.2.2.1
  refine qa_callV hΓ hd hlk vw_X5_setCondition (c_X5_setCondition l (d - 1) (by omega) hZ hX hB rl br su hw) (by omega) rfl hZ.lt hZ.o rfl rfl hl8 hcs (fun r n' w' h => h.1) (fun r w1 h => ?_)
  obtain ⟨-, rr, rfl, hF, hq⟩ := h
  obtain ⟨r2, M2, hsp, hD⟩ := st_sc hW hI rl br su hw
  obtain ⟨e, hC1⟩ := hq _ _ hsp
  subst e
  exact kk _ M2 w1 hD hC1
theorem qy_rem (hΓ : Ok Γ l y cc mL d mc ms) (hd : decode cc pc = .ok (.invokevirtual idx, 3)) (hlk : Cond.methodLink y.cls idx yX5_removeBranch ∈ wsL_law) (hC : CW M B n w) (hB : B < 800000000) (hI : Iv (M 0)) (hdd : 5 ≤ d) (hl8 : st.length ≤ 4) (hcs : cs.1 ≤ mc ∧ cs.2 ≤ ms) (rl br : Int32) (kk : ∀ r M' w', Dn M r M' → CW M' (B + 4100) n w' → Γ (pc + 3) L (aI r :: st) cs n w') : Γ pc L (aI br :: aI rl :: aR 0 :: st) cs n w := by
  obtain ⟨b, ol, p, g, z, R, q, c1, c2, hZ, hX⟩ := id hC
  have hW := hX.2.2.2.1
  refine qa_callV hΓ hd hlk vw_X5_removeBranch (c_X5_removeBranch l (d - 1) (by omega) hZ hX hB rl br) (by omega) rfl hZ.lt hZ.o rfl rfl hl8 hcs (fun r n' w' h => h.1) (fun r w1 h => ?_)
  obtain ⟨-, rr, rfl, hF, hq⟩ := h
  obtain ⟨r2, M2, hsp, hD⟩ := st_rb hW hI rl br
  obtain ⟨e, hC1⟩ := hq _ _ hsp
  subst e
  exact kk _ M2 w1 hD hC1
theorem qy_press (hΓ : Ok Γ l y cc mL d mc ms) (hd : decode cc pc = .ok (.invokevirtual idx, 3)) (hlk : Cond.methodLink y.cls idx yX5_press ∈ wsL_law) (hC : CW M B n w) (hB : B < 800000000) (hI : Iv (M 0)) (hdd : 5 ≤ d) (hl8 : st.length ≤ 4) (hcs : cs.1 ≤ mc ∧ cs.2 ≤ ms) (ky on : Int32) (kk : ∀ r M' w', Dn M r M' → CW M' (B + 4100) n w' → Γ (pc + 3) L (aI r :: st) cs n w') : Γ pc L (aI on :: aI ky :: aR 0 :: st) cs n w := by
  obtain ⟨b, ol, p, g, z, R, q, c1, c2, hZ, hX⟩ := id hC
  have hW := hX.2.2.2.1
  refine qa_callV hΓ hd hlk vw_X5_press (c_X5_press l (d - 1) (by omega) hZ hX hB ky on) (by omega) rfl hZ.lt hZ.o rfl rfl hl8 hcs (fun r n' w' h => h.1) (fun r w1 h => ?_)
  obtain ⟨-, rr, rfl, hF, hq⟩ := h
  obtain ⟨r2, M2, hsp, hD⟩ := st_pr hW hI ky on
  obtain ⟨e, hC1⟩ := hq _ _ hsp
  subst e
  exact kk _ M2 w1 hD hC1
theorem qy_fault (hΓ : Ok Γ l y cc mL d mc ms) (hd : decode cc pc = .ok (.invokevirtual idx, 3)) (hlk : Cond.methodLink y.cls idx yX5_setFault ∈ wsL_law) (hC : CW M B n w) (hB : B < 800000000) (hI : Iv (M 0)) (hdd : 5 ≤ d) (hl8 : st.length ≤ 4) (hcs : cs.1 ≤ mc ∧ cs.2 ≤ ms) (rl v : Int32) (kk : ∀ r M' w', Dn M r M' → CW M' (B + 4100) n w' → Γ (pc + 3) L (aI r :: st) cs n w') : Γ pc L (aI v :: aI rl :: aR 0 :: st) cs n w := by
  obtain ⟨b, ol, p, g, z, R, q, c1, c2, hZ, hX⟩ := id hC
  have hW := hX.2.2.2.1
  refine qa_callV hΓ hd hlk vw_X5_setFault (c_X5_setFault l (d - 1) (by omega) hZ hX hB rl v) (by omega) rfl hZ.lt hZ.o rfl rfl hl8 hcs (fun r n' w' h => h.1) (fun r w1 h => ?_)
  obtain ⟨-, rr, rfl, hF, hq⟩ := h
  obtain ⟨r2, M2, hsp, hD⟩ := st_put (x := 6) (hi := 2) hW hB hI (by decide) rl v
  obtain ⟨e, hC1⟩ := hq _ _ hsp
  subst e
  exact kk _ M2 w1 hD hC1
theorem qy_stick (hΓ : Ok Γ l y cc mL d mc ms) (hd : decode cc pc = .ok (.invokevirtual idx, 3)) (hlk : Cond.methodLink y.cls idx yX5_stick ∈ wsL_law) (hC : CW M B n w) (hB : B < 800000000) (hI : Iv (M 0)) (hdd : 4 ≤ d) (hl8 : st.length ≤ 4) (hcs : cs.1 ≤ mc ∧ cs.2 ≤ ms) (rl v : Int32) (kk : ∀ r M' w', Dn M r M' → CW M' (B + 4100) n w' → Γ (pc + 3) L (aI r :: st) cs n w') : Γ pc L (aI v :: aI rl :: aR 0 :: st) cs n w := by
  obtain ⟨b, ol, p, g, z, R, q, c1, c2, hZ, hX⟩ := id hC
  have hW := hX.2.2.2.1
  refine qa_callV hΓ hd hlk vw_X5_stick (c_X5_stick l (d - 1) (by omega) hZ hX hB rl v) (by omega) rfl hZ.lt hZ.o rfl rfl hl8 hcs (fun r n' w' h => h.1) (fun r w1 h => ?_)
  obtain ⟨-, rr, rfl, hF, hq⟩ := h
  obtain ⟨r2, M2, hsp, hD⟩ := st_put (x := 7) (hi := 1) hW hB hI (by decide) rl v
  obtain ⟨e, hC1⟩ := hq _ _ hsp
  subst e
  exact kk _ M2 w1 hD hC1
theorem qy_step (hΓ : Ok Γ l y cc mL d mc ms) (hd : decode cc pc = .ok (.invokevirtual idx, 3)) (hlk : Cond.methodLink y.cls idx yX5_step ∈ wsL_law) (hC : CW M B n w) (hB : B < 800000000) (hI : Iv (M 0)) (hdd : 5 ≤ d) (hl8 : st.length ≤ 4) (hcs : cs.1 ≤ mc ∧ cs.2 ≤ ms) (kk : ∀ r M' w', Dn M r M' → CW M' (B + 4100) n w' → Γ (pc + 3) L (aI r :: st) cs n w') : Γ pc L (aR 0 :: st) cs n w := by
  obtain ⟨b, ol, p, g, z, R, q, c1, c2, hZ, hX⟩ := id hC
  have hW := hX.2.2.2.1
  refine qa_callV hΓ hd hlk vw_X5_step (c_X5_step l (d - 1) (by omega) hZ hX hB) (by omega) rfl hZ.lt hZ.o rfl rfl hl8 hcs (fun r n' w' h => h.1) (fun r w1 h => ?_)
  obtain ⟨-, rr, rfl, hF, hq⟩ := h
  obtain ⟨r2, M2, hsp, hD⟩ := st_step hW hI
  obtain ⟨e, hC1⟩ := hq _ _ hsp
  subst e
  exact kk _ M2 w1 hD hC1
theorem qy_settle (hΓ : Ok Γ l y cc mL d mc ms) (hd : decode cc pc = .ok (.invokevirtual idx, 3)) (hlk : Cond.methodLink y.cls idx yX5_settle ∈ wsL_law) (hC : CW M B n w) (hB : B < 800000000) (hI : Iv (M 0)) (hdd : 6 ≤ d) (hl8 : st.length ≤ 4) (hcs : cs.1 ≤ mc ∧ cs.2 ≤ ms) (ev : Int32) (kk : ∀ r M' w', Dn M r M' → CW M' (B + 4100) n w' → Γ (pc + 3) L (aI r :: st) cs n w') : Γ pc L (aI ev :: aR 0 :: st) cs n w := by
  obtain ⟨b, ol, p, g, z, R, q, c1, c2, hZ, hX⟩ := id hC
  have hW := hX.2.2.2.1
  refine qa_callV hΓ hd hlk vw_X5_settle (c_X5_settle l (d - 1) (by omega) hZ hX hB ev) (by omega) rfl hZ.lt hZ.o rfl rfl hl8 hcs (fun r n' w' h => h.1) (fun r w1 h => ?_)
  obtain ⟨-, rr, rfl, hF, hq⟩ := h
  obtain ⟨r2, M2, hsp, hD⟩ := st_set hW hI ev
  obtain ⟨e, hC1⟩ := hq _ _ hsp
  subst e
  exact kk _ M2 w1 hD hC1
theorem qy_pass (hΓ : Ok Γ l y cc mL d mc ms) (hd : decode cc pc = .ok (.invokevirtual idx, 3)) (hlk : Cond.methodLink y.cls idx yX5_pass ∈ wsL_law) (hC : CW M B n w) (hB : B < 800000000) (hI : Iv (M 0)) (hdd : 6 ≤ d) (hl8 : st.length ≤ 4) (hcs : cs.1 ≤ mc ∧ cs.2 ≤ ms) (tk : Int32) (kk : ∀ r M' w', Dn M r M' → CW M' (B + 4100) n w' → Γ (pc + 3) L (aI r :: st) cs n w') : Γ pc L (aI tk :: aR 0 :: st) cs n w := by
  obtain ⟨b, ol, p, g, z, R, q, c1, c2, hZ, hX⟩ := id hC
  have hW := hX.2.2.2.1
  refine qa_callV hΓ hd hlk vw_X5_pass (c_X5_pass l (d - 1) (by omega) hZ hX hB tk) (by omega) rfl hZ.lt hZ.o rfl rfl hl8 hcs (fun r n' w' h => h.1) (fun r w1 h => ?_)
  obtain ⟨-, rr, rfl, hF, hq⟩ := h
  obtain ⟨r2, M2, hsp, hD⟩ := st_pass hW hI tk
  obtain ⟨e, hC1⟩ := hq _ _ hsp
  subst e
  exact kk _ M2 w1 hD hC1
theorem qy_undo (hΓ : Ok Γ l y cc mL d mc ms) (hd : decode cc pc = .ok (.invokevirtual idx, 3)) (hlk : Cond.methodLink y.cls idx yX5_undo ∈ wsL_law) (hC : CW M B n w) (hB : B < 800000000) (hdd : 4 ≤ d) (hl8 : st.length ≤ 4) (hcs : cs.1 ≤ mc ∧ cs.2 ≤ ms) (kk : ∀ w', CW (unM M) (B + 4100) n w' → Γ (pc + 3) L (aI (if M 5 0 = 0 then -2 else nI (M 5 0 - 1)) :: st) cs n w') : Γ pc L (aR 0 :: st) cs n w := by
  obtain ⟨b, ol, p, g, z, R, q, c1, c2, hZ, hX⟩ := id hC
  refine qa_callV hΓ hd hlk vw_X5_undo (c_X5_undo l (d - 1) (by omega) hZ hX hB) (by omega) rfl hZ.lt hZ.o rfl rfl hl8 hcs (fun r n' w' h => h.1) (fun r w1 h => ?_)
  obtain ⟨-, rr, rfl, hF, hq⟩ := h
  obtain ⟨e, hC1⟩ := hq _ _ (⟨rfl, rfl⟩ : spUndo M _ (unM M))
  subst e
  exact kk w1 hC1
end
theorem CW.w {M : Bk} {B n : Nat} {w : Nat → AC} (h : CW M B n w) : Wt (M 0) B ∧ CC (M 0) ∧ M 5 0 ≤ 6 ∧ M 5 1 ≤ 60 := by
  obtain ⟨b, ol, p, g, z, R, q, c1, c2, hZ, hX⟩ := h
  obtain ⟨k1, k2, k3, k4, k5, k6, k7, k8⟩ := hX
  exact ⟨k4, k3, k5, k7⟩
