/-! The class: the reader of circuits -/
def RdAt (n : Nat) (w : Nat → AC) (k : Nat) (g : Nat → Nat) (z R p : Nat) : Prop := k + 2 ≤ n ∧ w k = cObj 1 [aR (k + 1), aZ z, aZ R, aZ p] ∧ w (k + 1) = zA 6 g
theorem RdAt.lt {n k : Nat} {w : Nat → AC} {g : Nat → Nat} {z R p : Nat} (h : RdAt n w k g z R p) : k < n := by have := h.1; omega
theorem RdAt.o {n k : Nat} {w : Nat → AC} {g : Nat → Nat} {z R p : Nat} (h : RdAt n w k g z R p) : w k = cObj 1 [aR (k + 1), aZ z, aZ R, aZ p] := h.2.1
theorem RdAt.lti1 {n k : Nat} {w : Nat → AC} {g : Nat → Nat} {z R p : Nat} (h : RdAt n w k g z R p) : k + 1 < n := by have := h.1; omega
theorem RdAt.a0 {n k : Nat} {w : Nat → AC} {g : Nat → Nat} {z R p : Nat} (h : RdAt n w k g z R p) : w (k + 1) = zA 6 g := h.2.2
section
variable {Γ : Gm} {l : Launch} {y : MethodName} {cc : ByteArray} {mL d mc ms pc n k idx x : Nat} {L st : List AV} {cs : Nat × Nat} {w : Nat → AC} {g : Nat → Nat} {z R p : Nat}
theorem qR_put1 (hΓ : Ok Γ l y cc mL d mc ms) (hd : decode cc pc = .ok (.putfield idx, 3)) (hf : FLK y.cls idx 1 1 false .int) (hQ : RdAt n w k g z R p) (kk : ∀ w', RdAt n w' k g x R p → Fr k 2 w w' → Γ (pc + 3) L st cs n w') : Γ pc L (aZ x :: aR k :: st) cs n w :=
  qa_puti hΓ hd hf hQ.lt hQ.o (by simp) (kk _ ⟨hQ.1, upw_self _ _ _, (upw_ne _ _ _ (by omega)).trans hQ.2.2⟩ (Fr.up (by omega) (by omega)))
theorem qR_put2 (hΓ : Ok Γ l y cc mL d mc ms) (hd : decode cc pc = .ok (.putfield idx, 3)) (hf : FLK y.cls idx 1 2 false .int) (hQ : RdAt n w k g z R p) (kk : ∀ w', RdAt n w' k g z x p → Fr k 2 w w' → Γ (pc + 3) L st cs n w') : Γ pc L (aZ x :: aR k :: st) cs n w :=
  qa_puti hΓ hd hf hQ.lt hQ.o (by simp) (kk _ ⟨hQ.1, upw_self _ _ _, (upw_ne _ _ _ (by omega)).trans hQ.2.2⟩ (Fr.up (by omega) (by omega)))
theorem qR_put3 (hΓ : Ok Γ l y cc mL d mc ms) (hd : decode cc pc = .ok (.putfield idx, 3)) (hf : FLK y.cls idx 1 3 false .int) (hQ : RdAt n w k g z R p) (kk : ∀ w', RdAt n w' k g z R x → Fr k 2 w w' → Γ (pc + 3) L st cs n w') : Γ pc L (aZ x :: aR k :: st) cs n w :=
  qa_puti hΓ hd hf hQ.lt hQ.o (by simp) (kk _ ⟨hQ.1, upw_self _ _ _, (upw_ne _ _ _ (by omega)).trans hQ.2.2⟩ (Fr.up (by omega) (by omega)))
end
def PQ (n k : Nat) (g : Nat → Nat) (z R p : Nat) (w : Nat → AC) : (Nat → AC) → Prop := fun w' => RdAt n w' k g z R p ∧ Fr k 2 w w'
def nIb : Option Nat → Int32
  | none => -1
  | some x => nI x
def RT (n k R : Nat) (o : Option Rst) (w : Nat → AC) (b : Bool) (w' : Nat → AC) : Prop := ∃ g' z' p', RdAt n w' k g' z' R p' ∧ Fr k 2 w w' ∧ z' ≤ 6 ∧ (∀ j, j < 6 → g' j < 4294967296) ∧ b = o.isSome ∧ ∀ st, o = some st → st = (p', z', g')
theorem wi_lt {g x how : Nat} (hg : g < 4294967296) (hx : x < 16) : wi g x how < 4294967296 := by
  have hlo : g % 65536 < 65536 := Nat.mod_lt _ (by decide)
  have hhi : g / 65536 < 65536 := by omega
  unfold wi
  refine cmb_lt ?_ ?_
  · split
    · exact or_lt16 (clr_lt hlo) hx
    · exact clr_lt hlo
  · split
    · exact or_lt16 (clr_lt hhi) hx
    · exact clr_lt hhi
set_option maxRecDepth 100000 in
set_option maxHeartbeats 4000000 in
theorem c_X2_subjectOf (l : Launch) (d : Nat) (hd : 1 ≤ d) {n k : Nat} {w : Nat → AC} {g : Nat → Nat} {z R p : Nat} (hQ : RdAt n w k g z R p) (hR8 : R ≤ 8) (c : Nat) (hc : c < 65536) : Sq l yX2_subjectOf cX2_subjectOf 2 (some .int) d [aR k, aZ c] n w (Rs (some (aI (nIb (sbj R c)))) w) := by
  refine Sp.of (plainFor_of_name (by decide)) (Nat.le_of_ble_eq_true rfl) (fun Γ hΓ hR => ?_)
  show Γ 0 [aR k, aZ c] [] (0, 0) n w
  refine qa_iload_n hΓ dX2_subjectOf_0 rfl ?_
  refine qa_bipush (v := nI 97) hΓ dX2_subjectOf_1 bp_97 ?_
  refine qa_bipush (v := nI 104) hΓ dX2_subjectOf_3 bp_104 ?_
  refine qc_N1 hΓ dX2_subjectOf_5 nk_X2_74 vw_X5_isWithin (by omega) (c_X5_isWithin l (d - 1) _ _ _) rfl rfl (Nat.le_of_ble_eq_true rfl) ?_
  refine qb_if_eq (tgt := 16) hΓ dX2_subjectOf_8 (by decide) (fun h_8 => ?_) (fun h_8 => ?_)
  · refine qa_iload_n hΓ dX2_subjectOf_16 rfl ?_
    refine qa_bipush (v := nI 65) hΓ dX2_subjectOf_17 bp_65 ?_
    refine qa_bipush (v := nI 65) hΓ dX2_subjectOf_19 bp_65 ?_
    refine qa_aload_n hΓ dX2_subjectOf_21 rfl ?_
    refine qa_get hΓ dX2_subjectOf_22 fk_X2_15 hQ.lt hQ.o rfl ?_
    refine qz_iadd hΓ dX2_subjectOf_25 ?_
    refine qa_iconst (v := nI 1) hΓ dX2_subjectOf_26 ic_1 ?_
    refine qz_isub hΓ dX2_subjectOf_27 (by omega) ?_
    refine qc_N1 hΓ dX2_subjectOf_28 nk_X2_74 vw_X5_isWithin (by omega) (c_X5_isWithin l (d - 1) _ _ _) rfl rfl (Nat.le_of_ble_eq_true rfl) ?_
    refine qb_if_eq (tgt := 44) hΓ dX2_subjectOf_31 (by decide) (fun h_31 => ?_) (fun h_31 => ?_)
    · refine qa_iconst (v := -1) hΓ dX2_subjectOf_44 ic_m1 ?_
      have h97 : ¬ (97 ≤ c ∧ c ≤ 104) := fun q => of_decide_eq_false h_8 ((rngI (by decide) (by decide) (by omega)).mpr q)
      have h65 : ¬ (65 ≤ c ∧ c < 65 + R) := fun q => of_decide_eq_false h_31 ((rngI (by omega) (by decide) (by omega)).mpr ⟨q.1, by omega⟩)
      exact qr_i hR dX2_subjectOf_45 ⟨by unfold sbj; rw [if_neg h97, if_neg h65]; rfl, rfl⟩
    · have h65 := (rngI (lo := 65) (hi := 65 + R - 1) (a := c) (by omega) (by decide) (by omega)).mp (of_decide_eq_true h_31)
      refine qa_bipush (v := nI 8) hΓ dX2_subjectOf_34 bp_8 ?_
      refine qa_iload_n hΓ dX2_subjectOf_36 rfl ?_
      refine qz_iadd hΓ dX2_subjectOf_37 ?_
      refine qa_bipush (v := nI 65) hΓ dX2_subjectOf_38 bp_65 ?_
      refine qz_isub hΓ dX2_subjectOf_40 (by omega) ?_
      refine qa_goto (tgt := 45) hΓ dX2_subjectOf_41 (by decide) ?_
      have h97 : ¬ (97 ≤ c ∧ c ≤ 104) := fun q => of_decide_eq_false h_8 ((rngI (by decide) (by decide) (by omega)).mpr q)
      exact qr_i hR dX2_subjectOf_45 ⟨by unfold sbj; rw [if_neg h97, if_pos ⟨h65.1, by omega⟩, show 8 + c - 65 = c - 65 + 8 by omega]; rfl, rfl⟩
  · have h97 := (rngI (lo := 97) (hi := 104) (a := c) (by decide) (by decide) (by omega)).mp (of_decide_eq_true h_8)
    refine qa_iload_n hΓ dX2_subjectOf_11 rfl ?_
    refine qa_bipush (v := nI 97) hΓ dX2_subjectOf_12 bp_97 ?_
    refine qz_isub hΓ dX2_subjectOf_14 (by omega) ?_
    have h97 := (rngI (by decide) (by decide) (by omega)).mp (of_decide_eq_true h_8)
    exact qr_i hR dX2_subjectOf_15 ⟨by unfold sbj; rw [if_pos h97]; rfl, rfl⟩

set_option maxRecDepth 100000 in
set_option maxHeartbeats 4000000 in
theorem c_X2_goTo (l : Launch) (d : Nat) {n k : Nat} {w : Nat → AC} {g : Nat → Nat} {z R p : Nat} (hQ : RdAt n w k g z R p) (q : Nat) : Sq l yX2_goTo cX2_goTo 2 (some .boolean) d [aR k, aZ q] n w (Qv (aZ true.toNat) (PQ n k g z R q w)) := by
  refine Sp.of (plainFor_of_name (by decide)) (Nat.le_of_ble_eq_true rfl) (fun Γ hΓ hR => ?_)
  show Γ 0 [aR k, aZ q] [] (0, 0) n w
  refine qa_aload_n hΓ dX2_goTo_0 rfl ?_
  refine qa_iload_n hΓ dX2_goTo_1 rfl ?_
  refine qR_put3 hΓ dX2_goTo_2 fk_X2_22 hQ (fun w hQ hF => ?_)
  refine qa_iconst (v := nI 1) hΓ dX2_goTo_5 ic_1 ?_
  exact qr_b (p := true) hR dX2_goTo_6 ⟨rfl, hQ, hF⟩

set_option maxRecDepth 100000 in
set_option maxHeartbeats 4000000 in
theorem c_X5_putQ (l : Launch) (d : Nat) {n k : Nat} {w : Nat → AC} {g : Nat → Nat} {z R p : Nat} (hQ : RdAt n w k g z R p) (j x : Nat) (hj : j < 6) : Sq l yX5_put cX5_put 3 none d [aR (k + 1), aZ j, aZ x] n w (Qn (PQ n k (upN g j x) z R p w)) := by
  refine Sp.of (plainFor_of_name (by decide)) (Nat.le_of_ble_eq_true rfl) (fun Γ hΓ hR => ?_)
  show Γ 0 [aR (k + 1), aZ j, aZ x] [] (0, 0) n w
  refine qa_iconst (v := nI 0) hΓ dX5_put_0 ic_0 ?_
  refine qa_iload_n hΓ dX5_put_1 rfl ?_
  refine qz_icmp_gt (tgt := 15) hΓ dX5_put_2 (by decide) (by decide) (by omega) (fun h_2 => absurd h_2 (by omega)) (fun h_2 => ?_)
  refine qa_iload_n hΓ dX5_put_5 rfl ?_
  refine qa_aload_n hΓ dX5_put_6 rfl ?_
  refine qa_alen hΓ dX5_put_7 hQ.lti1 hQ.a0 (by decide) rfl ?_
  refine qz_icmp_ge (tgt := 15) hΓ dX5_put_8 (by decide) (by omega) (by omega) (fun h_8 => absurd h_8 (by omega)) (fun h_8 => ?_)
  refine qa_aload_n hΓ dX5_put_11 rfl ?_
  refine qa_iload_n hΓ dX5_put_12 rfl ?_
  refine qa_iload_n hΓ dX5_put_13 rfl ?_
  refine qz_iast hΓ dX5_put_14 hQ.lti1 hQ.a0 hj (by decide) ?_
  exact qr_v hR dX5_put_15 ⟨rfl, ⟨hQ.1, (upw_ne _ _ _ (by omega)).trans hQ.2.1, upw_self _ _ _⟩, Fr.up (by omega) (by omega)⟩

set_option maxRecDepth 100000 in
set_option maxHeartbeats 4000000 in
theorem c_X2_takeLetter (l : Launch) (d : Nat) (hd : 2 ≤ d) {n k : Nat} {w : Nat → AC} {g : Nat → Nat} {z R p : Nat} (hQ : RdAt n w k g z R p) (hR8 : R ≤ 8) (hz6 : z ≤ 6) (hg : ∀ j, j < 6 → g j < 4294967296) (hz1 : 1 ≤ z) (c how : Nat) (hc : c < 65536) (hh : how = 1 ∨ how = 2) : Sq l yX2_takeLetter cX2_takeLetter 5 (some .boolean) d [aR k, aZ c, aZ how] n w (Qb (RT n k R (tkL R z g c how) w)) := by
  refine Sp.of (plainFor_of_name (by decide)) (Nat.le_of_ble_eq_true rfl) (fun Γ hΓ hR => ?_)
  show Γ 0 [aR k, aZ c, aZ how, none, none] [] (0, 0) n w
  have hF0 : Fr k 2 w w := Fr.rf
  have hgz := hg (z - 1) (by omega)
  refine qa_aload_n hΓ dX2_takeLetter_0 rfl ?_
  refine qa_iload_n hΓ dX2_takeLetter_1 rfl ?_
  refine qc_V1 hΓ dX2_takeLetter_2 lk_X2_56 vw_X2_subjectOf (by omega) (c_X2_subjectOf l (d - 1) (by omega) hQ hR8 c hc) rfl hQ.lt hQ.o rfl rfl (Nat.le_of_ble_eq_true rfl) ?_
  refine qa_istore_n hΓ dX2_takeLetter_5 (by decide) ?_
  refine qa_aload_n hΓ dX2_takeLetter_6 rfl ?_
  refine qa_get hΓ dX2_takeLetter_7 fk_X2_9 hQ.lt hQ.o rfl ?_
  refine qa_aload_n hΓ dX2_takeLetter_10 rfl ?_
  refine qa_get hΓ dX2_takeLetter_11 fk_X2_19 hQ.lt hQ.o rfl ?_
  refine qa_iconst (v := nI 1) hΓ dX2_takeLetter_14 ic_1 ?_
  refine qz_isub hΓ dX2_takeLetter_15 (by omega) ?_
  refine qc_N1 hΓ dX2_takeLetter_16 nk_X2_60 vw_X5_at (by omega) (c_X5_at l (d - 1) hQ.lti1 hQ.a0 (z - 1) (by omega) (by decide)) rfl rfl (Nat.le_of_ble_eq_true rfl) ?_
  refine qa_istore hΓ dX2_takeLetter_19 (by decide) ?_
  refine qa_iload_n hΓ dX2_takeLetter_21 rfl ?_
  cases ho : sbj R c with
  | none =>
    refine qa_if_lt (tgt := 37) hΓ dX2_takeLetter_22 (by decide) (fun _ => ?_) (fun h => absurd (show (-1 : Int32) < 0 by decide) h)
    refine qa_iconst (v := nI 0) hΓ dX2_takeLetter_37 ic_0 ?_
    have e9 : tkL R z g c how = none := by unfold tkL; rw [ho]
    exact qr_b (p := false) hR dX2_takeLetter_38 ⟨false, rfl, g, z, p, hQ, hF0, hz6, hg, by rw [e9]; rfl, fun st hst => by rw [e9] at hst; cases hst⟩
  | some x =>
    have hx : x < 16 := by have := sbj_lt hR8 ho; omega
    refine qa_if_lt (tgt := 37) hΓ dX2_takeLetter_22 (by decide) (fun h => absurd h (Int32.not_lt.mpr (nI_pos' (by omega)))) (fun _ => ?_)
    show Γ 25 [aR k, aZ c, aZ how, aZ x, aZ (g (z - 1))] _ _ _ _
    refine qa_iload hΓ dX2_takeLetter_25 rfl ?_
    refine qa_iload_n hΓ dX2_takeLetter_27 rfl ?_
    refine qc_S1 hΓ dX2_takeLetter_28 lk_X2_64 vw_X1_howOf (by omega) (c_X1_howOf l (d - 1) (by omega) _ x hgz hx) rfl rfl (Nat.le_of_ble_eq_true rfl) ?_
    have hh2 := howO_le (g (z - 1)) x
    refine qa_iconst (v := nI 3) hΓ dX2_takeLetter_31 ic_3 ?_
    refine qa_iload_n hΓ dX2_takeLetter_32 rfl ?_
    refine qz_isub hΓ dX2_takeLetter_33 (by omega) ?_
    refine qz_icmp_ne (tgt := 39) hΓ dX2_takeLetter_34 (by decide) (by omega) (by omega) (fun h_34 => ?_) (fun h_34 => ?_)
    · have e9 : tkL R z g c how = some (2, z, upN g (z - 1) (wi (g (z - 1)) x how)) := by unfold tkL; rw [ho]; exact if_neg h_34
      refine qa_aload_n hΓ dX2_takeLetter_39 rfl ?_
      refine qa_get hΓ dX2_takeLetter_40 fk_X2_9 hQ.lt hQ.o rfl ?_
      refine qa_aload_n hΓ dX2_takeLetter_43 rfl ?_
      refine qa_get hΓ dX2_takeLetter_44 fk_X2_19 hQ.lt hQ.o rfl ?_
      refine qa_iconst (v := nI 1) hΓ dX2_takeLetter_47 ic_1 ?_
      refine qz_isub hΓ dX2_takeLetter_48 (by omega) ?_
      refine qa_iload hΓ dX2_takeLetter_49 rfl ?_
      refine qa_iload_n hΓ dX2_takeLetter_51 rfl ?_
      refine qa_iload_n hΓ dX2_takeLetter_52 rfl ?_
      refine qc_S1 hΓ dX2_takeLetter_53 lk_X2_70 vw_X1_with (by omega) (c_X1_with l (d - 1) (by omega) _ x how hgz hx (by omega)) rfl rfl (Nat.le_of_ble_eq_true rfl) ?_
      refine qc_N0q hΓ dX2_takeLetter_56 nk_X2_52 vw_X5_put (by omega) (c_X5_putQ l (d - 1) hQ (z - 1) _ (by omega)) rfl rfl (Nat.le_of_ble_eq_true rfl) (fun w hq => ?_)
      obtain ⟨hQ, hF⟩ := hq
      have hF0 := hF0.tr hF
      refine qa_aload_n hΓ dX2_takeLetter_59 rfl ?_
      refine qa_iconst (v := nI 2) hΓ dX2_takeLetter_60 ic_2 ?_
      refine qc_V1q hΓ dX2_takeLetter_61 lk_X2_38 vw_X2_goTo (by omega) (c_X2_goTo l (d - 1) hQ 2) rfl hQ.lt hQ.o rfl rfl (Nat.le_of_ble_eq_true rfl) (fun w hq => ?_)
      obtain ⟨hQ, hF⟩ := hq
      have hF0 := hF0.tr hF
      refine qr_b (p := true) hR dX2_takeLetter_64 ⟨true, rfl, _, z, 2, hQ, hF0, hz6, fun j hj => ?_, by rw [e9]; rfl, fun st hst => ?_⟩
      · by_cases e : j = z - 1
        · rw [e, upN_self]; exact wi_lt hgz hx
        · rw [upN_ne _ _ _ e]; exact hg j hj
      · rw [e9] at hst
        cases hst
        rfl
    · refine qa_iconst (v := nI 0) hΓ dX2_takeLetter_37 ic_0 ?_
      have e9 : tkL R z g c how = none := by unfold tkL; rw [ho]; exact if_pos h_34
      exact qr_b (p := false) hR dX2_takeLetter_38 ⟨false, rfl, g, z, p, hQ, hF0, hz6, hg, by rw [e9]; rfl, fun st hst => by rw [e9] at hst; cases hst⟩

set_option maxRecDepth 100000 in
set_option maxHeartbeats 4000000 in
theorem c_X2_beginCondition (l : Launch) (d : Nat) (hd : 3 ≤ d) {n k : Nat} {w : Nat → AC} {g : Nat → Nat} {z R p : Nat} (hQ : RdAt n w k g z R p) (hR8 : R ≤ 8) (hz6 : z ≤ 6) (hg : ∀ j, j < 6 → g j < 4294967296) (hz1 : 1 ≤ z) (c : Nat) (hc : c < 65536) : Sq l yX2_beginCondition cX2_beginCondition 2 (some .boolean) d [aR k, aZ c] n w (Qb (RT n k R (tkC R z g c) w)) := by
  refine Sp.of (plainFor_of_name (by decide)) (Nat.le_of_ble_eq_true rfl) (fun Γ hΓ hR => ?_)
  show Γ 0 [aR k, aZ c] [] (0, 0) n w
  refine qa_iload_n hΓ dX2_beginCondition_0 rfl ?_
  refine qa_bipush (v := nI 47) hΓ dX2_beginCondition_1 bp_47 ?_
  refine qz_icmp_ne (tgt := 14) hΓ dX2_beginCondition_3 (by decide) (by omega) (by decide) (fun h_3 => ?_) (fun h_3 => ?_)
  · refine qa_aload_n hΓ dX2_beginCondition_14 rfl ?_
    refine qa_iload_n hΓ dX2_beginCondition_15 rfl ?_
    refine qa_iconst (v := nI 1) hΓ dX2_beginCondition_16 ic_1 ?_
    refine qc_V1b hΓ dX2_beginCondition_17 lk_X2_48 vw_X2_takeLetter (by omega) (c_X2_takeLetter l (d - 1) (by omega) hQ hR8 hz6 hg (by omega) c 1 hc (by omega)) rfl hQ.lt hQ.o rfl rfl (Nat.le_of_ble_eq_true rfl) (fun b w hq => ?_)
    have e9 : tkC R z g c = tkL R z g c 1 := by unfold tkC; rw [if_neg h_3]
    exact qr_b hR dX2_beginCondition_20 ⟨b, rfl, by rw [e9]; exact hq⟩
  · refine qa_aload_n hΓ dX2_beginCondition_6 rfl ?_
    refine qa_iconst (v := nI 3) hΓ dX2_beginCondition_7 ic_3 ?_
    refine qc_V1q hΓ dX2_beginCondition_8 lk_X2_38 vw_X2_goTo (by omega) (c_X2_goTo l (d - 1) hQ 3) rfl hQ.lt hQ.o rfl rfl (Nat.le_of_ble_eq_true rfl) (fun w hq => ?_)
    obtain ⟨hQ, hF⟩ := hq
    refine qa_goto (tgt := 20) hΓ dX2_beginCondition_11 (by decide) ?_
    have e9 : tkC R z g c = some (3, z, g) := by unfold tkC; rw [if_pos h_3]
    refine qr_b (p := true) hR dX2_beginCondition_20 ⟨true, rfl, g, z, 3, hQ, hF, hz6, hg, by rw [e9]; rfl, fun st hst => ?_⟩
    rw [e9] at hst
    cases hst
    rfl

set_option maxRecDepth 100000 in
set_option maxHeartbeats 4000000 in
theorem c_X2_beginBranch (l : Launch) (d : Nat) (hd : 4 ≤ d) {n k : Nat} {w : Nat → AC} {g : Nat → Nat} {z R p : Nat} (hQ : RdAt n w k g z R p) (hR8 : R ≤ 8) (hz6 : z ≤ 6) (hg : ∀ j, j < 6 → g j < 4294967296) (c : Nat) (hc : c < 65536) : Sq l yX2_beginBranch cX2_beginBranch 2 (some .boolean) d [aR k, aZ c] n w (Qb (RT n k R (tkB R z g c) w)) := by
  refine Sp.of (plainFor_of_name (by decide)) (Nat.le_of_ble_eq_true rfl) (fun Γ hΓ hR => ?_)
  show Γ 0 [aR k, aZ c] [] (0, 0) n w
  have hF0 : Fr k 2 w w := Fr.rf
  have hg2 : ∀ j, j < 6 → upN g z 0 j < 4294967296 := fun j hj => by
    by_cases e : j = z
    · rw [e, upN_self]; decide
    · rw [upN_ne _ _ _ e]; exact hg j hj
  refine qa_aload_n hΓ dX2_beginBranch_0 rfl ?_
  refine qa_get hΓ dX2_beginBranch_1 fk_X2_19 hQ.lt hQ.o rfl ?_
  refine qa_bipush (v := nI 6) hΓ dX2_beginBranch_4 bp_6 ?_
  refine qz_icmp_lt (tgt := 11) hΓ dX2_beginBranch_6 (by decide) (by omega) (by decide) (fun h_6 => ?_) (fun h_6 => ?_)
  · refine qa_aload_n hΓ dX2_beginBranch_11 rfl ?_
    refine qa_get hΓ dX2_beginBranch_12 fk_X2_9 hQ.lt hQ.o rfl ?_
    refine qa_aload_n hΓ dX2_beginBranch_15 rfl ?_
    refine qa_get hΓ dX2_beginBranch_16 fk_X2_19 hQ.lt hQ.o rfl ?_
    refine qa_iconst (v := nI 0) hΓ dX2_beginBranch_19 ic_0 ?_
    refine qc_N0q hΓ dX2_beginBranch_20 nk_X2_52 vw_X5_put (by omega) (c_X5_putQ l (d - 1) hQ z 0 (by omega)) rfl rfl (Nat.le_of_ble_eq_true rfl) (fun w hq => ?_)
    obtain ⟨hQ, hF⟩ := hq
    have hF0 := hF0.tr hF
    refine qa_aload_n hΓ dX2_beginBranch_23 rfl ?_
    refine qa_dup hΓ dX2_beginBranch_24 ?_
    refine qa_get hΓ dX2_beginBranch_25 fk_X2_19 hQ.lt hQ.o rfl ?_
    refine qa_iconst (v := nI 1) hΓ dX2_beginBranch_28 ic_1 ?_
    refine qz_iadd hΓ dX2_beginBranch_29 ?_
    refine qR_put1 hΓ dX2_beginBranch_30 fk_X2_19 hQ (fun w hQ hF => ?_)
    have hF0 := hF0.tr hF
    refine qa_iload_n hΓ dX2_beginBranch_33 rfl ?_
    refine qa_bipush (v := nI 49) hΓ dX2_beginBranch_34 bp_49 ?_
    refine qz_icmp_ne (tgt := 47) hΓ dX2_beginBranch_36 (by decide) (by omega) (by decide) (fun h_36 => ?_) (fun h_36 => ?_)
    · refine qa_aload_n hΓ dX2_beginBranch_47 rfl ?_
      refine qa_iload_n hΓ dX2_beginBranch_48 rfl ?_
      refine qc_V1b hΓ dX2_beginBranch_49 lk_X2_45 vw_X2_beginCondition (by omega) (c_X2_beginCondition l (d - 1) (by omega) hQ hR8 (by omega) hg2 (by omega) c hc) rfl hQ.lt hQ.o rfl rfl (Nat.le_of_ble_eq_true rfl) (fun b w hq => ?_)
      have e9 : tkB R z g c = tkC R (z + 1) (upN g z 0) c := by unfold tkB; rw [if_neg (by omega), if_neg h_36]
      obtain ⟨g', z', p', hQ, hF, r1, r2, r3, r4⟩ := hq
      exact qr_b hR dX2_beginBranch_52 ⟨b, rfl, g', z', p', hQ, hF0.tr hF, r1, r2, by rw [e9]; exact r3, by rw [e9]; exact r4⟩
    · refine qa_aload_n hΓ dX2_beginBranch_39 rfl ?_
      refine qa_iconst (v := nI 4) hΓ dX2_beginBranch_40 ic_4 ?_
      refine qc_V1q hΓ dX2_beginBranch_41 lk_X2_38 vw_X2_goTo (by omega) (c_X2_goTo l (d - 1) hQ 4) rfl hQ.lt hQ.o rfl rfl (Nat.le_of_ble_eq_true rfl) (fun w hq => ?_)
      obtain ⟨hQ, hF⟩ := hq
      refine qa_goto (tgt := 52) hΓ dX2_beginBranch_44 (by decide) ?_
      have e9 : tkB R z g c = some (4, z + 1, upN g z 0) := by unfold tkB; rw [if_neg (by omega), if_pos h_36]
      refine qr_b (p := true) hR dX2_beginBranch_52 ⟨true, rfl, upN g z 0, z + 1, 4, hQ, hF0.tr hF, by omega, hg2, by rw [e9]; rfl, fun st hst => ?_⟩
      rw [e9] at hst
      cases hst
      rfl
  · refine qa_iconst (v := nI 0) hΓ dX2_beginBranch_9 ic_0 ?_
    have e9 : tkB R z g c = none := by unfold tkB; rw [if_pos (by omega)]
    exact qr_b (p := false) hR dX2_beginBranch_10 ⟨false, rfl, g, z, p, hQ, Fr.rf, hz6, hg, by rw [e9]; rfl, fun st hst => by rw [e9] at hst; cases hst⟩

