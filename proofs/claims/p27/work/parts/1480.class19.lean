/-! The class: the states that are saved -/
def PaAt (n : Nat) (w : Nat → AC) (ol sz : Nat) (p : Nat → Bk) : Prop := w 8 = cObj 2 [aR 9, aZ ol, aZ sz] ∧ (∃ f, w 9 = cRef 6 f ∧ ∀ i, i < 6 → f i = some (10 + 7 * i)) ∧ (∀ i, i < 6 → BkAt n w (10 + 7 * i) (p i)) ∧ ol < 6 ∧ sz ≤ 6
section
variable {n : Nat} {w w' : Nat → AC} {ol sz : Nat} {p : Nat → Bk}
theorem PaAt.o (h : PaAt n w ol sz p) : w 8 = cObj 2 [aR 9, aZ ol, aZ sz] := h.1
theorem PaAt.lt9 (h : PaAt n w ol sz p) : 9 < n := by have := (h.2.2.1 5 (by decide)).1; omega
theorem PaAt.lt (h : PaAt n w ol sz p) : 8 < n := by have := h.lt9; omega
theorem PaAt.ofFr (h : PaAt n w ol sz p) {j m : Nat} (hF : Fr j m w w') (hd : 52 ≤ j ∨ j + m ≤ 8) : PaAt n w' ol sz p :=
  ⟨(hF 8 (by omega)).trans h.1, ⟨h.2.1.choose, (hF 9 (by omega)).trans h.2.1.choose_spec.1, h.2.1.choose_spec.2⟩, fun i hi => (h.2.2.1 i hi).ofFr hF (by omega), h.2.2.2⟩
theorem PaAt.setO (h : PaAt n w ol sz p) (ol' sz' : Nat) (h1 : ol' < 6) (h2 : sz' ≤ 6) : PaAt n (upw w 8 (cObj 2 [aR 9, aZ ol', aZ sz'])) ol' sz' p ∧ Fr 8 44 w (upw w 8 (cObj 2 [aR 9, aZ ol', aZ sz'])) := by
  have hF : Fr 8 1 w (upw w 8 (cObj 2 [aR 9, aZ ol', aZ sz'])) := Fr.up (by omega) (by omega)
  exact ⟨⟨upw_self _ _ _, ⟨h.2.1.choose, (hF 9 (by omega)).trans h.2.1.choose_spec.1, h.2.1.choose_spec.2⟩, fun i hi => (h.2.2.1 i hi).ofFr hF (by omega), h1, h2⟩, hF.wide (by omega) (by omega)⟩
theorem PaAt.setB (h : PaAt n w ol sz p) {q : Nat} {b : Bk} (hq : q < 6) (hB : BkAt n w' (10 + 7 * q) b) (hF : Fr (10 + 7 * q) 7 w w') : PaAt n w' ol sz (fun i => if i = q then b else p i) ∧ Fr 8 44 w w' := by
  refine ⟨⟨(hF 8 (by omega)).trans h.1, ⟨h.2.1.choose, (hF 9 (by omega)).trans h.2.1.choose_spec.1, h.2.1.choose_spec.2⟩, fun i hi => ?_, h.2.2.2⟩, hF.wide (by omega) (by omega)⟩
  by_cases e : i = q
  · subst e
    show BkAt n w' _ (if i = i then b else p i)
    rw [if_pos rfl]
    exact hB
  · show BkAt n w' _ (if i = q then b else p i)
    rw [if_neg e]
    exact (h.2.2.1 i hi).ofFr hF (by omega)
end
/-- bank b holds what bank c holds -/
def SamB (b c : Bk) : Prop := (∀ i, i < 6 → b i = c i) ∧ ∀ j, j < 9 → b 6 j = c 6 j
def z5 (sz : Nat) : Nat := if sz = 6 then 5 else sz
def SvP (n : Nat) (ol sz : Nat) (p : Nat → Bk) (c : Bk) (w w' : Nat → AC) : Prop := ∃ ol' p', PaAt n w' ol' (z5 sz + 1) p' ∧ Fr 8 44 w w' ∧ (∀ i, i < z5 sz → p' ((ol' + i) % 6) = p ((ol + (if sz = 6 then i + 1 else i)) % 6)) ∧ SamB (p' ((ol' + z5 sz) % 6)) c
set_option maxRecDepth 100000 in
set_option maxHeartbeats 4000000 in
theorem c_X3_bankAt (l : Launch) (d : Nat) (hd : 1 ≤ d) {n : Nat} {w : Nat → AC} {ol sz : Nat} {p : Nat → Bk} (hP : PaAt n w ol sz p) (a : Nat) (ha : a < 1000) : Sq l yX3_bankAt cX3_bankAt 3 (some (.object "RelayBank$Bank")) d [aR 8, aZ a] n w (Rs (some (aR (10 + 7 * ((ol + a) % 6)))) w) := by
  refine Sp.of (plainFor_of_name (by decide)) (Nat.le_of_ble_eq_true rfl) (fun Γ hΓ hR => ?_)
  show Γ 0 [aR 8, aZ a, none] [] (0, 0) n w
  obtain ⟨f, hf9, hf6⟩ := hP.2.1
  have ho6 := hP.2.2.2.1
  refine qa_aload_n hΓ dX3_bankAt_0 rfl ?_
  refine qa_get hΓ dX3_bankAt_1 fk_X3_18 hP.lt hP.o rfl ?_
  refine qa_iload_n hΓ dX3_bankAt_4 rfl ?_
  refine qz_iadd hΓ dX3_bankAt_5 ?_
  refine qa_bipush (v := nI 6) hΓ dX3_bankAt_6 bp_6 ?_
  refine qc_S1 hΓ dX3_bankAt_8 lk_X3_22 vw_J9_floorMod_7cf53 (by omega) (c_J9_floorMod_7cf53 l (d - 1) _ _ (by omega) (by decide) (by decide)) rfl rfl (Nat.le_of_ble_eq_true rfl) ?_
  have hq6 : (ol + a) % 6 < 6 := Nat.mod_lt _ (by decide)
  refine qa_istore_n hΓ dX3_bankAt_11 (by decide) ?_
  refine qa_iload_n hΓ dX3_bankAt_12 rfl ?_
  refine qa_aload_n hΓ dX3_bankAt_13 rfl ?_
  refine qa_get hΓ dX3_bankAt_14 fk_X3_11 hP.lt hP.o rfl ?_
  refine qa_alenR hΓ dX3_bankAt_17 hP.lt9 hf9 rfl ?_
  refine qz_icmp_ge (tgt := 30) hΓ dX3_bankAt_18 (by decide) (by omega) (by decide) (fun h => absurd h (by omega)) (fun _ => ?_)
  refine qa_aload_n hΓ dX3_bankAt_21 rfl ?_
  refine qa_get hΓ dX3_bankAt_22 fk_X3_11 hP.lt hP.o rfl ?_
  refine qa_iload_n hΓ dX3_bankAt_25 rfl ?_
  refine qa_aald hΓ dX3_bankAt_26 hP.lt9 hf9 (vp_in_nI (by omega) (by decide)) ?_
  rw [nI_clamp (by omega), hf6 _ (by omega)]
  refine qa_goto (tgt := 31) hΓ dX3_bankAt_27 (by decide) ?_
  exact qr_a hR dX3_bankAt_31 ⟨rfl, rfl⟩

set_option maxRecDepth 100000 in
set_option maxHeartbeats 4000000 in
theorem c_X3_save (l : Launch) (d : Nat) (hd : 2 ≤ d) {n : Nat} {w : Nat → AC} {ol sz : Nat} {p : Nat → Bk} (hP : PaAt n w ol sz p) {c : Bk} (hO : BkAt n w 1 c) : Sq l yX3_save cX3_save 3 none d [aR 8, aR 1] n w (Qn (SvP n ol sz p c w)) := by
  refine Sp.of (plainFor_of_name (by decide)) (Nat.le_of_ble_eq_true rfl) (fun Γ hΓ hR => ?_)
  show Γ 0 [aR 8, aR 1, none] [] (0, 0) n w
  have tail : ∀ (w1 : Nat → AC) (ol1 z : Nat), PaAt n w1 ol1 z p → Fr 8 44 w w1 → z = z5 sz → z < 6 → (∀ i, i < z → (ol1 + i) % 6 = (ol + (if sz = 6 then i + 1 else i)) % 6) → Γ 34 [aR 8, aR 1, none] [] (0, 0) n w1 := by
    obtain ⟨w0, hw0⟩ : ∃ X, X = w := ⟨_, rfl⟩
    rw [← hw0] at hR ⊢
    have hO0 : BkAt n w0 1 c := hw0 ▸ hO
    clear hP hw0 hO w
    intro w ol1 z hP hF0 hz hz6 hi
    have hO : BkAt n w 1 c := hO0.ofFr hF0 (by omega)
    have ho6 := hP.2.2.2.1
    refine qa_aload_n hΓ dX3_save_34 rfl ?_
    refine qa_aload_n hΓ dX3_save_35 rfl ?_
    refine qa_get hΓ dX3_save_36 fk_X3_28 hP.lt hP.o rfl ?_
    refine qc_V1 hΓ dX3_save_39 lk_X3_31 vw_X3_bankAt (by omega) (c_X3_bankAt l (d - 1) (by omega) hP _ (by omega)) rfl hP.lt hP.o rfl rfl (Nat.le_of_ble_eq_true rfl) ?_
    obtain ⟨q, hqe⟩ : ∃ X, X = (ol1 + z) % 6 := ⟨_, rfl⟩
    have hq6 : q < 6 := by omega
    rw [← hqe]
    refine qa_astore_n hΓ dX3_save_42 (by decide) ?_
    refine qa_aload_n hΓ dX3_save_43 rfl ?_
    refine qa_ifnull hΓ dX3_save_44 ?_
    refine qa_aload_n hΓ dX3_save_47 rfl ?_
    refine qa_aload_n hΓ dX3_save_48 rfl ?_
    refine qc_V0q hΓ dX3_save_49 lk_X3_35 vw_X0_copy (by omega) (c_X0_copy l (d - 1) (by omega) (hP.2.2.1 q hq6) hO (by omega)) rfl (hP.2.2.1 q hq6).lt (hP.2.2.1 q hq6).o rfl rfl (Nat.le_of_ble_eq_true rfl) (fun w hq => ?_)
    obtain ⟨b', hB', hF, hs1, hs2⟩ := hq
    obtain ⟨hP, hF⟩ := hP.setB hq6 hB' hF
    have hF0 := hF0.tr hF
    refine qa_aload_n hΓ dX3_save_52 rfl ?_
    refine qa_dup hΓ dX3_save_53 ?_
    refine qa_get hΓ dX3_save_54 fk_X3_28 hP.lt hP.o rfl ?_
    refine qa_iconst (v := nI 1) hΓ dX3_save_57 ic_1 ?_
    refine qz_iadd hΓ dX3_save_58 ?_
    refine qa_puti hΓ dX3_save_59 fk_X3_28 hP.lt hP.o (by simp) ?_
    obtain ⟨hP1, hF⟩ := hP.setO ol1 (z + 1) hP.2.2.2.1 (by omega)
    have hF0 := hF0.tr hF
    obtain ⟨w9, hw9⟩ : ∃ X, X = upw w 8 (cObj 2 [aR 9, aZ ol1, aZ (z + 1)]) := ⟨_, rfl⟩
    refine (show Γ 62 _ _ (0, 0) n w9 → _ from fun h => by rw [hw9] at h; exact h) ?_
    rw [← hw9] at hP1 hF hF0
    have hP := hP1
    obtain ⟨w, hwe⟩ : ∃ X, X = w9 := ⟨_, rfl⟩
    rw [← hwe] at hP hF hF0 ⊢
    refine qr_v hR dX3_save_62 ⟨rfl, ol1, _, hz ▸ hP, hF0, fun i h => ?_, ?_⟩
    · have h1 := hi i (by omega)
      rw [← h1]
      exact if_neg (by omega)
    · rw [← hz, ← hqe]
      rw [if_pos rfl]
      exact ⟨hs1, hs2⟩
  have hF0 : Fr 8 44 w w := Fr.rf
  have ho6 := hP.2.2.2.1
  have hs6 := hP.2.2.2.2
  refine qa_aload_n hΓ dX3_save_0 rfl ?_
  refine qa_get hΓ dX3_save_1 fk_X3_28 hP.lt hP.o rfl ?_
  refine qa_bipush (v := nI 6) hΓ dX3_save_4 bp_6 ?_
  refine qz_icmp_ne (tgt := 34) hΓ dX3_save_6 (by decide) (by omega) (by omega) (fun h_6 => ?_) (fun h_6 => ?_)
  · exact tail w ol sz hP hF0 (by unfold z5; rw [if_neg h_6]) (by omega) (fun i hi => by rw [if_neg h_6])
  · refine qa_aload_n hΓ dX3_save_9 rfl ?_
    refine qa_aload_n hΓ dX3_save_10 rfl ?_
    refine qa_get hΓ dX3_save_11 fk_X3_18 hP.lt hP.o rfl ?_
    refine qa_iconst (v := nI 1) hΓ dX3_save_14 ic_1 ?_
    refine qz_iadd hΓ dX3_save_15 ?_
    refine qa_bipush (v := nI 6) hΓ dX3_save_16 bp_6 ?_
    refine qc_S1 hΓ dX3_save_18 lk_X3_22 vw_J9_floorMod_7cf53 (by omega) (c_J9_floorMod_7cf53 l (d - 1) _ _ (by omega) (by decide) (by decide)) rfl rfl (Nat.le_of_ble_eq_true rfl) ?_
    refine qa_puti hΓ dX3_save_21 fk_X3_18 hP.lt hP.o (by simp) ?_
    obtain ⟨hP1, hF⟩ := hP.setO ((ol + 1) % 6) sz (Nat.mod_lt _ (by decide)) hP.2.2.2.2
    have hF0 := hF0.tr hF
    obtain ⟨w9, hw9⟩ : ∃ X, X = upw w 8 (cObj 2 [aR 9, aZ ((ol + 1) % 6), aZ sz]) := ⟨_, rfl⟩
    refine (show Γ 24 _ _ (0, 0) n w9 → _ from fun h => by rw [hw9] at h; exact h) ?_
    rw [← hw9] at hP1 hF hF0
    have hP := hP1
    obtain ⟨w, hwe⟩ : ∃ X, X = w9 := ⟨_, rfl⟩
    rw [← hwe] at hP hF hF0 ⊢
    refine qa_aload_n hΓ dX3_save_24 rfl ?_
    refine qa_dup hΓ dX3_save_25 ?_
    refine qa_get hΓ dX3_save_26 fk_X3_28 hP.lt hP.o rfl ?_
    refine qa_iconst (v := nI 1) hΓ dX3_save_29 ic_1 ?_
    refine qz_isub hΓ dX3_save_30 (by omega) ?_
    refine qa_puti hΓ dX3_save_31 fk_X3_28 hP.lt hP.o (by simp) ?_
    obtain ⟨hP1, hF⟩ := hP.setO ((ol + 1) % 6) (sz - 1) hP.2.2.2.1 (by omega)
    have hF0 := hF0.tr hF
    obtain ⟨w9, hw9⟩ : ∃ X, X = upw w 8 (cObj 2 [aR 9, aZ ((ol + 1) % 6), aZ (sz - 1)]) := ⟨_, rfl⟩
    refine (show Γ 34 _ _ (0, 0) n w9 → _ from fun h => by rw [hw9] at h; exact h) ?_
    rw [← hw9] at hP1 hF hF0
    have hP := hP1
    obtain ⟨w, hwe⟩ : ∃ X, X = w9 := ⟨_, rfl⟩
    rw [← hwe] at hP hF hF0 ⊢
    exact tail w _ _ hP hF0 (by unfold z5; rw [if_pos h_6]; omega) (by omega) (fun i hi => by rw [if_pos h_6]; omega)

def RsP (n : Nat) (ol sz : Nat) (p : Nat → Bk) (w : Nat → AC) (r : Bool) (w' : Nat → AC) : Prop := r = decide (0 < sz) ∧ (sz = 0 → w' = w) ∧ (0 < sz → ∃ b', PaAt n w' ol (sz - 1) p ∧ BkAt n w' 1 b' ∧ SamB b' (p ((ol + (sz - 1)) % 6)) ∧ Fr 1 51 w w')
set_option maxRecDepth 100000 in
set_option maxHeartbeats 4000000 in
theorem c_X3_restore (l : Launch) (d : Nat) (hd : 2 ≤ d) {n : Nat} {w : Nat → AC} {ol sz : Nat} {p : Nat → Bk} (hP : PaAt n w ol sz p) {b : Bk} (hB : BkAt n w 1 b) : Sq l yX3_restore cX3_restore 3 (some .boolean) d [aR 8, aR 1] n w (Qb (RsP n ol sz p w)) := by
  refine Sp.of (plainFor_of_name (by decide)) (Nat.le_of_ble_eq_true rfl) (fun Γ hΓ hR => ?_)
  show Γ 0 [aR 8, aR 1, none] [] (0, 0) n w
  obtain ⟨w0, hwe0⟩ : ∃ X, w = X := ⟨_, rfl⟩
  rw [hwe0] at hR
  have ho6 := hP.2.2.2.1
  have hs6 := hP.2.2.2.2
  refine qa_aload_n hΓ dX3_restore_0 rfl ?_
  refine qa_get hΓ dX3_restore_1 fk_X3_28 hP.lt hP.o rfl ?_
  refine qz_if_le (tgt := 20) hΓ dX3_restore_4 (by decide) (by omega) (fun h_4 => ?_) (fun h_4 => ?_)
  · refine qa_null hΓ dX3_restore_20 ?_
    refine qa_astore_nN hΓ dX3_restore_21 (by decide) ?_
    refine qa_aload_nN hΓ dX3_restore_22 rfl ?_
    refine qa_ifnonnullN hΓ dX3_restore_23 ?_
    refine qa_iconst (v := nI 0) hΓ dX3_restore_26 ic_0 ?_
    exact qr_b (p := false) hR dX3_restore_27 ⟨false, rfl, ⟨by rw [decide_eq_false]; omega, fun _ => hwe0, fun h => absurd h (by omega)⟩⟩
  · refine qa_aload_n hΓ dX3_restore_7 rfl ?_
    refine qa_aload_n hΓ dX3_restore_8 rfl ?_
    refine qa_get hΓ dX3_restore_9 fk_X3_28 hP.lt hP.o rfl ?_
    refine qa_iconst (v := nI 1) hΓ dX3_restore_12 ic_1 ?_
    refine qz_isub hΓ dX3_restore_13 (by omega) ?_
    refine qc_V1 hΓ dX3_restore_14 lk_X3_31 vw_X3_bankAt (by omega) (c_X3_bankAt l (d - 1) (by omega) hP _ (by omega)) rfl hP.lt hP.o rfl rfl (Nat.le_of_ble_eq_true rfl) ?_
    obtain ⟨q, hqe⟩ : ∃ X, X = (ol + (sz - 1)) % 6 := ⟨_, rfl⟩
    have hq6 : q < 6 := by omega
    rw [← hqe]
    refine qa_goto (tgt := 21) hΓ dX3_restore_17 (by decide) ?_
    refine qa_astore_n hΓ dX3_restore_21 (by decide) ?_
    refine qa_aload_n hΓ dX3_restore_22 rfl ?_
    refine qa_ifnonnull (tgt := 28) hΓ dX3_restore_23 (by decide) ?_
    refine qa_aload_n hΓ dX3_restore_28 rfl ?_
    refine qa_aload_n hΓ dX3_restore_29 rfl ?_
    refine qc_V0q hΓ dX3_restore_30 lk_X3_35 vw_X0_copy (by omega) (c_X0_copy l (d - 1) (by omega) hB (hP.2.2.1 q hq6) (by omega)) rfl hB.lt hB.o rfl rfl (Nat.le_of_ble_eq_true rfl) (fun w hq => ?_)
    obtain ⟨b', hB, hF, hs1, hs2⟩ := hq
    have hF0 : Fr 1 51 w0 w := (hwe0 ▸ hF).wide (by omega) (by omega)
    have hP := hP.ofFr hF (by omega)
    have hF0' := hF0
    refine qa_aload_n hΓ dX3_restore_33 rfl ?_
    refine qa_dup hΓ dX3_restore_34 ?_
    refine qa_get hΓ dX3_restore_35 fk_X3_28 hP.lt hP.o rfl ?_
    refine qa_iconst (v := nI 1) hΓ dX3_restore_38 ic_1 ?_
    refine qz_isub hΓ dX3_restore_39 (by omega) ?_
    refine qa_puti hΓ dX3_restore_40 fk_X3_28 hP.lt hP.o (by simp) ?_
    obtain ⟨hP1, hF⟩ := hP.setO ol (sz - 1) hP.2.2.2.1 (by omega)
    have hF0 := hF0.tr (hF.wide (by omega) (by omega))
    obtain ⟨w9, hw9⟩ : ∃ X, X = upw w 8 (cObj 2 [aR 9, aZ ol, aZ (sz - 1)]) := ⟨_, rfl⟩
    refine (show Γ 43 _ _ (0, 0) n w9 → _ from fun h => by rw [hw9] at h; exact h) ?_
    rw [← hw9] at hP1 hF hF0
    have hP := hP1
    obtain ⟨w, hwe⟩ : ∃ X, X = w9 := ⟨_, rfl⟩
    rw [← hwe] at hP hF hF0 ⊢
    refine qa_iconst (v := nI 1) hΓ dX3_restore_43 ic_1 ?_
    exact qr_b (p := true) hR dX3_restore_44 ⟨true, rfl, ⟨by rw [decide_eq_true]; omega, fun h => absurd h (by omega), fun _ => ⟨b', hP, hB.ofFr hF (by omega), hqe ▸ ⟨hs1, hs2⟩, hF0⟩⟩⟩
