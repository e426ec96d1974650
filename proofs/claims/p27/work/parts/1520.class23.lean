/-! The class: a circuit that is loaded; looking -/
/-- rows that differ at most behind the last branch of a relay -/
def Eqv (s t : Nat → Nat) : Prop := (∀ j, j < 3 → s j = t j) ∧ ∀ q x, x < 25 → (x ≤ 12 ∨ x < 13 + 2 * vv s q 12) → vv s q x = vv t q x
theorem Eqv.c {s t : Nat → Nat} (h : Eqv s t) (q : Nat) {x : Nat} (hx : x ≤ 12) : vv s q x = vv t q x := h.2 q x (by omega) (Or.inl hx)
theorem Eqv.cdB {s t : Nat → Nat} {q on : Nat} (h : Eqv s t) (h6 : vv s q 12 ≤ 6) : ∀ m, m ≤ vv s q 12 → cdB s q on m = cdB t q on m
  | 0, _ => rfl
  | m + 1, hm => by
    show (Jvm.Pilot.@@N@@.cdB s q on m || brB s q on m) = (Jvm.Pilot.@@N@@.cdB t q on m || brB t q on m)
    rw [Eqv.cdB h h6 m (by omega)]
    unfold brB
    rw [h.2 q (13 + 2 * m) (by omega) (Or.inr (by omega)), h.2 q (13 + 2 * m + 1) (by omega) (Or.inr (by omega))]
theorem Eqv.cnd {s t : Nat → Nat} {q on : Nat} (h : Eqv s t) (h6 : vv s q 12 ≤ 6) : cnd s q on = cnd t q on := by
  unfold Jvm.Pilot.@@N@@.cnd
  rw [← h.c q (x := 12) (by decide)]
  exact h.cdB h6 _ (Nat.le_refl _)
theorem Eqv.onS {s t : Nat → Nat} (h : Eqv s t) : onS s = onS t := by
  unfold Jvm.Pilot.@@N@@.onS
  rw [h.1 0 (by decide), h.1 1 (by decide), mk_congr (q := clB t) (fun i _ => by unfold clB; rw [h.c i (x := 6) (by decide), h.c i (x := 3) (by decide), h.c i (x := 5) (by decide)])]
theorem Eqv.lkT {s t : Nat → Nat} {is r : Nat} (h : Eqv s t) : Eqv (lkT is s r) (lkT is t r) := by
  refine ⟨fun j hj => by rw [lkT_hd _ _ _ hj, lkT_hd _ _ _ hj]; exact h.1 j hj, fun q x hx hc => ?_⟩
  rw [lkT_oth is s r (r' := q) (x := 12) (by decide) (Or.inr (by decide))] at hc
  by_cases e : q = r ∧ (x = 4 ∨ x = 8 ∨ x = 9)
  · obtain ⟨rfl, rfl | rfl | rfl⟩ := e
    · rw [lkT_4, lkT_4]
    · rw [lkT_8, lkT_8, h.c q (x := 3) (by decide), h.c q (x := 8) (by decide)]
    · rw [lkT_9, lkT_9, h.c q (x := 3) (by decide), h.c q (x := 9) (by decide), h.1 2 (by decide)]
      by_cases e1 : is = 1
      · rw [if_pos e1, h.c q (x := 0) (by decide)]
      · rw [if_neg e1, h.c q (x := 1) (by decide)]
  · rw [lkT_oth _ _ _ hx (by omega), lkT_oth _ _ _ hx (by omega)]
    exact h.2 q x hx hc
theorem Eqv.lk {s t : Nat → Nat} (on : Nat) (h : Eqv s t) : ∀ m, (∀ q, q < m → vv s q 12 ≤ 6) → (lk on s m).1 = (lk on t m).1 ∧ Eqv (lk on s m).2 (lk on t m).2
  | 0, _ => ⟨rfl, h⟩
  | m + 1, h6 => by
    obtain ⟨i1, i2⟩ := Eqv.lk on h m (fun q hq => h6 q (by omega))
    have e1 : Jvm.Pilot.@@N@@.cnd (Jvm.Pilot.@@N@@.lk on s m).2 m on = Jvm.Pilot.@@N@@.cnd (Jvm.Pilot.@@N@@.lk on t m).2 m on := i2.cnd (by rw [lk_oth _ _ (by decide) (by decide)]; exact h6 m (by omega))
    have e2 := i2.c m (x := 4) (by decide)
    unfold Jvm.Pilot.@@N@@.lk
    rw [← e1, ← e2]
    split
    · exact ⟨i1, i2⟩
    · exact ⟨by show _ + 1 = _ + 1; rw [i1], i2.lkT⟩
theorem Eqv.lks {s t : Nat → Nat} (h : Eqv s t) (h6 : ∀ q, q < s 1 → vv s q 12 ≤ 6) : (lks s).1 = (lks t).1 ∧ Eqv (lks s).2 (lks t).2 := by
  unfold Jvm.Pilot.@@N@@.lks
  rw [← h.onS, ← h.1 1 (by decide)]
  exact h.lk _ _ h6
theorem Eqv.rep {s t : Nat → Nat} {b : Bk} (h : Eqv s t) (h6 : ∀ q, q < s 1 → vv s q 12 ≤ 6) (hR : RepC s b) : RepC t b := by
  obtain ⟨r1, r2, r3, r4, r5⟩ := hR
  have hm : ∀ x v, x ≤ 12 → mk (pM t x v) (t 1) = mk (pM s x v) (s 1) := fun x v hx => by
    rw [h.1 1 (by decide)]
    exact mk_congr (fun i _ => by unfold pM; rw [h.c i hx])
  unfold RepC
  rw [hm 4 1 (by decide), hm 3 1 (by decide), hm 5 1 (by decide), hm 7 1 (by decide), hm 6 1 (by decide), hm 6 2 (by decide), ← h.1 0 (by decide), ← h.1 1 (by decide), ← h.1 2 (by decide)]
  refine ⟨r1, fun r hr => ?_, r3, fun r hr => ?_, r5⟩
  · rw [← h.c r (x := 0) (by decide), ← h.c r (x := 1) (by decide), ← h.c r (x := 2) (by decide), ← h.c r (x := 12) (by decide)]
    obtain ⟨a0, a1, a2, a3, a4⟩ := r2 r hr
    refine ⟨a0, a1, a2, a3, fun j hj => ?_⟩
    have := h6 r hr
    rw [← h.2 r (13 + 2 * j) (by omega) (Or.inr (by omega)), ← h.2 r (13 + 2 * j + 1) (by omega) (Or.inr (by omega))]
    exact a4 j hj
  · unfold duA duE at r4 ⊢
    rw [← h.c r (x := 8) (by decide), ← h.c r (x := 9) (by decide), ← h.c r (x := 10) (by decide), ← h.c r (x := 11) (by decide)]
    exact r4 r hr
theorem Eqv.sec {s t : Nat → Nat} (h : Eqv s t) (hS : SeC s) : SeC t := by
  intro r hr
  rw [← h.1 1 (by decide)] at hr
  rw [← h.c r (x := 8) (by decide), ← h.c r (x := 3) (by decide), ← h.c r (x := 4) (by decide), ← h.c r (x := 5) (by decide), ← h.c r (x := 10) (by decide)]
  exact hS r hr
theorem PRs.eqv {s0 s t g : Nat → Nat} {r k B C : Nat} (h : PRs s0 r s k g B) (h' : PRs s0 r t k g C) (hr : r < s0 1) : Eqv s t := by
  obtain ⟨hW, a1, a2, a3, a4⟩ := h
  obtain ⟨hW', b1, b2, b3, b4⟩ := h'
  refine ⟨fun j hj => by rw [a1 j hj, b1 j hj], fun q x hx hc => ?_⟩
  by_cases e : q ≠ r ∨ x < 12
  · rw [a2 q x hx e, b2 q x hx e]
  · have eq : q = r := by omega
    subst eq
    by_cases e12 : x = 12
    · subst e12
      rw [a3, b3]
    · rw [a3] at hc
      obtain ⟨j, hj, hxj⟩ : ∃ j, j < k ∧ (x = 13 + 2 * j ∨ x = 13 + 2 * j + 1) := ⟨(x - 13) / 2, by omega, by omega⟩
      have m1 := hW.m16 (r := q) (x := 13 + 2 * j) (by rw [a1 1 (by decide)]; exact hr) (by omega) (by omega)
      have m2 := hW'.m16 (r := q) (x := 13 + 2 * j) (by rw [b1 1 (by decide)]; exact hr) (by omega) (by omega)
      have e9 := (a4 j hj).symm.trans (b4 j hj)
      unfold cmb at e9
      rcases hxj with rfl | rfl <;> omega
/-- a row with that circuit -/
def ciS (s : Nat → Nat) (r k : Nat) (g : Nat → Nat) : Nat → Nat := fun j => if j = 3 + 25 * r + 12 then k else if 3 + 25 * r + 13 ≤ j ∧ j < 3 + 25 * r + 13 + 2 * k then (if (j - (3 + 25 * r + 13)) % 2 = 0 then g ((j - (3 + 25 * r + 13)) / 2) % 65536 else g ((j - (3 + 25 * r + 13)) / 2) / 65536) else s j
theorem PRs.ci {s g : Nat → Nat} {r k B : Nat} (hW : Wt s B) (hk : k ≤ 6) (hg : ∀ j, j < 6 → g j < 4294967296) : PRs s r (ciS s r k g) k g B := by
  have hv : ∀ q x, x < 25 → vv (ciS s r k g) q x = if q = r ∧ x = 12 then k else if q = r ∧ 13 ≤ x ∧ x < 13 + 2 * k then (if (x - 13) % 2 = 0 then g ((x - 13) / 2) % 65536 else g ((x - 13) / 2) / 65536) else vv s q x := fun q x hx => by
    unfold vv ciS
    by_cases e : q = r
    · subst e
      rw [show 3 + 25 * q + x - (3 + 25 * q + 13) = x - 13 by omega]
      by_cases e1 : x = 12
      · rw [if_pos (by omega), if_pos ⟨rfl, e1⟩]
      · rw [if_neg (show ¬ 3 + 25 * q + x = 3 + 25 * q + 12 by omega), if_neg (show ¬ (q = q ∧ x = 12) by omega)]
        by_cases e2 : 13 ≤ x ∧ x < 13 + 2 * k
        · rw [if_pos (show 3 + 25 * q + 13 ≤ 3 + 25 * q + x ∧ 3 + 25 * q + x < 3 + 25 * q + 13 + 2 * k by omega), if_pos (show q = q ∧ 13 ≤ x ∧ x < 13 + 2 * k from ⟨rfl, e2⟩)]
        · rw [if_neg (show ¬ (3 + 25 * q + 13 ≤ 3 + 25 * q + x ∧ 3 + 25 * q + x < 3 + 25 * q + 13 + 2 * k) by omega), if_neg (show ¬ (q = q ∧ 13 ≤ x ∧ x < 13 + 2 * k) by omega)]
    · rw [if_neg (by omega), if_neg (by omega), if_neg (by omega), if_neg (by omega)]
  have hh : ∀ j, j < 3 → ciS s r k g j = s j := fun j hj => by
    unfold ciS
    rw [if_neg (by omega), if_neg (by omega)]
  refine ⟨⟨by rw [hh 0 (by decide)]; exact hW.1, by rw [hh 1 (by decide)]; exact hW.2.1, by rw [hh 2 (by decide)]; exact hW.2.2.1, fun q hq x hx => ?_⟩, hh, fun q x hx hc => by rw [hv q x hx, if_neg (by omega), if_neg (by omega)], by rw [hv r 12 (by decide), if_pos ⟨rfl, rfl⟩], fun j hj => ?_⟩
  · rw [hh 1 (by decide)] at hq
    rw [hv q x hx]
    by_cases e1 : q = r ∧ x = 12
    · rw [if_pos e1, e1.2]
      simpa [bdF] using hk
    · rw [if_neg e1]
      by_cases e2 : q = r ∧ 13 ≤ x ∧ x < 13 + 2 * k
      · rw [if_pos e2]
        have h9 := hg ((x - 13) / 2) (by omega)
        have h8 : bdF B x = 65535 := by
          unfold bdF
          rw [if_neg (by omega), if_neg (by omega), if_neg (by omega), if_neg (by omega), if_neg (by omega), if_neg (by omega)]
        rw [h8]
        split <;> omega
      · rw [if_neg e2]
        exact hW.2.2.2 q hq x hx
  · have h9 := hg j (by omega)
    rw [hv r _ (by omega), if_neg (by omega), if_pos (by omega), if_pos (by omega), hv r _ (by omega), if_neg (by omega), if_pos (by omega), if_neg (by omega)]
    rw [show (13 + 2 * j - 13) / 2 = j by omega, show (13 + 2 * j + 1 - 13) / 2 = j by omega]
    unfold cmb
    omega
theorem st_pM {s : Nat → Nat} {B x : Nat} (hW : Wt s B) (hx : x = 3 ∨ x = 4 ∨ x = 5 ∨ x = 7 ∨ x = 10) : mk (pM s x 1) (s 1) = mk (stB s x) (s 1) := mk_congr (fun i hi => by
  have := hW.c1 hi hx
  unfold pM stB
  exact decide_eq_decide.mpr (by omega))
theorem itB_d (s : Nat → Nat) (r : Nat) : ∀ m, (decide (∃ j, j < m ∧ ¬ how3 s r j (8 + r) = 0)).toNat = itB s r m
  | 0 => by
    rw [decide_eq_false (by rintro ⟨j, hj, _⟩; omega)]
    rfl
  | m + 1 => by
    have ih := itB_d s r m
    unfold itB
    by_cases h : 0 < how3 s r m (8 + r)
    · rw [if_pos h, decide_eq_true ⟨m, by omega, by omega⟩]
      rfl
    · rw [if_neg h, ← ih]
      congr 1
      exact decide_eq_decide.mpr ⟨fun ⟨j, hj, hc⟩ => ⟨j, by
        rcases Nat.lt_or_ge j m with u | u
        · exact u
        · exact absurd (show 0 < how3 s r m (8 + r) by rw [show m = j by omega]; omega) h, hc⟩, fun ⟨j, hj, hc⟩ => ⟨j, by omega, hc⟩⟩
theorem evS_ok {s : Nat → Nat} {i e : Nat} : ∀ {m}, evS s i m = some e → e < m ∧ wtB s e = true
  | 0, h => by cases h
  | m + 1, h => by
    rw [evS_st] at h
    cases ho : evS s i m with
    | some e' =>
      rw [ho] at h
      obtain ⟨h1, h2⟩ := evS_ok ho
      cases h
      exact ⟨by omega, h2⟩
    | none =>
      rw [ho] at h
      simp only at h
      split at h
      · rename_i q
        cases h
        unfold evT at q
        rw [Bool.and_eq_true] at q
        exact ⟨by omega, q.1⟩
      · cases h
theorem wt_k3 {s : Nat → Nat} {e : Nat} (h : wtB s e = true) : e % 4 < 3 := by
  unfold wtB at h
  split at h
  · omega
  · rw [Bool.and_eq_true, decide_eq_true_eq] at h
    omega
set_option maxRecDepth 100000 in
set_option maxHeartbeats 4000000 in
theorem c_X5_count (l : Launch) (d : Nat) (hd : 1 ≤ d) {n : Nat} {w : Nat → AC} {M : Bk} {B : Nat} {b : Bk} {ol : Nat} {p : Nat → Bk} {g : Nat → Nat} {z R q : Nat} {c1 c2 : Bk} (hZ : WX n w b ol (M 5 0) p (M 4) (M 5 1) g z R q c1 c2) (hX : SX M B b ol p) (hBd : B < 800000000) (wh : Int32) : Sq l yX5_count cX5_count 2 (some .int) d [aR 0, aI wh] n w (QC (spCount M wh) (B + 4100) n w) := by
  refine Sp.of (plainFor_of_name (by decide)) (Nat.le_of_ble_eq_true rfl) (fun Γ hΓ hR => ?_)
  show Γ 0 [aR 0, aI wh] [] (0, 0) n w
  have hF0 : Fr 0 70 w w := Fr.rf
  obtain ⟨hR0, hS, hC, hW, hp6, hG, hT60, hT256⟩ := id hX
  have h8 := hW.2.1
  refine qa_iload_n hΓ dX5_count_0 rfl ?_
  by_cases hT : nI 0 ≤ wh ∧ wh ≤ nI 9
  · obtain ⟨j, hj1, hj2, rfl⟩ := rng (by decide) hT (by decide)
    rcases (show j = 0 ∨ j = 1 ∨ j = 2 ∨ j = 3 ∨ j = 4 ∨ j = 5 ∨ j = 6 ∨ j = 7 ∨ j = 8 ∨ j = 9 by omega) with rfl | rfl | rfl | rfl | rfl | rfl | rfl | rfl | rfl | rfl
    · refine qa_tabIn (off := 55) (tgt := 56) hΓ dX5_count_1 (by decide +kernel) (by decide +kernel) (by decide +kernel) (by decide) ?_
      refine qa_aload_n hΓ dX5_count_56 rfl ?_
      refine qa_get hΓ dX5_count_57 fk_X5_12 hZ.lt hZ.o rfl ?_
      refine qa_getN hΓ dX5_count_60 fn_X5_47 hZ.now.lt hZ.now.o rfl ?_
      exact qr_i hR dX5_count_63 ⟨_, rfl, hF0, fun r2 M' h => by
        unfold spCount at h
        rw [if_pos hT] at h
        exact ⟨h.1.trans (congrArg nI (hR0.1.1).symm), CW.sm hX hZ h.2⟩⟩
    · refine qa_tabIn (off := 63) (tgt := 64) hΓ dX5_count_1 (by decide +kernel) (by decide +kernel) (by decide +kernel) (by decide) ?_
      refine qa_aload_n hΓ dX5_count_64 rfl ?_
      refine qa_get hΓ dX5_count_65 fk_X5_12 hZ.lt hZ.o rfl ?_
      refine qa_getN hΓ dX5_count_68 fn_X5_149 hZ.now.lt hZ.now.o rfl ?_
      exact qr_i hR dX5_count_71 ⟨_, rfl, hF0, fun r2 M' h => by
        unfold spCount at h
        rw [if_pos hT] at h
        exact ⟨h.1.trans (congrArg nI (hR0.1.2.1).symm), CW.sm hX hZ h.2⟩⟩
    · refine qa_tabIn (off := 71) (tgt := 72) hΓ dX5_count_1 (by decide +kernel) (by decide +kernel) (by decide +kernel) (by decide) ?_
      refine qa_aload_n hΓ dX5_count_72 rfl ?_
      refine qa_get hΓ dX5_count_73 fk_X5_12 hZ.lt hZ.o rfl ?_
      refine qc_V1 hΓ dX5_count_76 lk_X5_156 vw_X0_waiting (by omega) (c_X0_waiting l (d - 1) hZ.now hR0 hW (by omega)) rfl hZ.now.lt hZ.now.o rfl rfl (Nat.le_of_ble_eq_true rfl) ?_
      exact qr_i hR dX5_count_79 ⟨_, rfl, hF0, fun r2 M' h => by
        unfold spCount at h
        rw [if_pos hT] at h
        exact ⟨h.1, CW.sm hX hZ h.2⟩⟩
    · refine qa_tabIn (off := 79) (tgt := 80) hΓ dX5_count_1 (by decide +kernel) (by decide +kernel) (by decide +kernel) (by decide) ?_
      refine qa_aload_n hΓ dX5_count_80 rfl ?_
      refine qa_get hΓ dX5_count_81 fk_X5_12 hZ.lt hZ.o rfl ?_
      refine qa_getN hΓ dX5_count_84 fn_X5_107 hZ.now.lt hZ.now.o rfl ?_
      exact qr_i hR dX5_count_87 ⟨_, rfl, hF0, fun r2 M' h => by
        unfold spCount at h
        rw [if_pos hT] at h
        exact ⟨h.1.trans (congrArg nI (hR0.1.2.2).symm), CW.sm hX hZ h.2⟩⟩
    · refine qa_tabIn (off := 87) (tgt := 88) hΓ dX5_count_1 (by decide +kernel) (by decide +kernel) (by decide +kernel) (by decide) ?_
      refine qa_aload_n hΓ dX5_count_88 rfl ?_
      refine qa_get hΓ dX5_count_89 fk_X5_12 hZ.lt hZ.o rfl ?_
      refine qa_getN hΓ dX5_count_92 fn_X5_160 hZ.now.lt hZ.now.o rfl ?_
      exact qr_i hR dX5_count_95 ⟨_, rfl, hF0, fun r2 M' h => by
        unfold spCount at h
        rw [if_pos hT] at h
        exact ⟨h.1.trans (congrArg nI (hR0.2.2.1.1.trans (st_pM hW (by decide))).symm), CW.sm hX hZ h.2⟩⟩
    · refine qa_tabIn (off := 95) (tgt := 96) hΓ dX5_count_1 (by decide +kernel) (by decide +kernel) (by decide +kernel) (by decide) ?_
      refine qa_aload_n hΓ dX5_count_96 rfl ?_
      refine qa_get hΓ dX5_count_97 fk_X5_12 hZ.lt hZ.o rfl ?_
      refine qa_getN hΓ dX5_count_100 fn_X5_163 hZ.now.lt hZ.now.o rfl ?_
      exact qr_i hR dX5_count_103 ⟨_, rfl, hF0, fun r2 M' h => by
        unfold spCount at h
        rw [if_pos hT] at h
        exact ⟨h.1.trans (congrArg nI (hR0.2.2.1.2.1.trans (st_pM hW (by decide))).symm), CW.sm hX hZ h.2⟩⟩
    · refine qa_tabIn (off := 103) (tgt := 104) hΓ dX5_count_1 (by decide +kernel) (by decide +kernel) (by decide +kernel) (by decide) ?_
      refine qa_aload_n hΓ dX5_count_104 rfl ?_
      refine qa_get hΓ dX5_count_105 fk_X5_12 hZ.lt hZ.o rfl ?_
      refine qc_V1 hΓ dX5_count_108 lk_X5_166 vw_X0_closedContacts (by omega) (c_X0_closedContacts l (d - 1) hZ.now hR0 hW (by omega)) rfl hZ.now.lt hZ.now.o rfl rfl (Nat.le_of_ble_eq_true rfl) ?_
      exact qr_i hR dX5_count_111 ⟨_, rfl, hF0, fun r2 M' h => by
        unfold spCount at h
        rw [if_pos hT] at h
        exact ⟨h.1, CW.sm hX hZ h.2⟩⟩
    · refine qa_tabIn (off := 111) (tgt := 112) hΓ dX5_count_1 (by decide +kernel) (by decide +kernel) (by decide +kernel) (by decide) ?_
      refine qa_aload_n hΓ dX5_count_112 rfl ?_
      refine qa_get hΓ dX5_count_113 fk_X5_12 hZ.lt hZ.o rfl ?_
      refine qa_getN hΓ dX5_count_116 fn_X5_169 hZ.now.lt hZ.now.o rfl ?_
      exact qr_i hR dX5_count_119 ⟨_, rfl, hF0, fun r2 M' h => by
        unfold spCount at h
        rw [if_pos hT] at h
        exact ⟨h.1.trans (congrArg nI (hR0.2.2.1.2.2.1.trans (st_pM hW (by decide))).symm), CW.sm hX hZ h.2⟩⟩
    · refine qa_tabIn (off := 119) (tgt := 120) hΓ dX5_count_1 (by decide +kernel) (by decide +kernel) (by decide +kernel) (by decide) ?_
      refine qa_aload_n hΓ dX5_count_120 rfl ?_
      refine qa_get hΓ dX5_count_121 fk_X5_26 hZ.lt hZ.o rfl ?_
      refine qa_getN hΓ dX5_count_124 fn_X5_82 hZ.text.lt hZ.text.o rfl ?_
      exact qr_i hR dX5_count_127 ⟨_, rfl, hF0, fun r2 M' h => by
        unfold spCount at h
        rw [if_pos hT] at h
        exact ⟨h.1, CW.sm hX hZ h.2⟩⟩
    · refine qa_tabIn (off := 127) (tgt := 128) hΓ dX5_count_1 (by decide +kernel) (by decide +kernel) (by decide +kernel) (by decide) ?_
      refine qa_aload_n hΓ dX5_count_128 rfl ?_
      refine qa_get hΓ dX5_count_129 fk_X5_19 hZ.lt hZ.o rfl ?_
      refine qa_getN hΓ dX5_count_132 fn_X5_172 hZ.past.lt hZ.past.o rfl ?_
      exact qr_i hR dX5_count_135 ⟨_, rfl, hF0, fun r2 M' h => by
        unfold spCount at h
        rw [if_pos hT] at h
        exact ⟨h.1, CW.sm hX hZ h.2⟩⟩
  · refine qa_tabOut (tgt := 136) hΓ dX5_count_1 (toInt_out hT (by decide) (by decide)) (by decide) ?_
    refine qa_iconst (v := (-1)) hΓ dX5_count_136 ic_m1 ?_
    exact qr_i hR dX5_count_137 ⟨_, rfl, hF0, fun r2 M' h => by
      unfold spCount at h
      rw [if_neg hT] at h
      exact ⟨h.1, CW.sm hX hZ h.2⟩⟩

set_option maxRecDepth 100000 in
set_option maxHeartbeats 4000000 in
theorem c_X5_relay (l : Launch) (d : Nat) (hd : 3 ≤ d) {n : Nat} {w : Nat → AC} {M : Bk} {B : Nat} {b : Bk} {ol : Nat} {p : Nat → Bk} {g : Nat → Nat} {z R q : Nat} {c1 c2 : Bk} (hZ : WX n w b ol (M 5 0) p (M 4) (M 5 1) g z R q c1 c2) (hX : SX M B b ol p) (hBd : B < 800000000) (rl wh : Int32) : Sq l yX5_relay cX5_relay 3 (some .int) d [aR 0, aI rl, aI wh] n w (QC (spRelay M rl wh) (B + 4100) n w) := by
  refine Sp.of (plainFor_of_name (by decide)) (Nat.le_of_ble_eq_true rfl) (fun Γ hΓ hR => ?_)
  show Γ 0 [aR 0, aI rl, aI wh] [] (0, 0) n w
  have hF0 : Fr 0 70 w w := Fr.rf
  obtain ⟨hR0, hS, hC, hW, hp6, hG, hT60, hT256⟩ := id hX
  have h8 := hW.2.1
  refine qa_aload_n hΓ dX5_relay_0 rfl ?_
  refine qa_get hΓ dX5_relay_1 fk_X5_12 hZ.lt hZ.o rfl ?_
  refine qa_iload_n hΓ dX5_relay_4 rfl ?_
  refine qc_V1 hΓ dX5_relay_5 lk_X5_59 vw_X0_has (by omega) (c_X0_has l (d - 1) (by omega) hZ.now _) rfl hZ.now.lt hZ.now.o rfl rfl (Nat.le_of_ble_eq_true rfl) ?_
  rw [hR0.1.1]
  refine qb_if_ne (tgt := 13) hΓ dX5_relay_8 (by decide) (fun h_8 => ?_) (fun h_8 => ?_)
  · obtain ⟨r, hr, rfl⟩ := isR_of (by omega) (of_decide_eq_true h_8)
    have tr : tn (nI r) = r := tn_nI (by omega)
    obtain ⟨a0, a1, a2, a3, a4⟩ := hR0.2.1 r hr
    have e66 := hR0.2.2.1.2.2.2.1
    have hbs : b 6 6 < 65536 := by rw [e66]; exact mk_16' _ h8
    refine qa_iload_n hΓ dX5_relay_13 rfl ?_
    by_cases hT : nI 0 ≤ wh ∧ wh ≤ nI 7
    · obtain ⟨j, hj1, hj2, rfl⟩ := rng (by decide) hT (by decide)
      rcases (show j = 0 ∨ j = 1 ∨ j = 2 ∨ j = 3 ∨ j = 4 ∨ j = 5 ∨ j = 6 ∨ j = 7 by omega) with rfl | rfl | rfl | rfl | rfl | rfl | rfl | rfl
      · refine qa_tabIn (off := 46) (tgt := 60) hΓ dX5_relay_14 (by decide +kernel) (by decide +kernel) (by decide +kernel) (by decide) ?_
        refine qa_aload_n hΓ dX5_relay_60 rfl ?_
        refine qa_get hΓ dX5_relay_61 fk_X5_12 hZ.lt hZ.o rfl ?_
        refine qa_getN hΓ dX5_relay_64 fn_X5_173 hZ.now.lt hZ.now.o rfl ?_
        refine qa_iload_n hΓ dX5_relay_67 rfl ?_
        refine qc_S1 hΓ dX5_relay_68 lk_X5_176 vw_X5_at (by omega) (c_X5_at l (d - 1) (hZ.now.lti (i := 1) (by decide)) hZ.now.a0 _ (by omega) (by decide)) rfl rfl (Nat.le_of_ble_eq_true rfl) ?_
        exact qr_i hR dX5_relay_71 ⟨_, rfl, hF0, fun r2 M' h => by
          unfold spRelay at h
          rw [if_pos ⟨of_decide_eq_true h_8, hT⟩, tr] at h
          exact ⟨h.1.trans (congrArg nI a0.symm), CW.sm hX hZ h.2⟩⟩
      · refine qa_tabIn (off := 58) (tgt := 72) hΓ dX5_relay_14 (by decide +kernel) (by decide +kernel) (by decide +kernel) (by decide) ?_
        refine qa_aload_n hΓ dX5_relay_72 rfl ?_
        refine qa_get hΓ dX5_relay_73 fk_X5_12 hZ.lt hZ.o rfl ?_
        refine qa_getN hΓ dX5_relay_76 fn_X5_180 hZ.now.lt hZ.now.o rfl ?_
        refine qa_iload_n hΓ dX5_relay_79 rfl ?_
        refine qc_S1 hΓ dX5_relay_80 lk_X5_176 vw_X5_at (by omega) (c_X5_at l (d - 1) (hZ.now.lti (i := 2) (by decide)) hZ.now.a1 _ (by omega) (by decide)) rfl rfl (Nat.le_of_ble_eq_true rfl) ?_
        exact qr_i hR dX5_relay_83 ⟨_, rfl, hF0, fun r2 M' h => by
          unfold spRelay at h
          rw [if_pos ⟨of_decide_eq_true h_8, hT⟩, tr] at h
          exact ⟨h.1.trans (congrArg nI a1.symm), CW.sm hX hZ h.2⟩⟩
      · refine qa_tabIn (off := 70) (tgt := 84) hΓ dX5_relay_14 (by decide +kernel) (by decide +kernel) (by decide +kernel) (by decide) ?_
        refine qa_aload_n hΓ dX5_relay_84 rfl ?_
        refine qa_get hΓ dX5_relay_85 fk_X5_12 hZ.lt hZ.o rfl ?_
        refine qa_getN hΓ dX5_relay_88 fn_X5_183 hZ.now.lt hZ.now.o rfl ?_
        refine qa_iload_n hΓ dX5_relay_91 rfl ?_
        refine qc_S1 hΓ dX5_relay_92 lk_X5_176 vw_X5_at (by omega) (c_X5_at l (d - 1) (hZ.now.lti (i := 3) (by decide)) hZ.now.a2 _ (by omega) (by decide)) rfl rfl (Nat.le_of_ble_eq_true rfl) ?_
        exact qr_i hR dX5_relay_95 ⟨_, rfl, hF0, fun r2 M' h => by
          unfold spRelay at h
          rw [if_pos ⟨of_decide_eq_true h_8, hT⟩, tr] at h
          exact ⟨h.1.trans (congrArg nI a2.symm), CW.sm hX hZ h.2⟩⟩
      · refine qa_tabIn (off := 82) (tgt := 96) hΓ dX5_relay_14 (by decide +kernel) (by decide +kernel) (by decide +kernel) (by decide) ?_
        refine qa_aload_n hΓ dX5_relay_96 rfl ?_
        refine qa_get hΓ dX5_relay_97 fk_X5_12 hZ.lt hZ.o rfl ?_
        refine qa_iload_n hΓ dX5_relay_100 rfl ?_
        refine qc_V1 hΓ dX5_relay_101 lk_X5_67 vw_X0_branchesOf (by omega) (c_X0_branchesOf l (d - 1) (by omega) hZ.now r (by omega)) rfl hZ.now.lt hZ.now.o rfl rfl (Nat.le_of_ble_eq_true rfl) ?_
        rw [(hR0.2.1 r hr).2.2.2.1]
        exact qr_i hR dX5_relay_104 ⟨_, rfl, hF0, fun r2 M' h => by
          unfold spRelay at h
          rw [if_pos ⟨of_decide_eq_true h_8, hT⟩, tr] at h
          exact ⟨h.1, CW.sm hX hZ h.2⟩⟩
      · refine qa_tabIn (off := 91) (tgt := 105) hΓ dX5_relay_14 (by decide +kernel) (by decide +kernel) (by decide +kernel) (by decide) ?_
        refine qa_aload_n hΓ dX5_relay_105 rfl ?_
        refine qa_get hΓ dX5_relay_106 fk_X5_12 hZ.lt hZ.o rfl ?_
        refine qa_iload_n hΓ dX5_relay_109 rfl ?_
        refine qc_V1 hΓ dX5_relay_110 lk_X5_117 vw_X0_faultOf (by omega) (c_X0_faultOf l (d - 1) (by omega) hZ.now hR0 hW (by omega) r hr) rfl hZ.now.lt hZ.now.o rfl rfl (Nat.le_of_ble_eq_true rfl) ?_
        exact qr_i hR dX5_relay_113 ⟨_, rfl, hF0, fun r2 M' h => by
          unfold spRelay at h
          rw [if_pos ⟨of_decide_eq_true h_8, hT⟩, tr] at h
          exact ⟨h.1, CW.sm hX hZ h.2⟩⟩
      · refine qa_tabIn (off := 100) (tgt := 114) hΓ dX5_relay_14 (by decide +kernel) (by decide +kernel) (by decide +kernel) (by decide) ?_
        refine qa_aload_n hΓ dX5_relay_114 rfl ?_
        refine qa_get hΓ dX5_relay_115 fk_X5_12 hZ.lt hZ.o rfl ?_
        refine qa_getN hΓ dX5_relay_118 fn_X5_124 hZ.now.lt hZ.now.o rfl ?_
        refine qa_iload_n hΓ dX5_relay_121 rfl ?_
        refine qc_S1 hΓ dX5_relay_122 lk_X5_127 vw_X5_bitOf (by omega) (c_X5_bitOf l (d - 1) _ _ (by omega) (by omega)) rfl rfl (Nat.le_of_ble_eq_true rfl) ?_
        rw [pbit hW hr (by decide) e66]
        exact qr_i hR dX5_relay_125 ⟨_, rfl, hF0, fun r2 M' h => by
          unfold spRelay at h
          rw [if_pos ⟨of_decide_eq_true h_8, hT⟩, tr] at h
          exact ⟨h.1, CW.sm hX hZ h.2⟩⟩
      · refine qa_tabIn (off := 112) (tgt := 126) hΓ dX5_relay_14 (by decide +kernel) (by decide +kernel) (by decide +kernel) (by decide) ?_
        refine qa_aload_n hΓ dX5_relay_126 rfl ?_
        refine qa_get hΓ dX5_relay_127 fk_X5_12 hZ.lt hZ.o rfl ?_
        refine qa_iload_n hΓ dX5_relay_130 rfl ?_
        refine qa_bipush (v := nI 8) hΓ dX5_relay_131 bp_8 ?_
        refine qa_iload_n hΓ dX5_relay_133 rfl ?_
        refine qz_iadd hΓ dX5_relay_134 ?_
        refine qc_V1 hΓ dX5_relay_135 lk_X5_186 vw_X0_concerns (by omega) (c_X0_concerns l (d - 1) (by omega) hZ.now hR0 hW (by omega) r (8 + r) hr (by omega)) rfl hZ.now.lt hZ.now.o rfl rfl (Nat.le_of_ble_eq_true rfl) ?_
        refine qb_if_eq (tgt := 145) hΓ dX5_relay_138 (by decide) (fun h_138 => ?_) (fun h_138 => ?_)
        · refine qa_iconst (v := nI 0) hΓ dX5_relay_145 ic_0 ?_
          exact qr_i hR dX5_relay_146 ⟨_, rfl, hF0, fun r2 M' h => by
            unfold spRelay at h
            rw [if_pos ⟨of_decide_eq_true h_8, hT⟩, tr] at h
            exact ⟨h.1.trans (congrArg nI (by show itB (M 0) r (vv (M 0) r 12) = _; rw [← itB_d, h_138]; rfl)), CW.sm hX hZ h.2⟩⟩
        · refine qa_iconst (v := nI 1) hΓ dX5_relay_141 ic_1 ?_
          refine qa_goto (tgt := 146) hΓ dX5_relay_142 (by decide) ?_
          exact qr_i hR dX5_relay_146 ⟨_, rfl, hF0, fun r2 M' h => by
            unfold spRelay at h
            rw [if_pos ⟨of_decide_eq_true h_8, hT⟩, tr] at h
            exact ⟨h.1.trans (congrArg nI (by show itB (M 0) r (vv (M 0) r 12) = _; rw [← itB_d, h_138]; rfl)), CW.sm hX hZ h.2⟩⟩
      · refine qa_tabIn (off := 133) (tgt := 147) hΓ dX5_relay_14 (by decide +kernel) (by decide +kernel) (by decide +kernel) (by decide) ?_
        refine qa_aload_n hΓ dX5_relay_147 rfl ?_
        refine qa_get hΓ dX5_relay_148 fk_X5_12 hZ.lt hZ.o rfl ?_
        refine qa_iload_n hΓ dX5_relay_151 rfl ?_
        refine qa_aload_n hΓ dX5_relay_152 rfl ?_
        refine qa_get hΓ dX5_relay_153 fk_X5_12 hZ.lt hZ.o rfl ?_
        refine qc_V1 hΓ dX5_relay_156 lk_X5_189 vw_X0_failing (by omega) (c_X0_failing l (d - 1) (by omega) hZ.now hR0 hW (by omega)) rfl hZ.now.lt hZ.now.o rfl rfl (Nat.le_of_ble_eq_true rfl) ?_
        refine qc_V1 hΓ dX5_relay_159 lk_X5_192 vw_X0_conducts (by omega) (c_X0_conducts l (d - 1) (by omega) hZ.now hR0 hW (by omega) r (onS (M 0)) hr (on_lt hW)) rfl hZ.now.lt hZ.now.o rfl rfl (Nat.le_of_ble_eq_true rfl) ?_
        refine qb_if_eq (tgt := 169) hΓ dX5_relay_162 (by decide) (fun h_162 => ?_) (fun h_162 => ?_)
        · refine qa_iconst (v := nI 0) hΓ dX5_relay_169 ic_0 ?_
          exact qr_i hR dX5_relay_170 ⟨_, rfl, hF0, fun r2 M' h => by
            unfold spRelay at h
            rw [if_pos ⟨of_decide_eq_true h_8, hT⟩, tr] at h
            exact ⟨h.1.trans (congrArg nI (by show (cnd (M 0) r (onS (M 0))).toNat = _; rw [h_162]; rfl)), CW.sm hX hZ h.2⟩⟩
        · refine qa_iconst (v := nI 1) hΓ dX5_relay_165 ic_1 ?_
          refine qa_goto (tgt := 170) hΓ dX5_relay_166 (by decide) ?_
          exact qr_i hR dX5_relay_170 ⟨_, rfl, hF0, fun r2 M' h => by
            unfold spRelay at h
            rw [if_pos ⟨of_decide_eq_true h_8, hT⟩, tr] at h
            exact ⟨h.1.trans (congrArg nI (by show (cnd (M 0) r (onS (M 0))).toNat = _; rw [h_162]; rfl)), CW.sm hX hZ h.2⟩⟩
    · refine qa_tabOut (tgt := 171) hΓ dX5_relay_14 (toInt_out hT (by decide) (by decide)) (by decide) ?_
      refine qa_iconst (v := (-1)) hΓ dX5_relay_171 ic_m1 ?_
      exact qr_i hR dX5_relay_172 ⟨_, rfl, hF0, fun r2 M' h => by
        unfold spRelay at h
        rw [if_neg (fun q => hT q.2)] at h
        exact ⟨h.1, CW.sm hX hZ h.2⟩⟩
  · refine qa_iconst (v := (-1)) hΓ dX5_relay_11 ic_m1 ?_
    exact qr_i hR dX5_relay_12 ⟨_, rfl, hF0, fun r2 M' h => by
      unfold spRelay at h
      rw [if_neg (fun q => of_decide_eq_false h_8 q.1)] at h
      exact ⟨h.1, CW.sm hX hZ h.2⟩⟩

set_option maxRecDepth 100000 in
set_option maxHeartbeats 4000000 in
theorem c_X5_condition (l : Launch) (d : Nat) (hd : 3 ≤ d) {n : Nat} {w : Nat → AC} {M : Bk} {B : Nat} {b : Bk} {ol : Nat} {p : Nat → Bk} {g : Nat → Nat} {z R q : Nat} {c1 c2 : Bk} (hZ : WX n w b ol (M 5 0) p (M 4) (M 5 1) g z R q c1 c2) (hX : SX M B b ol p) (hBd : B < 800000000) (rl br su : Int32) : Sq l yX5_condition cX5_condition 4 (some .int) d [aR 0, aI rl, aI br, aI su] n w (QC (spCond M rl br su) (B + 4100) n w) := by
  refine Sp.of (plainFor_of_name (by decide)) (Nat.le_of_ble_eq_true rfl) (fun Γ hΓ hR => ?_)
  show Γ 0 [aR 0, aI rl, aI br, aI su] [] (0, 0) n w
  have hF0 : Fr 0 70 w w := Fr.rf
  obtain ⟨hR0, hS, hC, hW, hp6, hG, hT60, hT256⟩ := id hX
  have h8 := hW.2.1
  refine qa_aload_n hΓ dX5_condition_0 rfl ?_
  refine qa_get hΓ dX5_condition_1 fk_X5_12 hZ.lt hZ.o rfl ?_
  refine qa_iload_n hΓ dX5_condition_4 rfl ?_
  refine qc_V1 hΓ dX5_condition_5 lk_X5_59 vw_X0_has (by omega) (c_X0_has l (d - 1) (by omega) hZ.now _) rfl hZ.now.lt hZ.now.o rfl rfl (Nat.le_of_ble_eq_true rfl) ?_
  rw [hR0.1.1]
  refine qb_if_eq (tgt := 29) hΓ dX5_condition_8 (by decide) (fun h_8 => ?_) (fun h_8 => ?_)
  · refine qa_iconst (v := (-1)) hΓ dX5_condition_29 ic_m1 ?_
    exact qr_i hR dX5_condition_30 ⟨_, rfl, hF0, fun r2 M' h => by
      unfold spCond at h
      
      rw [if_neg (fun q => by first | exact of_decide_eq_false h_8 q.1 | exact of_decide_eq_false h_26 q.2.1 | exact of_decide_eq_false h_38 q.2.2)] at h
      exact ⟨h.1, CW.sm hX hZ h.2⟩⟩
  · obtain ⟨r, hr, rfl⟩ := isR_of (by omega) (of_decide_eq_true h_8)
    have tr : tn (nI r) = r := tn_nI (by omega)
    refine qa_iload_n hΓ dX5_condition_11 rfl ?_
    refine qa_iconst (v := nI 0) hΓ dX5_condition_12 ic_0 ?_
    refine qa_aload_n hΓ dX5_condition_13 rfl ?_
    refine qa_get hΓ dX5_condition_14 fk_X5_12 hZ.lt hZ.o rfl ?_
    refine qa_iload_n hΓ dX5_condition_17 rfl ?_
    refine qc_V1 hΓ dX5_condition_18 lk_X5_67 vw_X0_branchesOf (by omega) (c_X0_branchesOf l (d - 1) (by omega) hZ.now r (by omega)) rfl hZ.now.lt hZ.now.o rfl rfl (Nat.le_of_ble_eq_true rfl) ?_
    rw [(hR0.2.1 r hr).2.2.2.1]
    refine qa_iconst (v := nI 1) hΓ dX5_condition_21 ic_1 ?_
    refine qa_isub hΓ dX5_condition_22 ?_
    refine qc_S1 hΓ dX5_condition_23 lk_X5_71 vw_X5_isWithin (by omega) (c_X5_isWithin l (d - 1) _ _ _) rfl rfl (Nat.le_of_ble_eq_true rfl) ?_
    refine qb_if_ne (tgt := 31) hΓ dX5_condition_26 (by decide) (fun h_26 => ?_) (fun h_26 => ?_)
    · refine qa_iload_n hΓ dX5_condition_31 rfl ?_
      refine qa_iconst (v := nI 0) hΓ dX5_condition_32 ic_0 ?_
      refine qa_bipush (v := nI 15) hΓ dX5_condition_33 bp_15 ?_
      refine qc_S1 hΓ dX5_condition_35 lk_X5_71 vw_X5_isWithin (by omega) (c_X5_isWithin l (d - 1) _ _ _) rfl rfl (Nat.le_of_ble_eq_true rfl) ?_
      refine qb_if_ne (tgt := 43) hΓ dX5_condition_38 (by decide) (fun h_38 => ?_) (fun h_38 => ?_)
      · have hm6 := hW.m6 hr
        obtain ⟨j, hj, rfl⟩ := isR_of (by omega) (of_decide_eq_true h_26)
        obtain ⟨x, hx1, hx2, rfl⟩ := rng (by decide) (of_decide_eq_true h_38) (by decide)
        have e4 := (hR0.2.1 r hr).2.2.2.2 j hj
        have hgl : b 4 (r * 6 + j) < 4294967296 := by rw [e4]; exact cmb_lt (hW.m16 hr (by omega) (by omega)) (hW.m16 hr (by omega) (by omega))
        refine qa_aload_n hΓ dX5_condition_43 rfl ?_
        refine qa_get hΓ dX5_condition_44 fk_X5_12 hZ.lt hZ.o rfl ?_
        refine qa_iload_n hΓ dX5_condition_47 rfl ?_
        refine qa_iload_n hΓ dX5_condition_48 rfl ?_
        refine qc_V1 hΓ dX5_condition_49 lk_X5_195 vw_X0_branchAt (by omega) (c_X0_branchAt l (d - 1) (by omega) hZ.now r j (by omega) (by omega)) rfl hZ.now.lt hZ.now.o rfl rfl (Nat.le_of_ble_eq_true rfl) ?_
        refine qa_iload_n hΓ dX5_condition_52 rfl ?_
        refine qc_S1 hΓ dX5_condition_53 lk_X5_198 vw_X1_howOf (by omega) (c_X1_howOf l (d - 1) (by omega) _ x hgl (by omega)) rfl rfl (Nat.le_of_ble_eq_true rfl) ?_
        rw [e4, how_cmb hW hr (by omega)]
        exact qr_i hR dX5_condition_56 ⟨_, rfl, hF0, fun r2 M' h => by
          unfold spCond at h
          rw [tr, if_pos ⟨of_decide_eq_true h_8, of_decide_eq_true h_26, of_decide_eq_true h_38⟩, tn_nI (by omega), tn_nI (by omega)] at h
          exact ⟨h.1, CW.sm hX hZ h.2⟩⟩
      · refine qa_iconst (v := (-1)) hΓ dX5_condition_41 ic_m1 ?_
        exact qr_i hR dX5_condition_42 ⟨_, rfl, hF0, fun r2 M' h => by
          unfold spCond at h
          rw [tr] at h
          rw [if_neg (fun q => by first | exact of_decide_eq_false h_8 q.1 | exact of_decide_eq_false h_26 q.2.1 | exact of_decide_eq_false h_38 q.2.2)] at h
          exact ⟨h.1, CW.sm hX hZ h.2⟩⟩
    · refine qa_iconst (v := (-1)) hΓ dX5_condition_29 ic_m1 ?_
      exact qr_i hR dX5_condition_30 ⟨_, rfl, hF0, fun r2 M' h => by
        unfold spCond at h
        rw [tr] at h
        rw [if_neg (fun q => by first | exact of_decide_eq_false h_8 q.1 | exact of_decide_eq_false h_26 q.2.1 | exact of_decide_eq_false h_38 q.2.2)] at h
        exact ⟨h.1, CW.sm hX hZ h.2⟩⟩
