/-! The class: keys, faults, delays, a new relay -/
theorem RepC.gen {s s' : Nat → Nat} {b b' : Bk} (h : RepC s b) (h6 : ∀ q, q < s 1 → vv s q 12 ≤ 6) (h1 : s' 1 = s 1) (a0 : b' 6 0 = b 6 0) (a1 : b' 6 1 = s' 2) (a2 : b' 6 2 = s' 0) (ri : ∀ q, q < s 1 → b' 0 q = vv s' q 0 ∧ b' 1 q = vv s' q 1 ∧ b' 2 q = vv s' q 2) (hb : ∀ i, i = 3 ∨ i = 4 ∨ i = 5 → b' i = b i) (hc : ∀ q x, x < 25 → (x = 3 ∨ x = 4 ∨ x = 5 ∨ 8 ≤ x) → vv s' q x = vv s q x) (m3 : ∀ j, j = 3 ∨ j = 4 ∨ j = 5 → b' 6 j = b 6 j) (m6 : b' 6 6 = mk (pM s' 7 1) (s 1)) (m7 : b' 6 7 = mk (pM s' 6 1) (s 1)) (m8 : b' 6 8 = mk (pM s' 6 2) (s 1)) : RepC s' b' := by
  obtain ⟨⟨g1, g2, g3⟩, g4, ⟨e3, e4, e5, e6, e7, e8⟩, gd, gz⟩ := h
  have pe : ∀ x v, x = 3 ∨ x = 4 ∨ x = 5 → pM s' x v = pM s x v := fun x v hx => by
    funext q
    unfold pM
    rw [hc q x (by omega) (by omega)]
  refine ⟨⟨a0.trans (g1.trans h1.symm), a1, a2⟩, fun q hq => ?_, ⟨?_, ?_, ?_, ?_, ?_, ?_⟩, fun q hq => ?_, fun q hq1 hq2 => ?_⟩
  · rw [h1] at hq
    obtain ⟨k1, k2, k3, k4, k5⟩ := g4 q hq
    obtain ⟨r1, r2, r3⟩ := ri q hq
    have := h6 q hq
    refine ⟨r1, r2, r3, ?_, fun j hj => ?_⟩
    · rw [hb 3 (by omega), hc q 12 (by omega) (by omega)]; exact k4
    · rw [hc q 12 (by omega) (by omega)] at hj
      rw [hb 4 (by omega), hc q _ (by omega) (by omega), hc q _ (by omega) (by omega)]
      exact k5 j hj
  · rw [m3 3 (by omega), h1, pe 4 1 (by omega)]; exact e3
  · rw [m3 4 (by omega), h1, pe 3 1 (by omega)]; exact e4
  · rw [m3 5 (by omega), h1, pe 5 1 (by omega)]; exact e5
  · rw [h1]; exact m6
  · rw [h1]; exact m7
  · rw [h1]; exact m8
  · rw [h1] at hq
    obtain ⟨d1, d2⟩ := gd q hq
    rw [hb 5 (by omega), d1, d2]
    unfold duA duE
    rw [hc q 8 (by omega) (by omega), hc q 9 (by omega) (by omega), hc q 10 (by omega) (by omega), hc q 11 (by omega) (by omega)]
    exact ⟨rfl, rfl⟩
  · rw [h1] at hq1
    rw [hb 3 (by omega), hb 5 (by omega)]
    exact gz q hq1 hq2
theorem SeC.gen {s s' : Nat → Nat} (h : SeC s) (h1 : s' 1 = s 1) (hc : ∀ q x, x < 25 → (x = 3 ∨ x = 4 ∨ x = 5 ∨ 8 ≤ x) → vv s' q x = vv s q x) : SeC s' := by
  intro q hq
  rw [h1] at hq
  rw [hc q 8 (by omega) (by omega), hc q 4 (by omega) (by omega), hc q 3 (by omega) (by omega), hc q 5 (by omega) (by omega), hc q 10 (by omega) (by omega)]
  exact h q hq
theorem mkE {s s' : Nat → Nat} {x v : Nat} (h : ∀ q, vv s' q x = vv s q x) : mk (pM s' x v) (s 1) = mk (pM s x v) (s 1) := mk_congr (fun q _ => by unfold pM; rw [h q])
theorem RepC.key {s : Nat → Nat} {b : Bk} {B v : Nat} (h : RepC s b) (hW : Wt s B) : RepC (upN s 0 v) (bset b 6 2 v) := by
  have hv : ∀ q x, vv (upN s 0 v) q x = vv s q x := fun q x => vv_hd s 0 v q x (by decide)
  have b6 : ∀ j, j ≠ 2 → bset b 6 2 v 6 j = b 6 j := fun j hj => by rw [bset_eq, upN_ne _ _ _ hj]
  have bi : ∀ i, i < 6 → bset b 6 2 v i = b i := fun i hi => bset_ne _ _ _ (by omega)
  refine h.gen (fun q hq => hW.m6 hq) (upN_ne _ _ _ (by decide)) (b6 0 (by decide)) ?_ (by rw [bset_eq, upN_self, upN_self]) (fun q hq => ?_) (fun i hi => bi i (by omega)) (fun q x _ _ => hv q x) (fun j hj => b6 j (by omega)) ?_ ?_ ?_
  · rw [b6 1 (by decide), upN_ne _ _ _ (by decide)]; exact h.1.2.1
  · obtain ⟨k1, k2, k3, _⟩ := h.2.1 q hq
    rw [bi 0 (by decide), bi 1 (by decide), bi 2 (by decide), hv, hv, hv]
    exact ⟨k1, k2, k3⟩
  · rw [b6 6 (by decide), mkE (fun q => hv q 7)]; exact h.2.2.1.2.2.2.1
  · rw [b6 7 (by decide), mkE (fun q => hv q 6)]; exact h.2.2.1.2.2.2.2.1
  · rw [b6 8 (by decide), mkE (fun q => hv q 6)]; exact h.2.2.1.2.2.2.2.2
theorem RepC.time {s : Nat → Nat} {b : Bk} {B v : Nat} (h : RepC s b) (hW : Wt s B) : RepC (upN s 2 v) (bset b 6 1 v) := by
  have hv : ∀ q x, vv (upN s 2 v) q x = vv s q x := fun q x => vv_hd s 2 v q x (by decide)
  have b6 : ∀ j, j ≠ 1 → bset b 6 1 v 6 j = b 6 j := fun j hj => by rw [bset_eq, upN_ne _ _ _ hj]
  have bi : ∀ i, i < 6 → bset b 6 1 v i = b i := fun i hi => bset_ne _ _ _ (by omega)
  refine h.gen (fun q hq => hW.m6 hq) (upN_ne _ _ _ (by decide)) (b6 0 (by decide)) (by rw [bset_eq, upN_self, upN_self]) ?_ (fun q hq => ?_) (fun i hi => bi i (by omega)) (fun q x _ _ => hv q x) (fun j hj => b6 j (by omega)) ?_ ?_ ?_
  · rw [b6 2 (by decide), upN_ne _ _ _ (by decide)]; exact h.1.2.2
  · obtain ⟨k1, k2, k3, _⟩ := h.2.1 q hq
    rw [bi 0 (by decide), bi 1 (by decide), bi 2 (by decide), hv, hv, hv]
    exact ⟨k1, k2, k3⟩
  · rw [b6 6 (by decide), mkE (fun q => hv q 7)]; exact h.2.2.1.2.2.2.1
  · rw [b6 7 (by decide), mkE (fun q => hv q 6)]; exact h.2.2.1.2.2.2.2.1
  · rw [b6 8 (by decide), mkE (fun q => hv q 6)]; exact h.2.2.1.2.2.2.2.2
theorem RepC.stk {s : Nat → Nat} {b : Bk} {B r v x : Nat} (h : RepC s b) (hW : Wt s B) (hx : x = mk (pM (upN s (ix r 7) v) 7 1) (s 1)) : RepC (upN s (ix r 7) v) (bset b 6 6 x) := by
  have hv : ∀ q y, y < 25 → y ≠ 7 → vv (upN s (ix r 7) v) q y = vv s q y := fun q y hy hc => vv_oth _ _ _ _ _ _ (by decide) hy (Or.inr hc)
  have b6 : ∀ j, j ≠ 6 → bset b 6 6 x 6 j = b 6 j := fun j hj => by rw [bset_eq, upN_ne _ _ _ hj]
  have bi : ∀ i, i < 6 → bset b 6 6 x i = b i := fun i hi => bset_ne _ _ _ (by omega)
  refine h.gen (fun q hq => hW.m6 hq) (hd_up _ _ _ _ (by decide)) (b6 0 (by decide)) ?_ ?_ (fun q hq => ?_) (fun i hi => bi i (by omega)) (fun q y hy hc => hv q y hy (by omega)) (fun j hj => b6 j (by omega)) (by rw [bset_eq, upN_self]; exact hx) ?_ ?_
  · rw [b6 1 (by decide), hd_up _ _ _ _ (by decide)]; exact h.1.2.1
  · rw [b6 2 (by decide), hd_up _ _ _ _ (by decide)]; exact h.1.2.2
  · obtain ⟨k1, k2, k3, _⟩ := h.2.1 q hq
    rw [bi 0 (by decide), bi 1 (by decide), bi 2 (by decide), hv q 0 (by decide) (by decide), hv q 1 (by decide) (by decide), hv q 2 (by decide) (by decide)]
    exact ⟨k1, k2, k3⟩
  · rw [b6 7 (by decide), mkE (fun q => hv q 6 (by decide) (by decide))]; exact h.2.2.1.2.2.2.2.1
  · rw [b6 8 (by decide), mkE (fun q => hv q 6 (by decide) (by decide))]; exact h.2.2.1.2.2.2.2.2
theorem RepC.flt {s : Nat → Nat} {b : Bk} {B r v x y : Nat} (h : RepC s b) (hW : Wt s B) (hx : x = mk (pM (upN s (ix r 6) v) 6 1) (s 1)) (hy : y = mk (pM (upN s (ix r 6) v) 6 2) (s 1)) : RepC (upN s (ix r 6) v) (bset (bset b 6 7 x) 6 8 y) := by
  have hv : ∀ q y, y < 25 → y ≠ 6 → vv (upN s (ix r 6) v) q y = vv s q y := fun q y hy hc => vv_oth _ _ _ _ _ _ (by decide) hy (Or.inr hc)
  have b6 : ∀ j, j ≠ 7 → j ≠ 8 → bset (bset b 6 7 x) 6 8 y 6 j = b 6 j := fun j hj hj2 => by rw [bset_eq, upN_ne _ _ _ hj2, bset_eq, upN_ne _ _ _ hj]
  have bi : ∀ i, i < 6 → bset (bset b 6 7 x) 6 8 y i = b i := fun i hi => by rw [bset_ne _ _ _ (by omega), bset_ne _ _ _ (by omega)]
  refine h.gen (fun q hq => hW.m6 hq) (hd_up _ _ _ _ (by decide)) (b6 0 (by decide) (by decide)) ?_ ?_ (fun q hq => ?_) (fun i hi => bi i (by omega)) (fun q y hy hc => hv q y hy (by omega)) (fun j hj => b6 j (by omega) (by omega)) ?_ (by rw [bset_eq, upN_ne _ _ _ (by decide), bset_eq, upN_self]; exact hx) (by rw [bset_eq, upN_self]; exact hy)
  · rw [b6 1 (by decide) (by decide), hd_up _ _ _ _ (by decide)]; exact h.1.2.1
  · rw [b6 2 (by decide) (by decide), hd_up _ _ _ _ (by decide)]; exact h.1.2.2
  · obtain ⟨k1, k2, k3, _⟩ := h.2.1 q hq
    rw [bi 0 (by decide), bi 1 (by decide), bi 2 (by decide), hv q 0 (by decide) (by decide), hv q 1 (by decide) (by decide), hv q 2 (by decide) (by decide)]
    exact ⟨k1, k2, k3⟩
  · rw [b6 6 (by decide) (by decide), mkE (fun q => hv q 7 (by decide) (by decide))]; exact h.2.2.1.2.2.2.1
theorem SeC.col {s : Nat → Nat} {r x v : Nat} (h : SeC s) (hx : x < 25) (hc : x = 0 ∨ x = 1 ∨ x = 2 ∨ x = 6 ∨ x = 7) : SeC (upN s (ix r x) v) := h.gen (hd_up _ _ _ _ (by decide)) (fun q y hy h2 => vv_oth _ _ _ _ _ _ hx hy (Or.inr (by omega)))
theorem SeC.head {s : Nat → Nat} {j v : Nat} (h : SeC s) (hj : j = 0 ∨ j = 2) : SeC (upN s j v) := h.gen (upN_ne _ _ _ (by omega)) (fun q y hy h2 => vv_hd _ _ _ _ _ (by omega))
theorem Wt.key {s : Nat → Nat} {B v : Nat} (h : Wt s B) (hv : v < 256) : Wt (upN s 0 v) B := by
  refine ⟨by rw [upN_self]; exact hv, by rw [upN_ne _ _ _ (by decide)]; exact h.2.1, by rw [upN_ne _ _ _ (by decide)]; exact h.2.2.1, fun r hr x hx => ?_⟩
  rw [upN_ne _ _ _ (by decide)] at hr
  rw [vv_hd _ _ _ _ _ (by decide)]
  exact h.2.2.2 r hr x hx
set_option maxRecDepth 100000 in
set_option maxHeartbeats 4000000 in
theorem c_X0_turnKey (l : Launch) (d : Nat) (hd : 3 ≤ d) {n kb : Nat} {w : Nat → AC} {b : Bk} (hB : BkAt n w kb b) {s : Nat → Nat} (hR0 : RepC s b) {B : Nat} (hW : Wt s B) (hBd : B < 900000000) (hS : SeC s) (key : Nat) (hk : key < 8) : Sq l yX0_turnKey cX0_turnKey 2 (some .int) d [aR kb, aZ key] n w (Qv (aZ (lks (prS s key)).1) (PR n kb (lks (prS s key)).2 w)) := by
  refine Sp.of (plainFor_of_name (by decide)) (Nat.le_of_ble_eq_true rfl) (fun Γ hΓ hR => ?_)
  show Γ 0 [aR kb, aZ key] [] (0, 0) n w
  have hF0 : Fr kb 7 w w := Fr.rf
  have h8 := hW.2.1
  have hk2 : s 0 ^^^ 1 <<< key < 256 := Nat.xor_lt_two_pow (n := 8) hW.1 (by rw [Nat.one_shiftLeft]; exact Nat.pow_lt_pow_right (by decide) hk)
  refine qa_aload_n hΓ dX0_turnKey_0 rfl ?_
  refine qa_dup hΓ dX0_turnKey_1 ?_
  refine qa_get hΓ dX0_turnKey_2 fk_X0_44 hB.lt hB.o rfl ?_
  rw [hR0.1.2.2]
  refine qa_iconst (v := nI 1) hΓ dX0_turnKey_5 ic_1 ?_
  refine qa_iload_n hΓ dX0_turnKey_6 rfl ?_
  refine qz_ishl hΓ dX0_turnKey_7 (by omega) ?_
  refine qz_ixor hΓ dX0_turnKey_8 ?_
  refine qB_put hΓ 2 dX0_turnKey_9 fk_X0_44 (by decide) hB (fun w hB hF => ?_)
  have hF0 := hF0.tr hF
  refine qa_aload_n hΓ dX0_turnKey_12 rfl ?_
  refine qc_V1q hΓ dX0_turnKey_13 lk_X0_99 vw_X0_lookAtCoils (by omega) (c_X0_lookAtCoils l (d - 1) (by omega) hB (hR0.key hW) (hW.key hk2) hBd (hS.head (Or.inl rfl))) rfl hB.lt hB.o rfl rfl (Nat.le_of_ble_eq_true rfl) (fun w hq => ?_)
  obtain ⟨b', hB, hF, hR2, hS2⟩ := hq
  have hF0 := hF0.tr hF
  exact qr_i hR dX0_turnKey_16 ⟨rfl, _, hB, hF0, hR2, hS2⟩

set_option maxRecDepth 100000 in
set_option maxHeartbeats 4000000 in
theorem c_X0_putFault (l : Launch) (d : Nat) (hd : 3 ≤ d) {n kb : Nat} {w : Nat → AC} {b : Bk} (hB : BkAt n w kb b) {s : Nat → Nat} (hR0 : RepC s b) {B : Nat} (hW : Wt s B) (hBd : B < 900000000) (hS : SeC s) (r f : Nat) (hr : r < s 1) (hf : f ≤ 2) : Sq l yX0_putFault cX0_putFault 4 none d [aR kb, aZ r, aZ f] n w (Qn (PR n kb (lks (upN s (ix r 6) f)).2 w)) := by
  refine Sp.of (plainFor_of_name (by decide)) (Nat.le_of_ble_eq_true rfl) (fun Γ hΓ hR => ?_)
  show Γ 0 [aR kb, aZ r, aZ f, none] [] (0, 0) n w
  have hF0 : Fr kb 7 w w := Fr.rf
  have h8 := hW.2.1
  obtain ⟨e3, e4, e5, e6, e7, e8⟩ := hR0.2.2.1
  have hp : ∀ q, vv (upN s (ix r 6) f) q 6 = if q = r then f else vv s q 6 := fun q => by
    rw [vv_up _ _ _ _ _ _ (by decide) (by decide)]
    by_cases e : q = r
    · rw [if_pos e, if_pos ⟨e, rfl⟩]
    · rw [if_neg e, if_neg (fun q1 => e q1.1)]
  have ho : ∀ v, f = v → mk (pM s 6 v) (s 1) ||| 1 <<< r = mk (pM (upN s (ix r 6) f) 6 v) (s 1) := fun v hv => mk_or hr (fun i hi => by
    unfold pM
    rw [hp i]
    by_cases e : i = r
    · rw [if_pos e, if_pos e, hv]; exact decide_eq_true rfl
    · rw [if_neg e, if_neg e])
  have hcl : ∀ v, f ≠ v → _root_.Jvm.Pilot.@@N@@.andn (mk (pM s 6 v) (s 1)) (1 <<< r) = mk (pM (upN s (ix r 6) f) 6 v) (s 1) := fun v hv => mk_clr h8 (fun i hi => by
    unfold pM
    rw [hp i]
    by_cases e : i = r
    · rw [if_pos e, if_pos e]; exact decide_eq_false hv
    · rw [if_neg e, if_neg e])
  refine qa_iconst (v := nI 1) hΓ dX0_putFault_0 ic_1 ?_
  refine qa_iload_n hΓ dX0_putFault_1 rfl ?_
  refine qz_ishl hΓ dX0_putFault_2 (by omega) ?_
  refine qa_istore_n hΓ dX0_putFault_3 (by decide) ?_
  refine qa_aload_n hΓ dX0_putFault_4 rfl ?_
  refine qa_iload_n hΓ dX0_putFault_5 rfl ?_
  refine qa_iconst (v := nI 1) hΓ dX0_putFault_6 ic_1 ?_
  refine qz_icmp_ne (tgt := 19) hΓ dX0_putFault_7 (by decide) (by omega) (by omega) (fun h_7 => ?_) (fun h_7 => ?_)
  · refine qa_aload_n hΓ dX0_putFault_19 rfl ?_
    refine qa_get hΓ dX0_putFault_20 fk_X0_59 hB.lt hB.o rfl ?_
    refine qa_iload_n hΓ dX0_putFault_23 rfl ?_
    refine qa_iconst (v := -1) hΓ dX0_putFault_24 ic_m1 ?_
    refine qa_ixor hΓ dX0_putFault_25 ?_
    refine qa_iand hΓ dX0_putFault_26 ?_
    rw [andn_int (by have := pm_lt hW e7; omega)]
    refine qB_put hΓ 7 dX0_putFault_27 fk_X0_59 (by decide) hB (fun w hB hF => ?_)
    have hF0 := hF0.tr hF
    refine qa_aload_n hΓ dX0_putFault_30 rfl ?_
    refine qa_iload_n hΓ dX0_putFault_31 rfl ?_
    refine qa_iconst (v := nI 2) hΓ dX0_putFault_32 ic_2 ?_
    refine qz_icmp_ne (tgt := 45) hΓ dX0_putFault_33 (by decide) (by omega) (by omega) (fun h_33 => ?_) (fun h_33 => ?_)
    · refine qa_aload_n hΓ dX0_putFault_45 rfl ?_
      refine qa_get hΓ dX0_putFault_46 fk_X0_62 hB.lt hB.o rfl ?_
      rw [show ∀ x, bset b 6 7 x 6 8 = b 6 8 from fun x => by rw [bset_eq, upN_ne _ _ _ (by decide)]]
      refine qa_iload_n hΓ dX0_putFault_49 rfl ?_
      refine qa_iconst (v := -1) hΓ dX0_putFault_50 ic_m1 ?_
      refine qa_ixor hΓ dX0_putFault_51 ?_
      refine qa_iand hΓ dX0_putFault_52 ?_
      rw [andn_int (by have := pm_lt hW e8; omega)]
      refine qB_put hΓ 8 dX0_putFault_53 fk_X0_62 (by decide) hB (fun w hB hF => ?_)
      have hF0 := hF0.tr hF
      refine qa_aload_n hΓ dX0_putFault_56 rfl ?_
      refine qc_V1q hΓ dX0_putFault_57 lk_X0_99 vw_X0_lookAtCoils (by omega) (c_X0_lookAtCoils l (d - 1) (by omega) hB (hR0.flt (r := r) (v := f) hW (by rw [e7]; exact hcl 1 h_7) (by rw [e8]; exact hcl 2 h_33)) (hW.up (by decide) (by simp [bdF]; omega)) hBd (hS.col (by decide) (by omega))) rfl hB.lt hB.o rfl rfl (Nat.le_of_ble_eq_true rfl) (fun w hq => ?_)
      obtain ⟨b', hB, hF, hR2, hS2⟩ := hq
      have hF0 := hF0.tr hF
      refine qa_pop hΓ dX0_putFault_60 ?_
      exact qr_v hR dX0_putFault_61 ⟨rfl, _, hB, hF0, hR2, hS2⟩
    · refine qa_aload_n hΓ dX0_putFault_36 rfl ?_
      refine qa_get hΓ dX0_putFault_37 fk_X0_62 hB.lt hB.o rfl ?_
      rw [show ∀ x, bset b 6 7 x 6 8 = b 6 8 from fun x => by rw [bset_eq, upN_ne _ _ _ (by decide)]]
      refine qa_iload_n hΓ dX0_putFault_40 rfl ?_
      refine qz_ior hΓ dX0_putFault_41 ?_
      refine qa_goto (tgt := 53) hΓ dX0_putFault_42 (by decide) ?_
      refine qB_put hΓ 8 dX0_putFault_53 fk_X0_62 (by decide) hB (fun w hB hF => ?_)
      have hF0 := hF0.tr hF
      refine qa_aload_n hΓ dX0_putFault_56 rfl ?_
      refine qc_V1q hΓ dX0_putFault_57 lk_X0_99 vw_X0_lookAtCoils (by omega) (c_X0_lookAtCoils l (d - 1) (by omega) hB (hR0.flt (r := r) (v := f) hW (by rw [e7]; exact hcl 1 h_7) (by rw [e8]; exact ho 2 h_33)) (hW.up (by decide) (by simp [bdF]; omega)) hBd (hS.col (by decide) (by omega))) rfl hB.lt hB.o rfl rfl (Nat.le_of_ble_eq_true rfl) (fun w hq => ?_)
      obtain ⟨b', hB, hF, hR2, hS2⟩ := hq
      have hF0 := hF0.tr hF
      refine qa_pop hΓ dX0_putFault_60 ?_
      exact qr_v hR dX0_putFault_61 ⟨rfl, _, hB, hF0, hR2, hS2⟩
  · refine qa_aload_n hΓ dX0_putFault_10 rfl ?_
    refine qa_get hΓ dX0_putFault_11 fk_X0_59 hB.lt hB.o rfl ?_
    refine qa_iload_n hΓ dX0_putFault_14 rfl ?_
    refine qz_ior hΓ dX0_putFault_15 ?_
    refine qa_goto (tgt := 27) hΓ dX0_putFault_16 (by decide) ?_
    refine qB_put hΓ 7 dX0_putFault_27 fk_X0_59 (by decide) hB (fun w hB hF => ?_)
    have hF0 := hF0.tr hF
    refine qa_aload_n hΓ dX0_putFault_30 rfl ?_
    refine qa_iload_n hΓ dX0_putFault_31 rfl ?_
    refine qa_iconst (v := nI 2) hΓ dX0_putFault_32 ic_2 ?_
    refine qz_icmp_ne (tgt := 45) hΓ dX0_putFault_33 (by decide) (by omega) (by omega) (fun h_33 => ?_) (fun h_33 => ?_)
    · refine qa_aload_n hΓ dX0_putFault_45 rfl ?_
      refine qa_get hΓ dX0_putFault_46 fk_X0_62 hB.lt hB.o rfl ?_
      rw [show ∀ x, bset b 6 7 x 6 8 = b 6 8 from fun x => by rw [bset_eq, upN_ne _ _ _ (by decide)]]
      refine qa_iload_n hΓ dX0_putFault_49 rfl ?_
      refine qa_iconst (v := -1) hΓ dX0_putFault_50 ic_m1 ?_
      refine qa_ixor hΓ dX0_putFault_51 ?_
      refine qa_iand hΓ dX0_putFault_52 ?_
      rw [andn_int (by have := pm_lt hW e8; omega)]
      refine qB_put hΓ 8 dX0_putFault_53 fk_X0_62 (by decide) hB (fun w hB hF => ?_)
      have hF0 := hF0.tr hF
      refine qa_aload_n hΓ dX0_putFault_56 rfl ?_
      refine qc_V1q hΓ dX0_putFault_57 lk_X0_99 vw_X0_lookAtCoils (by omega) (c_X0_lookAtCoils l (d - 1) (by omega) hB (hR0.flt (r := r) (v := f) hW (by rw [e7]; exact ho 1 h_7) (by rw [e8]; exact hcl 2 h_33)) (hW.up (by decide) (by simp [bdF]; omega)) hBd (hS.col (by decide) (by omega))) rfl hB.lt hB.o rfl rfl (Nat.le_of_ble_eq_true rfl) (fun w hq => ?_)
      obtain ⟨b', hB, hF, hR2, hS2⟩ := hq
      have hF0 := hF0.tr hF
      refine qa_pop hΓ dX0_putFault_60 ?_
      exact qr_v hR dX0_putFault_61 ⟨rfl, _, hB, hF0, hR2, hS2⟩
    · refine qa_aload_n hΓ dX0_putFault_36 rfl ?_
      refine qa_get hΓ dX0_putFault_37 fk_X0_62 hB.lt hB.o rfl ?_
      rw [show ∀ x, bset b 6 7 x 6 8 = b 6 8 from fun x => by rw [bset_eq, upN_ne _ _ _ (by decide)]]
      refine qa_iload_n hΓ dX0_putFault_40 rfl ?_
      refine qz_ior hΓ dX0_putFault_41 ?_
      refine qa_goto (tgt := 53) hΓ dX0_putFault_42 (by decide) ?_
      refine qB_put hΓ 8 dX0_putFault_53 fk_X0_62 (by decide) hB (fun w hB hF => ?_)
      have hF0 := hF0.tr hF
      refine qa_aload_n hΓ dX0_putFault_56 rfl ?_
      refine qc_V1q hΓ dX0_putFault_57 lk_X0_99 vw_X0_lookAtCoils (by omega) (c_X0_lookAtCoils l (d - 1) (by omega) hB (hR0.flt (r := r) (v := f) hW (by rw [e7]; exact ho 1 h_7) (by rw [e8]; exact ho 2 h_33)) (hW.up (by decide) (by simp [bdF]; omega)) hBd (hS.col (by decide) (by omega))) rfl hB.lt hB.o rfl rfl (Nat.le_of_ble_eq_true rfl) (fun w hq => ?_)
      obtain ⟨b', hB, hF, hR2, hS2⟩ := hq
      have hF0 := hF0.tr hF
      refine qa_pop hΓ dX0_putFault_60 ?_
      exact qr_v hR dX0_putFault_61 ⟨rfl, _, hB, hF0, hR2, hS2⟩
