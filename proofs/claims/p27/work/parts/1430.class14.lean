/-! The class: events told -/
def ebT (b : Bk) (q i : Nat) : Nat := if b 5 i < b 5 q ∨ (b 5 i = b 5 q ∧ i < q) then 1 else 0
def ebC (b : Bk) (q : Nat) : Nat → Nat
  | 0 => 0
  | i + 1 => ebC b q i + ebT b q i
theorem ebT_le (b : Bk) (q i : Nat) : ebT b q i ≤ 1 := by
  unfold ebT
  split <;> omega
theorem ebC_le (b : Bk) (q : Nat) : ∀ i, ebC b q i ≤ i
  | 0 => Nat.le_refl _
  | i + 1 => by
    have := ebC_le b q i
    have := ebT_le b q i
    unfold ebC
    omega
def saC (b : Bk) (v : Int32) : Nat → Option Nat
  | 0 => none
  | i + 1 => match saC b v i with
    | some q => some q
    | none => if ¬ b 5 i = NV ∧ nI (ebC b i 16) = v then some i else none
def nIo : Option Nat → Int32
  | none => -1
  | some q => nI q
theorem saC_some {b : Bk} {v : Int32} {q : Nat} : ∀ {m m'}, m ≤ m' → saC b v m = some q → saC b v m' = some q
  | m, 0, h, he => by
    have : m = 0 := by omega
    subst this
    exact he
  | m, m' + 1, h, he => by
    rcases Nat.lt_or_ge m (m' + 1) with u | u
    · have h1 := saC_some (m := m) (m' := m') (by omega) he
      show (match saC b v m' with | some q => some q | none => _) = _
      rw [h1]
    · have : m = m' + 1 := by omega
      subst this
      exact he
def ahT (s : Nat → Nat) (e m : Nat) : Nat := if wtB s m && ahB s m e false then 1 else 0
theorem ahT_eq {s : Nat → Nat} {e m : Nat} (h : wtB s m = true) : ahT s e m = if tmO s m < tmO s e ∨ (tmO s m = tmO s e ∧ m < e) then 1 else 0 := by
  unfold ahT ahB
  rw [h, Bool.true_and]
  by_cases h1 : tmO s m = tmO s e
  · rw [if_pos h1]
    by_cases h4 : m / 4 = e / 4
    · rw [if_pos h4]
      by_cases h5 : m < e
      · rw [decide_eq_true h5, if_pos rfl, if_pos (Or.inr ⟨h1, h5⟩)]
      · rw [decide_eq_false h5, if_neg (by decide), if_neg (by omega)]
    · rw [if_neg h4]
      simp only [Bool.false_eq_true, if_false]
      by_cases h5 : m < e
      · rw [decide_eq_true h5, if_pos rfl, if_pos (Or.inr ⟨h1, h5⟩)]
      · rw [decide_eq_false h5, if_neg (by decide), if_neg (by omega)]
  · rw [if_neg h1]
    by_cases h5 : tmO s m < tmO s e
    · rw [decide_eq_true h5, if_pos rfl, if_pos (Or.inl h5)]
    · rw [decide_eq_false h5, if_neg (by decide), if_neg (by omega)]
theorem ahT_z {s : Nat → Nat} {e m : Nat} (h : wtB s m = false) : ahT s e m = 0 := by
  unfold ahT
  rw [h]
  rfl
/-- the armature's slot counts as its two events do, the other slot as the third -/
theorem ebA {s : Nat → Nat} {b : Bk} {B r e : Nat} (h : RepC s b) (hW : Wt s B) (hB : B < 900000000) (hr : r < s 1) (he : e < 4 * s 1) (he3 : e % 4 < 3) (hw : wtB s e = true) : ebT b (slE e) (2 * r) = ahT s e (4 * r) + ahT s e (4 * r + 1) ∧ ebT b (slE e) (2 * r + 1) = ahT s e (4 * r + 2) ∧ ahT s e (4 * r + 3) = 0 := by
  have hNV : NV = 2147483647 := rfl
  obtain ⟨d1, d2⟩ := h.2.2.2.1 r hr
  have dt := du_e h he he3 hw
  have ht := hW.tm he
  have hsl : slE e = 2 * (e / 4) + (if e % 4 = 2 then 1 else 0) := rfl
  have c8 := hW.c2 hr (x := 8) (by omega)
  have huniq : e / 4 = r → e % 4 ≠ 2 → e = 4 * r + (vv s r 8 - 1) := fun h1 h2 => by
    rcases slA hW hB hr with ⟨_, q⟩ | ⟨_, _, _, _, q⟩
    · rw [q e ⟨h1, h2⟩] at hw; cases hw
    · exact q e ⟨h1, h2⟩ hw
  refine ⟨?_, ?_, ahT_z ?_⟩
  · rcases slA hW hB hr with ⟨q1, q2⟩ | ⟨w1, w2, w3, w4, w5⟩
    · rw [ahT_z (q2 _ (by omega)), ahT_z (q2 _ (by omega))]
      unfold ebT
      rw [d1, dt, q1, if_neg (by omega)]
    · have hx : ahT s e (4 * r) + ahT s e (4 * r + 1) = ahT s e (4 * r + (vv s r 8 - 1)) := by
        rcases (show vv s r 8 - 1 = 0 ∨ vv s r 8 - 1 = 1 by omega) with u | u
        · rw [u, ahT_z (m := 4 * r + 1) ?_]
          · rfl
          · cases q : wtB s (4 * r + 1) with
            | false => rfl
            | true => have := w5 (4 * r + 1) (by omega) q; omega
        · rw [u, ahT_z (m := 4 * r) ?_, Nat.zero_add]
          cases q : wtB s (4 * r) with
          | false => rfl
          | true => have := w5 (4 * r) (by omega) q; omega
      rw [hx, ahT_eq w1]
      unfold ebT
      rw [d1, dt, w3]
      by_cases c : tmO s (4 * r + (vv s r 8 - 1)) < tmO s e ∨ (tmO s (4 * r + (vv s r 8 - 1)) = tmO s e ∧ 4 * r + (vv s r 8 - 1) < e)
      · rw [if_pos c, if_pos]
        rcases c with c | c
        · exact Or.inl c
        · refine Or.inr ⟨c.1, ?_⟩
          rw [hsl]
          by_cases h2 : e % 4 = 2
          · rw [if_pos h2]; omega
          · rw [if_neg h2]
            by_cases h4 : e / 4 = r
            · have := huniq h4 h2; omega
            · omega
      · rw [if_neg c, if_neg]
        intro u
        rcases u with u | u
        · exact c (Or.inl u)
        · refine c (Or.inr ⟨u.1, ?_⟩)
          rw [hsl] at u
          by_cases h2 : e % 4 = 2
          · rw [if_pos h2] at u; omega
          · rw [if_neg h2] at u; omega
  · rcases slB hW hB hr with ⟨q1, q2⟩ | ⟨w1, w2, w3, w4, w5⟩
    · rw [ahT_z (q2 _ (by omega))]
      unfold ebT
      rw [d2, dt, q1, if_neg (by omega)]
    · rw [ahT_eq w1]
      unfold ebT
      rw [d2, dt, w3]
      by_cases c : tmO s (4 * r + 2) < tmO s e ∨ (tmO s (4 * r + 2) = tmO s e ∧ 4 * r + 2 < e)
      · rw [if_pos c, if_pos]
        rcases c with c | c
        · exact Or.inl c
        · refine Or.inr ⟨c.1, ?_⟩
          rw [hsl]
          by_cases h2 : e % 4 = 2
          · rw [if_pos h2]; omega
          · rw [if_neg h2]; omega
      · rw [if_neg c, if_neg]
        intro u
        rcases u with u | u
        · exact c (Or.inl u)
        · refine c (Or.inr ⟨u.1, ?_⟩)
          rw [hsl] at u
          by_cases h2 : e % 4 = 2
          · rw [if_pos h2] at u; omega
          · rw [if_neg h2] at u; omega
  · unfold wtB
    rw [if_neg (by omega), decide_eq_false (by omega)]
    rfl
theorem ebC_lo {s : Nat → Nat} {b : Bk} {B e : Nat} (h : RepC s b) (hW : Wt s B) (hB : B < 900000000) (he : e < 4 * s 1) (he3 : e % 4 < 3) (hw : wtB s e = true) : ∀ r, r ≤ s 1 → ebC b (slE e) (2 * r) = ahc s e (4 * r)
  | 0, _ => rfl
  | r + 1, hr => by
    obtain ⟨h1, h2, h3⟩ := ebA h hW hB (show r < s 1 by omega) he he3 hw
    rw [show 2 * (r + 1) = 2 * r + 1 + 1 by omega, show 4 * (r + 1) = 4 * r + 1 + 1 + 1 + 1 by omega]
    show ebC b (slE e) (2 * r) + ebT b (slE e) (2 * r) + ebT b (slE e) (2 * r + 1) = ahc s e (4 * r) + ahT s e (4 * r) + ahT s e (4 * r + 1) + ahT s e (4 * r + 2) + ahT s e (4 * r + 3)
    rw [ebC_lo h hW hB he he3 hw r (by omega), h1, h2, h3]
    omega
theorem ebC_hi {s : Nat → Nat} {b : Bk} {q : Nat} (h : RepC s b) (hq : b 5 q < NV) : ∀ k, s 1 + k ≤ 8 → ebC b q (2 * (s 1 + k)) = ebC b q (2 * s 1)
  | 0, _ => rfl
  | k + 1, hk => by
    obtain ⟨_, h1, h2⟩ := h.2.2.2.2 (s 1 + k) (by omega) (by omega)
    rw [show 2 * (s 1 + (k + 1)) = 2 * (s 1 + k) + 1 + 1 by omega]
    show ebC b q (2 * (s 1 + k)) + ebT b q (2 * (s 1 + k)) + ebT b q (2 * (s 1 + k) + 1) = _
    have e1 : ebT b q (2 * (s 1 + k)) = 0 := by unfold ebT; rw [h1, if_neg (by omega)]
    have e2 : ebT b q (2 * (s 1 + k) + 1) = 0 := by unfold ebT; rw [h2, if_neg (by omega)]
    rw [e1, e2]
    exact ebC_hi h hq k (by omega)
theorem ebC_all {s : Nat → Nat} {b : Bk} {B e : Nat} (h : RepC s b) (hW : Wt s B) (hB : B < 900000000) (he : e < 4 * s 1) (he3 : e % 4 < 3) (hw : wtB s e = true) : ebC b (slE e) 16 = ahc s e (4 * s 1) := by
  have h8 := hW.2.1
  have ht := hW.tm he
  have hNV : NV = 2147483647 := rfl
  rw [← ebC_lo h hW hB he he3 hw (s 1) (Nat.le_refl _), ← ebC_hi h (q := slE e) (by rw [du_e h he he3 hw]; omega) (8 - s 1) (by omega), show 2 * (s 1 + (8 - s 1)) = 16 by omega]
set_option maxRecDepth 100000 in
set_option maxHeartbeats 4000000 in
theorem c_X0_eventsBefore (l : Launch) (d : Nat) (hd : 1 ≤ d) {n kb : Nat} {w : Nat → AC} {b : Bk} (hB : BkAt n w kb b) {s : Nat → Nat} (hR0 : RepC s b) {B : Nat} (hW : Wt s B) (hBd : B < 900000000) (q : Nat) (hq : q < 16) : Sq l yX0_eventsBefore cX0_eventsBefore 5 (some .int) d [aR kb, aZ q] n w (Rs (some (aZ (ebC b q 16))) w) := by
  refine Sp.of (plainFor_of_name (by decide)) (Nat.le_of_ble_eq_true rfl) (fun Γ hΓ hR => ?_)
  show Γ 0 [aR kb, aZ q, none, none, none] [] (0, 0) n w
  have hdu := du_lt hR0 hW hBd
  have hbq := hdu q hq
  have loop : ∀ (m i : Nat), i ≤ 16 → 16 < i + m → Γ 14 [aR kb, aZ q, aZ (b 5 q), aZ (ebC b q i), aZ i] [] (0, 0) n w := by
    intro m
    induction m with
    | zero => intro i h1 h2; exact absurd h2 (by omega)
    | succ m ih =>
      intro i hi hm
      have hl := ebC_le b q i
      refine qa_iload hΓ dX0_eventsBefore_14 rfl ?_
      refine qa_aload_n hΓ dX0_eventsBefore_16 rfl ?_
      refine qa_get hΓ dX0_eventsBefore_17 fk_X0_27 hB.lt hB.o rfl ?_
      refine qa_alen hΓ dX0_eventsBefore_20 (hB.lti (i := 6) (by decide)) hB.a5 (by decide) rfl ?_
      refine qz_icmp_ge (tgt := 61) hΓ dX0_eventsBefore_21 (by decide) (by omega) (by omega) (fun h_21 => ?_) (fun h_21 => ?_)
      · refine qa_iload_n hΓ dX0_eventsBefore_61 rfl ?_
        exact qr_i hR dX0_eventsBefore_62 ⟨by rw [show i = 16 by omega], rfl⟩
      · refine qa_aload_n hΓ dX0_eventsBefore_24 rfl ?_
        refine qa_get hΓ dX0_eventsBefore_25 fk_X0_27 hB.lt hB.o rfl ?_
        refine qa_iload hΓ dX0_eventsBefore_28 rfl ?_
        refine qz_iald hΓ dX0_eventsBefore_30 (hB.lti (i := 6) (by decide)) hB.a5 (by omega) (by decide) ?_
        have hb5 := hdu i (by omega)
        refine qa_iload_n hΓ dX0_eventsBefore_31 rfl ?_
        refine qz_icmp_lt (tgt := 52) hΓ dX0_eventsBefore_32 (by decide) (by omega) (by omega) (fun h_32 => ?_) (fun h_32 => ?_)
        · refine qz_iinc hΓ dX0_eventsBefore_52 ii_1 rfl (by decide) ?_
          refine qz_iinc hΓ dX0_eventsBefore_55 ii_1 rfl (by decide) ?_
          refine qa_goto (tgt := 14) hΓ dX0_eventsBefore_58 (by decide) ?_
          have e9 : ebC b q (i + 1) = ebC b q i + (if b 5 i < b 5 q ∨ (b 5 i = b 5 q ∧ i < q) then 1 else 0) := rfl
          rw [if_pos (Or.inl h_32)] at e9
          have h9 := ih (i + 1) (by omega) (by omega)
          rw [e9] at h9
          exact h9
        · refine qa_aload_n hΓ dX0_eventsBefore_35 rfl ?_
          refine qa_get hΓ dX0_eventsBefore_36 fk_X0_27 hB.lt hB.o rfl ?_
          refine qa_iload hΓ dX0_eventsBefore_39 rfl ?_
          refine qz_iald hΓ dX0_eventsBefore_41 (hB.lti (i := 6) (by decide)) hB.a5 (by omega) (by decide) ?_
          refine qa_iload_n hΓ dX0_eventsBefore_42 rfl ?_
          refine qz_icmp_ne (tgt := 55) hΓ dX0_eventsBefore_43 (by decide) (by omega) (by omega) (fun h_43 => ?_) (fun h_43 => ?_)
          · refine qz_iinc hΓ dX0_eventsBefore_55 ii_1 rfl (by decide) ?_
            refine qa_goto (tgt := 14) hΓ dX0_eventsBefore_58 (by decide) ?_
            have e9 : ebC b q (i + 1) = ebC b q i + (if b 5 i < b 5 q ∨ (b 5 i = b 5 q ∧ i < q) then 1 else 0) := rfl
            rw [if_neg (by omega)] at e9
            have h9 := ih (i + 1) (by omega) (by omega)
            rw [e9] at h9
            exact h9
          · refine qa_iload hΓ dX0_eventsBefore_46 rfl ?_
            refine qa_iload_n hΓ dX0_eventsBefore_48 rfl ?_
            refine qz_icmp_ge (tgt := 55) hΓ dX0_eventsBefore_49 (by decide) (by omega) (by omega) (fun h_49 => ?_) (fun h_49 => ?_)
            · refine qz_iinc hΓ dX0_eventsBefore_55 ii_1 rfl (by decide) ?_
              refine qa_goto (tgt := 14) hΓ dX0_eventsBefore_58 (by decide) ?_
              have e9 : ebC b q (i + 1) = ebC b q i + (if b 5 i < b 5 q ∨ (b 5 i = b 5 q ∧ i < q) then 1 else 0) := rfl
              rw [if_neg (by omega)] at e9
              have h9 := ih (i + 1) (by omega) (by omega)
              rw [e9] at h9
              exact h9
            · refine qz_iinc hΓ dX0_eventsBefore_52 ii_1 rfl (by decide) ?_
              refine qz_iinc hΓ dX0_eventsBefore_55 ii_1 rfl (by decide) ?_
              refine qa_goto (tgt := 14) hΓ dX0_eventsBefore_58 (by decide) ?_
              have e9 : ebC b q (i + 1) = ebC b q i + (if b 5 i < b 5 q ∨ (b 5 i = b 5 q ∧ i < q) then 1 else 0) := rfl
              rw [if_pos (Or.inr ⟨h_43, h_49⟩)] at e9
              have h9 := ih (i + 1) (by omega) (by omega)
              rw [e9] at h9
              exact h9
  refine qa_aload_n hΓ dX0_eventsBefore_0 rfl ?_
  refine qa_get hΓ dX0_eventsBefore_1 fk_X0_27 hB.lt hB.o rfl ?_
  refine qa_iload_n hΓ dX0_eventsBefore_4 rfl ?_
  refine qc_N1 hΓ dX0_eventsBefore_5 nk_X0_73 vw_X5_at (by omega) (c_X5_at l (d - 1) (hB.lti (i := 6) (by decide)) hB.a5 _ (by omega) (by decide)) rfl rfl (Nat.le_of_ble_eq_true rfl) ?_
  refine qa_istore_n hΓ dX0_eventsBefore_8 (by decide) ?_
  refine qa_iconst (v := nI 0) hΓ dX0_eventsBefore_9 ic_0 ?_
  refine qa_istore_n hΓ dX0_eventsBefore_10 (by decide) ?_
  refine qa_iconst (v := nI 0) hΓ dX0_eventsBefore_11 ic_0 ?_
  refine qa_istore hΓ dX0_eventsBefore_12 (by decide) ?_
  exact loop 17 0 (Nat.zero_le _) (by omega)

set_option maxRecDepth 100000 in
set_option maxHeartbeats 4000000 in
theorem c_X0_slotAt (l : Launch) (d : Nat) (hd : 2 ≤ d) {n kb : Nat} {w : Nat → AC} {b : Bk} (hB : BkAt n w kb b) {s : Nat → Nat} (hR0 : RepC s b) {B : Nat} (hW : Wt s B) (hBd : B < 900000000) (v : Int32) : Sq l yX0_slotAt cX0_slotAt 3 (some .int) d [aR kb, aI v] n w (Rs (some (aI (nIo (saC b v 16)))) w) := by
  refine Sp.of (plainFor_of_name (by decide)) (Nat.le_of_ble_eq_true rfl) (fun Γ hΓ hR => ?_)
  show Γ 0 [aR kb, aI v, none] [] (0, 0) n w
  have hdu := du_lt hR0 hW hBd
  have loop : ∀ (m i : Nat), i ≤ 16 → 16 < i + m → saC b v i = none → Γ 2 [aR kb, aI v, aZ i] [] (0, 0) n w := by
    intro m
    induction m with
    | zero => intro i h1 h2; exact absurd h2 (by omega)
    | succ m ih =>
      intro i hi hm ho
      have e9 : saC b v (i + 1) = if ¬ b 5 i = NV ∧ nI (ebC b i 16) = v then some i else none := by
        show (match saC b v i with | some q => some q | none => _) = _
        rw [ho]
      refine qa_iload_n hΓ dX0_slotAt_2 rfl ?_
      refine qa_aload_n hΓ dX0_slotAt_3 rfl ?_
      refine qa_get hΓ dX0_slotAt_4 fk_X0_27 hB.lt hB.o rfl ?_
      refine qa_alen hΓ dX0_slotAt_7 (hB.lti (i := 6) (by decide)) hB.a5 (by decide) rfl ?_
      refine qz_icmp_ge (tgt := 39) hΓ dX0_slotAt_8 (by decide) (by omega) (by omega) (fun h_8 => ?_) (fun h_8 => ?_)
      · refine qa_iconst (v := -1) hΓ dX0_slotAt_39 ic_m1 ?_
        exact qr_i hR dX0_slotAt_40 ⟨by rw [← show i = 16 by omega, ho]; rfl, rfl⟩
      · refine qa_aload_n hΓ dX0_slotAt_11 rfl ?_
        refine qa_get hΓ dX0_slotAt_12 fk_X0_27 hB.lt hB.o rfl ?_
        refine qa_iload_n hΓ dX0_slotAt_15 rfl ?_
        refine qz_iald hΓ dX0_slotAt_16 (hB.lti (i := 6) (by decide)) hB.a5 (by omega) (by decide) ?_
        have hb5 := hdu i (by omega)
        refine qa_ldc (v := nI 2147483647) hΓ dX0_slotAt_17 ck_X0_30 ?_
        refine qz_icmp_eq (tgt := 33) hΓ dX0_slotAt_19 (by decide) (by omega) (by omega) (fun h_19 => ?_) (fun h_19 => ?_)
        · refine qz_iinc hΓ dX0_slotAt_33 ii_1 rfl (by decide) ?_
          refine qa_goto (tgt := 2) hΓ dX0_slotAt_36 (by decide) ?_
          exact ih (i + 1) (by omega) (by omega) (by rw [e9, if_neg (fun u => u.1 h_19)])
        · refine qa_aload_n hΓ dX0_slotAt_22 rfl ?_
          refine qa_iload_n hΓ dX0_slotAt_23 rfl ?_
          refine qc_V1 hΓ dX0_slotAt_24 lk_X0_135 vw_X0_eventsBefore (by omega) (c_X0_eventsBefore l (d - 1) (by omega) hB hR0 hW hBd i (by omega)) rfl hB.lt hB.o rfl rfl (Nat.le_of_ble_eq_true rfl) ?_
          refine qa_iload_n hΓ dX0_slotAt_27 rfl ?_
          refine qa_icmp_ne (tgt := 33) hΓ dX0_slotAt_28 (by decide) (fun h_28 => ?_) (fun h_28 => ?_)
          · refine qz_iinc hΓ dX0_slotAt_33 ii_1 rfl (by decide) ?_
            refine qa_goto (tgt := 2) hΓ dX0_slotAt_36 (by decide) ?_
            exact ih (i + 1) (by omega) (by omega) (by rw [e9, if_neg (fun u => h_28 u.2)])
          · refine qa_iload_n hΓ dX0_slotAt_31 rfl ?_
            exact qr_i hR dX0_slotAt_32 ⟨by rw [saC_some (show i + 1 ≤ 16 by omega) (e9.trans (if_pos ⟨h_19, h_28⟩))]; rfl, rfl⟩
  refine qa_iconst (v := nI 0) hΓ dX0_slotAt_0 ic_0 ?_
  refine qa_istore_n hΓ dX0_slotAt_1 (by decide) ?_
  exact loop 17 0 (Nat.zero_le _) (by omega) rfl

def evT (s : Nat → Nat) (i m : Nat) : Bool := wtB s m && decide (ahc s m (4 * s 1) = i)
theorem evS_st (s : Nat → Nat) (i m : Nat) : evS s i (m + 1) = match evS s i m with
    | some e => some e
    | none => if evT s i m then some m else none := rfl
theorem evT_f {s : Nat → Nat} {i m : Nat} (h : wtB s m = false) : evT s i m = false := by unfold evT; rw [h]; rfl
theorem evT_t {s : Nat → Nat} {b : Bk} {B i m : Nat} (h : RepC s b) (hW : Wt s B) (hB : B < 900000000) (hi : i < 2147483648) (he : m < 4 * s 1) (he3 : m % 4 < 3) (hw : wtB s m = true) : (¬ b 5 (slE m) = NV ∧ nI (ebC b (slE m) 16) = nI i) ↔ evT s i m = true := by
  have hNV : NV = 2147483647 := rfl
  have ht := hW.tm he
  have hc := ebC_le b (slE m) 16
  unfold evT
  rw [hw, Bool.true_and, decide_eq_true_eq, ← ebC_all h hW hB he he3 hw, nI_inj (by omega) (by omega), du_e h he he3 hw]
  exact ⟨fun q => q.2, fun q => ⟨by omega, q⟩⟩
theorem sa_ev {s : Nat → Nat} {b : Bk} {B i : Nat} (h : RepC s b) (hW : Wt s B) (hB : B < 900000000) (hi : i < 2147483648) : ∀ r, r ≤ s 1 → saC b (nI i) (2 * r) = (evS s i (4 * r)).map slE
  | 0, _ => rfl
  | r + 1, hr => by
    have hNV : NV = 2147483647 := rfl
    obtain ⟨d1, d2⟩ := h.2.2.2.1 r (by omega)
    have ih := sa_ev h hW hB hi r (by omega)
    rw [show 2 * (r + 1) = 2 * r + 1 + 1 by omega, show 4 * (r + 1) = 4 * r + 1 + 1 + 1 + 1 by omega]
    rw [evS_st, evS_st, evS_st, evS_st]
    show (match (match saC b (nI i) (2 * r) with | some q => some q | none => if ¬ b 5 (2 * r) = NV ∧ nI (ebC b (2 * r) 16) = nI i then some (2 * r) else none) with | some q => some q | none => if ¬ b 5 (2 * r + 1) = NV ∧ nI (ebC b (2 * r + 1) 16) = nI i then some (2 * r + 1) else none) = _
    rw [ih]
    have f3 : evT s i (4 * r + 1 + 1 + 1) = false := evT_f (by unfold wtB; rw [if_neg (by omega), decide_eq_false (by omega)]; rfl)
    cases hE : evS s i (4 * r) with
    | some e => rfl
    | none =>
      simp only [Option.map_none]
      rw [f3]
      have hs2 : slE (4 * r + 1 + 1) = 2 * r + 1 := by unfold slE; rw [if_pos (by omega)]; omega
      have c8 := hW.c2 (r := r) (by omega) (x := 8) (by omega)
      -- the second slot
      have h2 : (if ¬ b 5 (2 * r + 1) = NV ∧ nI (ebC b (2 * r + 1) 16) = nI i then some (2 * r + 1) else none) = (if evT s i (4 * r + 1 + 1) then some (4 * r + 1 + 1) else none).map slE := by
        rcases slB hW hB (show r < s 1 by omega) with ⟨q1, q2⟩ | ⟨w1, _⟩
        · rw [evT_f (q2 _ (by omega)), if_neg (fun u => u.1 (d2.trans q1))]
          rfl
        · have ht := evT_t h hW hB hi (show 4 * r + 1 + 1 < 4 * s 1 by omega) (by omega) w1
          rw [hs2] at ht
          by_cases c : evT s i (4 * r + 1 + 1) = true
          · rw [if_pos (ht.mpr c), c, if_pos rfl]
            show some _ = some _
            rw [hs2]
          · rw [if_neg (fun u => c (ht.mp u)), if_neg c]
            rfl
      rw [h2]
      rcases slA hW hB (show r < s 1 by omega) with ⟨q1, q2⟩ | ⟨w1, w2, w3, w4, w5⟩
      · rw [evT_f (q2 (4 * r) (by omega)), evT_f (q2 (4 * r + 1) (by omega)), if_neg (fun u => u.1 (d1.trans q1))]
        cases evT s i (4 * r + 1 + 1) <;> rfl
      · have hs1 : slE (4 * r + (vv s r 8 - 1)) = 2 * r := by unfold slE; rw [if_neg (by omega)]; omega
        have ht := evT_t h hW hB hi (show 4 * r + (vv s r 8 - 1) < 4 * s 1 by omega) (by omega) w1
        rw [hs1] at ht
        rcases (show vv s r 8 - 1 = 0 ∨ vv s r 8 - 1 = 1 by omega) with u | u
        · rw [u] at hs1 ht w5
          have f1 : evT s i (4 * r + 1) = false := evT_f (by
            cases q : wtB s (4 * r + 1) with
            | false => rfl
            | true => have := w5 (4 * r + 1) (by omega) q; omega)
          rw [f1]
          by_cases c : evT s i (4 * r) = true
          · rw [if_pos (ht.mpr c), c]
            show some _ = some _
            rw [show slE (4 * r) = 2 * r from hs1]
          · rw [if_neg (fun q => c (ht.mp q)), Bool.not_eq_true] at *
            rw [c]
            cases evT s i (4 * r + 1 + 1) <;> rfl
        · rw [u] at hs1 ht w5
          have f1 : evT s i (4 * r) = false := evT_f (by
            cases q : wtB s (4 * r) with
            | false => rfl
            | true => have := w5 (4 * r) (by omega) q; omega)
          rw [f1]
          by_cases c : evT s i (4 * r + 1) = true
          · rw [if_pos (ht.mpr c), c]
            show some _ = some _
            rw [hs1]
          · rw [if_neg (fun q => c (ht.mp q))]
            rw [Bool.not_eq_true] at c
            rw [c]
            cases evT s i (4 * r + 1 + 1) <;> rfl
theorem sa_hi {s : Nat → Nat} {b : Bk} {v : Int32} (h : RepC s b) : ∀ k, s 1 + k ≤ 8 → saC b v (2 * (s 1 + k)) = saC b v (2 * s 1)
  | 0, _ => rfl
  | k + 1, hk => by
    obtain ⟨_, h1, h2⟩ := h.2.2.2.2 (s 1 + k) (by omega) (by omega)
    rw [show 2 * (s 1 + (k + 1)) = 2 * (s 1 + k) + 1 + 1 by omega]
    show (match (match saC b v (2 * (s 1 + k)) with | some q => some q | none => if ¬ b 5 (2 * (s 1 + k)) = NV ∧ nI (ebC b (2 * (s 1 + k)) 16) = v then some (2 * (s 1 + k)) else none) with | some q => some q | none => if ¬ b 5 (2 * (s 1 + k) + 1) = NV ∧ nI (ebC b (2 * (s 1 + k) + 1) 16) = v then some (2 * (s 1 + k) + 1) else none) = _
    rw [sa_hi h k (by omega), if_neg (fun u => u.1 h1), if_neg (fun u => u.1 h2)]
    cases saC b v (2 * s 1) <;> rfl
theorem sa_all {s : Nat → Nat} {b : Bk} {B i : Nat} (h : RepC s b) (hW : Wt s B) (hB : B < 900000000) (hi : i < 2147483648) : saC b (nI i) 16 = (evS s i (4 * s 1)).map slE := by
  have h8 := hW.2.1
  rw [← sa_ev h hW hB hi (s 1) (Nat.le_refl _), ← sa_hi h (8 - s 1) (by omega), show 2 * (s 1 + (8 - s 1)) = 16 by omega]
