/-! The class: the event that is next -/
def rk (rev : Bool) (e : Nat) : Nat := if rev then (7 - e / 4) * 4 + e % 4 else e
def Ky (s : Nat → Nat) (rev : Bool) (e : Nat) : Nat := tmO s e * 32 + rk rev e
theorem rk_lt {rev : Bool} {e : Nat} (h : e < 32) : rk rev e < 32 := by
  unfold rk
  split <;> omega
theorem ahB_Ky {s : Nat → Nat} {rev : Bool} {a b : Nat} (ha : a < 32) (hb : b < 32) : ahB s a b rev = decide (Ky s rev a < Ky s rev b) := by
  have h1 := rk_lt (rev := rev) ha
  have h2 := rk_lt (rev := rev) hb
  unfold ahB Ky
  by_cases e : tmO s a = tmO s b
  · rw [if_pos e, e]
    unfold rk at h1 h2 ⊢
    cases rev with
    | true =>
      simp only [if_true] at h1 h2 ⊢
      by_cases e4 : a / 4 = b / 4
      · rw [if_pos e4]; exact decide_eq_decide.mpr (by omega)
      · rw [if_neg e4]; exact decide_eq_decide.mpr (by omega)
    | false =>
      simp only [Bool.false_eq_true, if_false] at h1 h2 ⊢
      by_cases e4 : a / 4 = b / 4
      · rw [if_pos e4]; exact decide_eq_decide.mpr (by omega)
      · rw [if_neg e4]; exact decide_eq_decide.mpr (by omega)
  · rw [if_neg e]
    exact decide_eq_decide.mpr (by omega)
theorem Ky_inj {s : Nat → Nat} {rev : Bool} {a b : Nat} (ha : a < 32) (hb : b < 32) (h : Ky s rev a = Ky s rev b) : a = b := by
  have h1 := rk_lt (rev := rev) ha
  have h2 := rk_lt (rev := rev) hb
  unfold Ky at h
  have h3 : rk rev a = rk rev b := by omega
  unfold rk at h3
  cases rev with
  | true => simp only [if_true] at h3; omega
  | false => simpa using h3
def IVQ (s : Nat → Nat) (rev : Bool) (Q : Nat → Prop) (o : Option Nat) (least : Nat) : Prop := (o = none ∧ least = NV ∧ ∀ e, Q e → wtB s e = false) ∨ ∃ e, o = some e ∧ Q e ∧ wtB s e = true ∧ least = tmO s e ∧ least < NV ∧ ∀ e', Q e' → wtB s e' = true → Ky s rev e ≤ Ky s rev e'
theorem IVQ.le {s : Nat → Nat} {rev : Bool} {Q : Nat → Prop} {o : Option Nat} {least : Nat} (h : IVQ s rev Q o least) : least ≤ NV := by
  rcases h with ⟨_, h, _⟩ | ⟨_, _, _, _, _, h, _⟩ <;> omega
theorem IVQ.step {s : Nat → Nat} {rev : Bool} {Q X : Nat → Prop} {o : Option Nat} {least D en : Nat} (h : IVQ s rev Q o least) (hD : (D = NV ∧ ∀ e, X e → wtB s e = false) ∨ (wtB s en = true ∧ X en ∧ D = tmO s en ∧ D < NV ∧ ∀ e, X e → wtB s e = true → e = en)) (hr : ∀ e, Q e → rk rev e < rk rev en) (h32 : rk rev en < 32) : (D < least → IVQ s rev (fun e => Q e ∨ X e) (some en) D) ∧ (¬ D < least → IVQ s rev (fun e => Q e ∨ X e) o least) := by
  have hle := h.le
  constructor
  · intro hlt
    rcases hD with ⟨rfl, _⟩ | ⟨w1, w2, w3, w4, w5⟩
    · exact absurd hlt (by omega)
    · refine Or.inr ⟨en, rfl, Or.inr w2, w1, w3, w4, fun e' hq hw => ?_⟩
      rcases hq with hq | hq
      · rcases h with ⟨_, _, q⟩ | ⟨e, _, q2, q3, q4, _, q5⟩
        · rw [q e' hq] at hw
          cases hw
        · refine Nat.le_trans ?_ (q5 e' hq hw)
          unfold Ky
          omega
      · rw [w5 e' hq hw]
        exact Nat.le_refl _
  · intro hge
    rcases h with ⟨q1, q2, q3⟩ | ⟨e, q1, q2, q3, q4, q6, q5⟩
    · rcases hD with ⟨_, w⟩ | ⟨_, _, _, w4, _⟩
      · refine Or.inl ⟨q1, q2, fun e hq => ?_⟩
        rcases hq with hq | hq
        · exact q3 e hq
        · exact w e hq
      · exact absurd w4 (by omega)
    · refine Or.inr ⟨e, q1, Or.inl q2, q3, q4, q6, fun e' hq hw => ?_⟩
      rcases hq with hq | hq
      · exact q5 e' hq hw
      · rcases hD with ⟨_, w⟩ | ⟨_, _, w3, _, w5⟩
        · rw [w e' hq] at hw
          cases hw
        · rw [w5 e' hq hw]
          have := hr e q2
          unfold Ky
          omega
theorem IVQ.congr {s : Nat → Nat} {rev : Bool} {Q Q' : Nat → Prop} {o : Option Nat} {least : Nat} (h : IVQ s rev Q o least) (e : ∀ x, Q x ↔ Q' x) : IVQ s rev Q' o least := by
  rw [show Q' = Q from funext (fun x => propext (e x).symm)]
  exact h
theorem nxt_best {s : Nat → Nat} {rev : Bool} : ∀ m, m ≤ 32 → (nxt s rev m = none ∧ ∀ e, e < m → wtB s e = false) ∨ ∃ e, nxt s rev m = some e ∧ e < m ∧ wtB s e = true ∧ ∀ e', e' < m → wtB s e' = true → Ky s rev e ≤ Ky s rev e'
  | 0, _ => Or.inl ⟨rfl, fun e h => absurd h (Nat.not_lt_zero _)⟩
  | m + 1, hm => by
    unfold nxt
    rcases nxt_best (s := s) (rev := rev) m (by omega) with ⟨h1, h2⟩ | ⟨e, h1, h2, h3, h4⟩
    · rw [h1]
      cases hw : wtB s m with
      | false =>
        refine Or.inl ⟨rfl, fun e he => ?_⟩
        rcases (show e < m ∨ e = m by omega) with u | rfl
        · exact h2 e u
        · exact hw
      | true =>
        refine Or.inr ⟨m, rfl, by omega, hw, fun e' he hw' => ?_⟩
        rcases (show e' < m ∨ e' = m by omega) with u | rfl
        · rw [h2 e' u] at hw'
          cases hw'
        · exact Nat.le_refl _
    · rw [h1]
      have ha : ahO s m rev (some e) = decide (Ky s rev m < Ky s rev e) := ahB_Ky (by omega) (by omega)
      rw [ha]
      by_cases hc : wtB s m = true ∧ Ky s rev m < Ky s rev e
      · rw [hc.1, decide_eq_true hc.2]
        refine Or.inr ⟨m, rfl, by omega, hc.1, fun e' he hw' => ?_⟩
        rcases (show e' < m ∨ e' = m by omega) with u | rfl
        · have := h4 e' u hw'
          omega
        · exact Nat.le_refl _
      · have hf : (wtB s m && decide (Ky s rev m < Ky s rev e)) = false := by
          rw [Bool.eq_false_iff]
          intro q
          rw [Bool.and_eq_true, decide_eq_true_eq] at q
          exact hc q
        rw [hf]
        refine Or.inr ⟨e, rfl, by omega, h3, fun e' he hw' => ?_⟩
        rcases (show e' < m ∨ e' = m by omega) with u | rfl
        · exact h4 e' u hw'
        · exact Nat.le_of_not_lt (fun q => hc ⟨hw', q⟩)
theorem IVQ.nx {s : Nat → Nat} {rev : Bool} {o : Option Nat} {least : Nat} (h8 : s 1 ≤ 8) (h : IVQ s rev (fun e => e < 4 * s 1) o least) : o = nx s rev := by
  unfold Jvm.Pilot.@@N@@.nx
  rcases nxt_best (s := s) (rev := rev) (4 * s 1) (by omega) with ⟨h1, h2⟩ | ⟨e, h1, h2, h3, h4⟩
  · rcases h with ⟨q, _, _⟩ | ⟨e', _, q2, q3, _⟩
    · rw [q, h1]
    · rw [h2 e' q2] at q3
      cases q3
  · rcases h with ⟨_, _, q⟩ | ⟨e', q1, q2, q3, _, _, q5⟩
    · rw [q e h2] at h3
      cases h3
    · rw [q1, h1, Ky_inj (s := s) (rev := rev) (by omega) (by omega) (Nat.le_antisymm (q5 e h2 h3) (h4 e' q2 q3))]
def slE (e : Nat) : Nat := 2 * (e / 4) + (if e % 4 = 2 then 1 else 0)
def nIs : Option Nat → Int32
  | none => -1
  | some e => nI (slE e)
/-- what the two slots of a relay say of its events -/
theorem slA {s : Nat → Nat} {B r : Nat} (hW : Wt s B) (hB : B < 900000000) (hr : r < s 1) : (duA s r = NV ∧ ∀ e, (e / 4 = r ∧ e % 4 ≠ 2) → wtB s e = false) ∨ (wtB s (4 * r + (vv s r 8 - 1)) = true ∧ ((4 * r + (vv s r 8 - 1)) / 4 = r ∧ (4 * r + (vv s r 8 - 1)) % 4 ≠ 2) ∧ duA s r = tmO s (4 * r + (vv s r 8 - 1)) ∧ duA s r < NV ∧ ∀ e, (e / 4 = r ∧ e % 4 ≠ 2) → wtB s e = true → e = 4 * r + (vv s r 8 - 1)) := by
  have h2 := hW.c2 hr (x := 8) (by omega)
  have h9 := hW.b hr (x := 9) (by decide)
  have hNV : NV = 2147483647 := rfl
  by_cases h0 : vv s r 8 = 0
  · refine Or.inl ⟨by unfold duA; rw [if_pos h0], fun e he => ?_⟩
    unfold wtB
    rw [if_neg he.2, he.1, h0]
    simp
  · have e4 : (4 * r + (vv s r 8 - 1)) / 4 = r := by omega
    have em : (4 * r + (vv s r 8 - 1)) % 4 = vv s r 8 - 1 := by omega
    refine Or.inr ⟨?_, ⟨e4, by omega⟩, ?_, ?_, fun e he hw => ?_⟩
    · unfold wtB
      rw [em, if_neg (by omega), e4]
      rw [decide_eq_true (by omega), decide_eq_true (by omega)]
      rfl
    · unfold duA tmO
      rw [if_neg h0, em, if_neg (by omega), e4]
    · unfold duA
      rw [if_neg h0]
      omega
    · unfold wtB at hw
      rw [if_neg he.2, he.1, Bool.and_eq_true, decide_eq_true_eq, decide_eq_true_eq] at hw
      omega
theorem slB {s : Nat → Nat} {B r : Nat} (hW : Wt s B) (hB : B < 900000000) (hr : r < s 1) : (duE s r = NV ∧ ∀ e, (e / 4 = r ∧ e % 4 = 2) → wtB s e = false) ∨ (wtB s (4 * r + 2) = true ∧ ((4 * r + 2) / 4 = r ∧ (4 * r + 2) % 4 = 2) ∧ duE s r = tmO s (4 * r + 2) ∧ duE s r < NV ∧ ∀ e, (e / 4 = r ∧ e % 4 = 2) → wtB s e = true → e = 4 * r + 2) := by
  have h2 := hW.c1 hr (x := 10) (by omega)
  have h9 := hW.b hr (x := 11) (by decide)
  have hNV : NV = 2147483647 := rfl
  have e4 : (4 * r + 2) / 4 = r := by omega
  have em : (4 * r + 2) % 4 = 2 := by omega
  by_cases h0 : vv s r 10 = 0
  · refine Or.inl ⟨by unfold duE; rw [if_pos h0], fun e he => ?_⟩
    unfold wtB
    rw [if_pos he.2, he.1, h0]
    rfl
  · refine Or.inr ⟨?_, ⟨e4, em⟩, ?_, ?_, fun e he hw => by omega⟩
    · unfold wtB
      rw [if_pos em, e4]
      exact decide_eq_true (by omega)
    · unfold duE tmO
      rw [if_neg h0, if_pos em, e4]
    · unfold duE
      rw [if_neg h0]
      omega
def Qp (n : Nat) (rev : Bool) (p e : Nat) : Prop := e < 4 * n ∧ (if rev then n - p ≤ e / 4 else e / 4 < p)

theorem IVQ.step2 {s : Nat → Nat} {rev : Bool} {Q X : Nat → Prop} {o : Option Nat} {least D en : Nat} (h : IVQ s rev Q o least) (hD : (D = NV ∧ ∀ e, X e → wtB s e = false) ∨ (wtB s en = true ∧ X en ∧ D = tmO s en ∧ D < NV ∧ ∀ e, X e → wtB s e = true → e = en)) (hr : ∀ e, Q e → wtB s e = true → rk rev e < rk rev en) (h32 : rk rev en < 32) : (D < least → IVQ s rev (fun e => Q e ∨ X e) (some en) D) ∧ (¬ D < least → IVQ s rev (fun e => Q e ∨ X e) o least) := by
  have hle := h.le
  constructor
  · intro hlt
    rcases hD with ⟨rfl, _⟩ | ⟨w1, w2, w3, w4, w5⟩
    · exact absurd hlt (by omega)
    · refine Or.inr ⟨en, rfl, Or.inr w2, w1, w3, w4, fun e' hq hw => ?_⟩
      rcases hq with hq | hq
      · rcases h with ⟨_, _, q⟩ | ⟨e, _, q2, q3, q4, _, q5⟩
        · rw [q e' hq] at hw
          cases hw
        · refine Nat.le_trans ?_ (q5 e' hq hw)
          unfold Ky
          omega
      · rw [w5 e' hq hw]
        exact Nat.le_refl _
  · intro hge
    rcases h with ⟨q1, q2, q3⟩ | ⟨e, q1, q2, q3, q4, q6, q5⟩
    · rcases hD with ⟨_, w⟩ | ⟨_, _, _, w4, _⟩
      · refine Or.inl ⟨q1, q2, fun e hq => ?_⟩
        rcases hq with hq | hq
        · exact q3 e hq
        · exact w e hq
      · exact absurd w4 (by omega)
    · refine Or.inr ⟨e, q1, Or.inl q2, q3, q4, q6, fun e' hq hw => ?_⟩
      rcases hq with hq | hq
      · exact q5 e' hq hw
      · rcases hD with ⟨_, w⟩ | ⟨_, _, w3, _, w5⟩
        · rw [w e' hq] at hw
          cases hw
        · rw [w5 e' hq hw]
          have := hr e q2 q3
          unfold Ky
          omega
set_option maxRecDepth 100000 in
set_option maxHeartbeats 4000000 in
theorem c_X0_nextSlot (l : Launch) (d : Nat) (hd : 1 ≤ d) {n kb : Nat} {w : Nat → AC} {b : Bk} (hB : BkAt n w kb b) {s : Nat → Nat} (hR0 : RepC s b) {B : Nat} (hW : Wt s B) (hBd : B < 900000000) (rev : Bool) : Sq l yX0_nextSlot cX0_nextSlot 8 (some .int) d [aR kb, aZ rev.toNat] n w (Rs (some (aI (nIs (nx s rev)))) w) := by
  refine Sp.of (plainFor_of_name (by decide)) (Nat.le_of_ble_eq_true rfl) (fun Γ hΓ hR => ?_)
  show Γ 0 [aR kb, aZ rev.toNat, none, none, none, none, none, none] [] (0, 0) n w
  have h8 := hW.2.1
  have e60 : b 6 0 = s 1 := hR0.1.1
  refine qa_iconst (v := -1) hΓ dX0_nextSlot_0 ic_m1 ?_
  refine qa_istore_n hΓ dX0_nextSlot_1 (by decide) ?_
  refine qa_ldc (v := nI 2147483647) hΓ dX0_nextSlot_2 ck_X0_30 ?_
  refine qa_istore_n hΓ dX0_nextSlot_4 (by decide) ?_
  refine qa_iconst (v := nI 0) hΓ dX0_nextSlot_5 ic_0 ?_
  refine qa_istore hΓ dX0_nextSlot_6 (by decide) ?_
  have loop : ∀ (m p : Nat) (ov : Option Nat) (vn : Int32) (least : Nat) (v5 v6 v7 : AV), vn = nIs ov → p ≤ s 1 → s 1 < p + m → IVQ s rev (Qp (s 1) rev p) ov least → Γ 8 [aR kb, aZ rev.toNat, aI vn, aZ least, aZ p, v5, v6, v7] [] (0, 0) n w := by
    intro m
    induction m with
    | zero => intro p ov vn least v5 v6 v7 h0 h1 h2; exact absurd h2 (by omega)
    | succ m ih =>
      intro p ov vn least v5 v6 v7 hvn hp hm hI
      have hle := hI.le
      have hNV : NV = 2147483647 := rfl
      refine qa_iload hΓ dX0_nextSlot_8 rfl ?_
      refine qa_aload_n hΓ dX0_nextSlot_10 rfl ?_
      refine qa_get hΓ dX0_nextSlot_11 fk_X0_37 hB.lt hB.o rfl ?_
      rw [e60]
      refine qz_icmp_ge (tgt := 95) hΓ dX0_nextSlot_14 (by decide) (by omega) (by omega) (fun h_14 => ?_) (fun h_14 => ?_)
      · refine qa_iload_n hΓ dX0_nextSlot_95 rfl ?_
        exact qr_i hR dX0_nextSlot_96 ⟨by rw [hvn, hI.congr (Q' := fun e => e < 4 * s 1) (fun e => by unfold Qp; rw [show p = s 1 by omega]; cases rev <;> simp <;> omega) |>.nx h8], rfl⟩
      · refine qa_iconst (v := nI 2) hΓ dX0_nextSlot_17 ic_2 ?_
        refine qa_iload_n hΓ dX0_nextSlot_18 rfl ?_
        refine qb_if_eq (tgt := 34) hΓ dX0_nextSlot_19 (by decide) (fun h_19 => ?_) (fun h_19 => ?_)
        · refine qa_iload hΓ dX0_nextSlot_34 rfl ?_
          refine qz_imul hΓ dX0_nextSlot_36 ?_
          obtain ⟨r, hrr⟩ : ∃ r, r = p := ⟨_, rfl⟩
          rw [show 2 * p = 2 * r from by rw [hrr]]
          have hr : r < s 1 := by omega
          have hQr : ∀ e, Qp (s 1) rev p e → rk rev e < 4 * (if rev then 7 - r else r) := fun e he => by
            obtain ⟨q1, q2⟩ := he
            unfold rk
            rw [h_19] at q2 ⊢
            simp only [if_true, Bool.false_eq_true, if_false] at q2 ⊢
            omega
          have hrk : ∀ j, j < 4 → rk rev (4 * r + j) = 4 * (if rev then 7 - r else r) + j := fun j hj => by
            unfold rk
            rw [h_19]
            simp only [if_true, Bool.false_eq_true, if_false] <;> omega
          have hr4 : (if rev then 7 - r else r) < 8 := by split <;> omega
          have hQn : ∀ e, ((Qp (s 1) rev p e ∨ (e / 4 = r ∧ e % 4 ≠ 2)) ∨ (e / 4 = r ∧ e % 4 = 2)) ↔ Qp (s 1) rev (p + 1) e := fun e => by
            unfold Qp
            rw [h_19]
            simp only [if_true, Bool.false_eq_true, if_false]
            omega
          have w2 := hW.c2 hr (x := 8) (by omega)
          have hA := hI.step (slA hW hBd hr) (fun e he => by have := hQr e he; rw [hrk _ (by omega)]; omega) (rk_lt (by omega))
          have hdA : duA s r ≤ NV := by rcases slA hW hBd hr with ⟨q, _⟩ | ⟨_, _, _, q, _⟩ <;> omega
          have hdE : duE s r ≤ NV := by rcases slB hW hBd hr with ⟨q, _⟩ | ⟨_, _, _, q, _⟩ <;> omega
          have hQ2 : ∀ e, (Qp (s 1) rev p e ∨ (e / 4 = r ∧ e % 4 ≠ 2)) → wtB s e = true → rk rev e < rk rev (4 * r + 2) := fun e he hw => by
            rw [hrk 2 (by decide)]
            rcases he with he | he
            · have := hQr e he; omega
            · rcases slA hW hBd hr with ⟨_, q⟩ | ⟨_, _, _, _, q⟩
              · rw [q e he] at hw; cases hw
              · rw [q e he hw, hrk _ (by omega)]; omega
          refine qa_istore hΓ dX0_nextSlot_37 (by decide) ?_
          refine qa_aload_n hΓ dX0_nextSlot_39 rfl ?_
          refine qa_get hΓ dX0_nextSlot_40 fk_X0_27 hB.lt hB.o rfl ?_
          refine qa_iload hΓ dX0_nextSlot_43 rfl ?_
          refine qc_N1 hΓ dX0_nextSlot_45 nk_X0_73 vw_X5_at (by omega) (c_X5_at l (d - 1) (hB.lti (i := 6) (by decide)) hB.a5 _ (by omega) (by decide)) rfl rfl (Nat.le_of_ble_eq_true rfl) ?_
          rw [(hR0.2.2.2.1 r hr).1]
          refine qa_istore hΓ dX0_nextSlot_48 (by decide) ?_
          refine qa_aload_n hΓ dX0_nextSlot_50 rfl ?_
          refine qa_get hΓ dX0_nextSlot_51 fk_X0_27 hB.lt hB.o rfl ?_
          refine qa_iload hΓ dX0_nextSlot_54 rfl ?_
          refine qa_iconst (v := nI 1) hΓ dX0_nextSlot_56 ic_1 ?_
          refine qz_iadd hΓ dX0_nextSlot_57 ?_
          refine qc_N1 hΓ dX0_nextSlot_58 nk_X0_73 vw_X5_at (by omega) (c_X5_at l (d - 1) (hB.lti (i := 6) (by decide)) hB.a5 _ (by omega) (by decide)) rfl rfl (Nat.le_of_ble_eq_true rfl) ?_
          rw [(hR0.2.2.2.1 r hr).2]
          refine qa_istore hΓ dX0_nextSlot_61 (by decide) ?_
          refine qa_iload hΓ dX0_nextSlot_63 rfl ?_
          refine qa_iload_n hΓ dX0_nextSlot_65 rfl ?_
          refine qz_icmp_ge (tgt := 75) hΓ dX0_nextSlot_66 (by decide) (by omega) (by omega) (fun h_66 => ?_) (fun h_66 => ?_)
          · have hA1 := hA.2 (by omega)
            have hE := hA1.step2 (slB hW hBd hr) hQ2 (rk_lt (by omega))
            have hle2 := hA1.le
            refine qa_iload hΓ dX0_nextSlot_75 rfl ?_
            refine qa_iload_n hΓ dX0_nextSlot_77 rfl ?_
            refine qz_icmp_ge (tgt := 89) hΓ dX0_nextSlot_78 (by decide) (by omega) (by omega) (fun h_78 => ?_) (fun h_78 => ?_)
            · have hE1 := hE.2 (by omega)
              refine qz_iinc hΓ dX0_nextSlot_89 ii_1 rfl (by decide) ?_
              refine qa_goto (tgt := 8) hΓ dX0_nextSlot_92 (by decide) ?_
              refine ih (p + 1) (ov) _ _ _ _ _ hvn (by omega) (by omega) (hE1.congr hQn)
            · have hE1 := hE.1 (by omega)
              refine qa_iload hΓ dX0_nextSlot_81 rfl ?_
              refine qa_iconst (v := nI 1) hΓ dX0_nextSlot_83 ic_1 ?_
              refine qz_iadd hΓ dX0_nextSlot_84 ?_
              refine qa_istore_n hΓ dX0_nextSlot_85 (by decide) ?_
              refine qa_iload hΓ dX0_nextSlot_86 rfl ?_
              refine qa_istore_n hΓ dX0_nextSlot_88 (by decide) ?_
              refine qz_iinc hΓ dX0_nextSlot_89 ii_1 rfl (by decide) ?_
              refine qa_goto (tgt := 8) hΓ dX0_nextSlot_92 (by decide) ?_
              refine ih (p + 1) (some (4 * r + 2)) _ _ _ _ _ (by show _ = nI (slE _); unfold slE; rw [if_pos (by omega)]; congr 1; omega) (by omega) (by omega) (hE1.congr hQn)
          · have hA1 := hA.1 (by omega)
            have hE := hA1.step2 (slB hW hBd hr) hQ2 (rk_lt (by omega))
            have hle2 := hA1.le
            refine qa_iload hΓ dX0_nextSlot_69 rfl ?_
            refine qa_istore_n hΓ dX0_nextSlot_71 (by decide) ?_
            refine qa_iload hΓ dX0_nextSlot_72 rfl ?_
            refine qa_istore_n hΓ dX0_nextSlot_74 (by decide) ?_
            refine qa_iload hΓ dX0_nextSlot_75 rfl ?_
            refine qa_iload_n hΓ dX0_nextSlot_77 rfl ?_
            refine qz_icmp_ge (tgt := 89) hΓ dX0_nextSlot_78 (by decide) (by omega) (by omega) (fun h_78 => ?_) (fun h_78 => ?_)
            · have hE1 := hE.2 (by omega)
              refine qz_iinc hΓ dX0_nextSlot_89 ii_1 rfl (by decide) ?_
              refine qa_goto (tgt := 8) hΓ dX0_nextSlot_92 (by decide) ?_
              refine ih (p + 1) (some (4 * r + (vv s r 8 - 1))) _ _ _ _ _ (by show _ = nI (slE _); unfold slE; rw [if_neg (by omega)]; congr 1; omega) (by omega) (by omega) (hE1.congr hQn)
            · have hE1 := hE.1 (by omega)
              refine qa_iload hΓ dX0_nextSlot_81 rfl ?_
              refine qa_iconst (v := nI 1) hΓ dX0_nextSlot_83 ic_1 ?_
              refine qz_iadd hΓ dX0_nextSlot_84 ?_
              refine qa_istore_n hΓ dX0_nextSlot_85 (by decide) ?_
              refine qa_iload hΓ dX0_nextSlot_86 rfl ?_
              refine qa_istore_n hΓ dX0_nextSlot_88 (by decide) ?_
              refine qz_iinc hΓ dX0_nextSlot_89 ii_1 rfl (by decide) ?_
              refine qa_goto (tgt := 8) hΓ dX0_nextSlot_92 (by decide) ?_
              refine ih (p + 1) (some (4 * r + 2)) _ _ _ _ _ (by show _ = nI (slE _); unfold slE; rw [if_pos (by omega)]; congr 1; omega) (by omega) (by omega) (hE1.congr hQn)
        · refine qa_aload_n hΓ dX0_nextSlot_22 rfl ?_
          refine qa_get hΓ dX0_nextSlot_23 fk_X0_37 hB.lt hB.o rfl ?_
          rw [e60]
          refine qa_iconst (v := nI 1) hΓ dX0_nextSlot_26 ic_1 ?_
          refine qz_isub hΓ dX0_nextSlot_27 (by omega) ?_
          refine qa_iload hΓ dX0_nextSlot_28 rfl ?_
          refine qz_isub hΓ dX0_nextSlot_30 (by omega) ?_
          refine qa_goto (tgt := 36) hΓ dX0_nextSlot_31 (by decide) ?_
          refine qz_imul hΓ dX0_nextSlot_36 ?_
          obtain ⟨r, hrr⟩ : ∃ r, r = s 1 - 1 - p := ⟨_, rfl⟩
          rw [← hrr]
          have hr : r < s 1 := by omega
          have hQr : ∀ e, Qp (s 1) rev p e → rk rev e < 4 * (if rev then 7 - r else r) := fun e he => by
            obtain ⟨q1, q2⟩ := he
            unfold rk
            rw [h_19] at q2 ⊢
            simp only [if_true, Bool.false_eq_true, if_false] at q2 ⊢
            omega
          have hrk : ∀ j, j < 4 → rk rev (4 * r + j) = 4 * (if rev then 7 - r else r) + j := fun j hj => by
            unfold rk
            rw [h_19]
            simp only [if_true, Bool.false_eq_true, if_false] <;> omega
          have hr4 : (if rev then 7 - r else r) < 8 := by split <;> omega
          have hQn : ∀ e, ((Qp (s 1) rev p e ∨ (e / 4 = r ∧ e % 4 ≠ 2)) ∨ (e / 4 = r ∧ e % 4 = 2)) ↔ Qp (s 1) rev (p + 1) e := fun e => by
            unfold Qp
            rw [h_19]
            simp only [if_true, Bool.false_eq_true, if_false]
            omega
          have w2 := hW.c2 hr (x := 8) (by omega)
          have hA := hI.step (slA hW hBd hr) (fun e he => by have := hQr e he; rw [hrk _ (by omega)]; omega) (rk_lt (by omega))
          have hdA : duA s r ≤ NV := by rcases slA hW hBd hr with ⟨q, _⟩ | ⟨_, _, _, q, _⟩ <;> omega
          have hdE : duE s r ≤ NV := by rcases slB hW hBd hr with ⟨q, _⟩ | ⟨_, _, _, q, _⟩ <;> omega
          have hQ2 : ∀ e, (Qp (s 1) rev p e ∨ (e / 4 = r ∧ e % 4 ≠ 2)) → wtB s e = true → rk rev e < rk rev (4 * r + 2) := fun e he hw => by
            rw [hrk 2 (by decide)]
            rcases he with he | he
            · have := hQr e he; omega
            · rcases slA hW hBd hr with ⟨_, q⟩ | ⟨_, _, _, _, q⟩
              · rw [q e he] at hw; cases hw
              · rw [q e he hw, hrk _ (by omega)]; omega
          refine qa_istore hΓ dX0_nextSlot_37 (by decide) ?_
          refine qa_aload_n hΓ dX0_nextSlot_39 rfl ?_
          refine qa_get hΓ dX0_nextSlot_40 fk_X0_27 hB.lt hB.o rfl ?_
          refine qa_iload hΓ dX0_nextSlot_43 rfl ?_
          refine qc_N1 hΓ dX0_nextSlot_45 nk_X0_73 vw_X5_at (by omega) (c_X5_at l (d - 1) (hB.lti (i := 6) (by decide)) hB.a5 _ (by omega) (by decide)) rfl rfl (Nat.le_of_ble_eq_true rfl) ?_
          rw [(hR0.2.2.2.1 r hr).1]
          refine qa_istore hΓ dX0_nextSlot_48 (by decide) ?_
          refine qa_aload_n hΓ dX0_nextSlot_50 rfl ?_
          refine qa_get hΓ dX0_nextSlot_51 fk_X0_27 hB.lt hB.o rfl ?_
          refine qa_iload hΓ dX0_nextSlot_54 rfl ?_
          refine qa_iconst (v := nI 1) hΓ dX0_nextSlot_56 ic_1 ?_
          refine qz_iadd hΓ dX0_nextSlot_57 ?_
          refine qc_N1 hΓ dX0_nextSlot_58 nk_X0_73 vw_X5_at (by omega) (c_X5_at l (d - 1) (hB.lti (i := 6) (by decide)) hB.a5 _ (by omega) (by decide)) rfl rfl (Nat.le_of_ble_eq_true rfl) ?_
          rw [(hR0.2.2.2.1 r hr).2]
          refine qa_istore hΓ dX0_nextSlot_61 (by decide) ?_
          refine qa_iload hΓ dX0_nextSlot_63 rfl ?_
          refine qa_iload_n hΓ dX0_nextSlot_65 rfl ?_
          refine qz_icmp_ge (tgt := 75) hΓ dX0_nextSlot_66 (by decide) (by omega) (by omega) (fun h_66 => ?_) (fun h_66 => ?_)
          · have hA1 := hA.2 (by omega)
            have hE := hA1.step2 (slB hW hBd hr) hQ2 (rk_lt (by omega))
            have hle2 := hA1.le
            refine qa_iload hΓ dX0_nextSlot_75 rfl ?_
            refine qa_iload_n hΓ dX0_nextSlot_77 rfl ?_
            refine qz_icmp_ge (tgt := 89) hΓ dX0_nextSlot_78 (by decide) (by omega) (by omega) (fun h_78 => ?_) (fun h_78 => ?_)
            · have hE1 := hE.2 (by omega)
              refine qz_iinc hΓ dX0_nextSlot_89 ii_1 rfl (by decide) ?_
              refine qa_goto (tgt := 8) hΓ dX0_nextSlot_92 (by decide) ?_
              refine ih (p + 1) (ov) _ _ _ _ _ hvn (by omega) (by omega) (hE1.congr hQn)
            · have hE1 := hE.1 (by omega)
              refine qa_iload hΓ dX0_nextSlot_81 rfl ?_
              refine qa_iconst (v := nI 1) hΓ dX0_nextSlot_83 ic_1 ?_
              refine qz_iadd hΓ dX0_nextSlot_84 ?_
              refine qa_istore_n hΓ dX0_nextSlot_85 (by decide) ?_
              refine qa_iload hΓ dX0_nextSlot_86 rfl ?_
              refine qa_istore_n hΓ dX0_nextSlot_88 (by decide) ?_
              refine qz_iinc hΓ dX0_nextSlot_89 ii_1 rfl (by decide) ?_
              refine qa_goto (tgt := 8) hΓ dX0_nextSlot_92 (by decide) ?_
              refine ih (p + 1) (some (4 * r + 2)) _ _ _ _ _ (by show _ = nI (slE _); unfold slE; rw [if_pos (by omega)]; congr 1; omega) (by omega) (by omega) (hE1.congr hQn)
          · have hA1 := hA.1 (by omega)
            have hE := hA1.step2 (slB hW hBd hr) hQ2 (rk_lt (by omega))
            have hle2 := hA1.le
            refine qa_iload hΓ dX0_nextSlot_69 rfl ?_
            refine qa_istore_n hΓ dX0_nextSlot_71 (by decide) ?_
            refine qa_iload hΓ dX0_nextSlot_72 rfl ?_
            refine qa_istore_n hΓ dX0_nextSlot_74 (by decide) ?_
            refine qa_iload hΓ dX0_nextSlot_75 rfl ?_
            refine qa_iload_n hΓ dX0_nextSlot_77 rfl ?_
            refine qz_icmp_ge (tgt := 89) hΓ dX0_nextSlot_78 (by decide) (by omega) (by omega) (fun h_78 => ?_) (fun h_78 => ?_)
            · have hE1 := hE.2 (by omega)
              refine qz_iinc hΓ dX0_nextSlot_89 ii_1 rfl (by decide) ?_
              refine qa_goto (tgt := 8) hΓ dX0_nextSlot_92 (by decide) ?_
              refine ih (p + 1) (some (4 * r + (vv s r 8 - 1))) _ _ _ _ _ (by show _ = nI (slE _); unfold slE; rw [if_neg (by omega)]; congr 1; omega) (by omega) (by omega) (hE1.congr hQn)
            · have hE1 := hE.1 (by omega)
              refine qa_iload hΓ dX0_nextSlot_81 rfl ?_
              refine qa_iconst (v := nI 1) hΓ dX0_nextSlot_83 ic_1 ?_
              refine qz_iadd hΓ dX0_nextSlot_84 ?_
              refine qa_istore_n hΓ dX0_nextSlot_85 (by decide) ?_
              refine qa_iload hΓ dX0_nextSlot_86 rfl ?_
              refine qa_istore_n hΓ dX0_nextSlot_88 (by decide) ?_
              refine qz_iinc hΓ dX0_nextSlot_89 ii_1 rfl (by decide) ?_
              refine qa_goto (tgt := 8) hΓ dX0_nextSlot_92 (by decide) ?_
              refine ih (p + 1) (some (4 * r + 2)) _ _ _ _ _ (by show _ = nI (slE _); unfold slE; rw [if_pos (by omega)]; congr 1; omega) (by omega) (by omega) (hE1.congr hQn)
  refine loop (s 1 + 1) 0 none (-1) NV none none none rfl (Nat.zero_le _) (by omega) (Or.inl ⟨rfl, rfl, fun e he => ?_⟩)
  unfold Qp at he
  cases rev with
  | true => simp only [if_true] at he; omega
  | false => simp only [Bool.false_eq_true, if_false] at he; omega
