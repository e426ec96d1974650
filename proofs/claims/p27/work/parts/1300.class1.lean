/-! The class: sets as numbers, a bank against the model's row -/
theorem cmb_or {a b : Nat} (ha : a < 65536) : cmb a b = b <<< 16 ||| a := by
  rw [← Nat.shiftLeft_add_eq_or_of_lt (i := 16) ha, Nat.shiftLeft_eq]
  unfold cmb
  omega
theorem cmb_bit {a b : Nat} (ha : a < 65536) (i : Nat) : (cmb a b).testBit i = if i < 16 then a.testBit i else b.testBit (i - 16) := by
  rw [cmb_or ha, Nat.testBit_or, Nat.testBit_shiftLeft]
  by_cases h : i < 16
  · rw [if_pos h]
    simp
    intro q
    omega
  · rw [if_neg h, testBit_lt (m := 16) ha (by omega)]
    simp
    omega
theorem cmb_and {a b c e : Nat} (ha : a < 65536) (hc : c < 65536) : cmb a b &&& cmb c e = cmb (a &&& c) (b &&& e) := by
  apply Nat.eq_of_testBit_eq
  intro i
  rw [Nat.testBit_and, cmb_bit ha, cmb_bit hc, cmb_bit (Nat.lt_of_le_of_lt Nat.and_le_left ha)]
  split <;> rw [Nat.testBit_and]
theorem cmb_zero {a b : Nat} : cmb a b = 0 ↔ a = 0 ∧ b = 0 := by unfold cmb; omega
theorem cmb_lt {a b : Nat} (ha : a < 65536) (hb : b < 65536) : cmb a b < 4294967296 := by unfold cmb; omega
theorem nt_bit (b i : Nat) : (65535 ^^^ b).testBit i = if i < 16 then !b.testBit i else b.testBit i := by
  rw [Nat.testBit_xor, show 65535 = 2 ^ 16 - 1 from rfl, Nat.testBit_two_pow_sub_one]
  by_cases h : i < 16 <;> simp [h]
theorem andn_bit {a b : Nat} (ha : a < 65536) (i : Nat) : (andn a b).testBit i = (a.testBit i && !b.testBit i) := by
  unfold andn
  rw [Nat.testBit_and, nt_bit]
  split
  · rfl
  · rw [testBit_lt (m := 16) ha (by omega)]; rfl
theorem andn_lt {a b : Nat} (ha : a < 65536) : andn a b < 65536 := Nat.lt_of_le_of_lt Nat.and_le_left ha
theorem not_int {a : Nat} (ha : a < 65536) : (nI a ^^^ (-1)) &&& nI 65535 = nI (65535 ^^^ a) := by
  apply Int32.toBitVec_inj.mp
  rw [Int32.toBitVec_and, Int32.toBitVec_xor, show (-1 : Int32).toBitVec = BitVec.allOnes 32 from rfl, BitVec.xor_allOnes]
  apply BitVec.eq_of_getLsbD_eq
  intro i hi
  show (~~~ (BitVec.ofNat 32 a) &&& BitVec.ofNat 32 65535).getLsbD i = (BitVec.ofNat 32 (65535 ^^^ a)).getLsbD i
  simp only [BitVec.getLsbD_and, BitVec.getLsbD_not, BitVec.getLsbD_ofNat, hi, decide_true, Bool.true_and, nt_bit]
  rw [show 65535 = 2 ^ 16 - 1 from rfl, Nat.testBit_two_pow_sub_one]
  by_cases h : i < 16
  · simp [h]
  · simp [h, testBit_lt (m := 16) ha (show 16 ≤ i by omega)]
theorem sh1_bit (r i : Nat) : (1 <<< r).testBit i = decide (i = r) := by
  rw [Nat.one_shiftLeft, Nat.testBit_two_pow]
  exact decide_eq_decide.mpr eq_comm
theorem mk_xor {p q : Nat → Bool} {n r : Nat} (hr : r < n) (h : ∀ i, i < n → q i = if i = r then !p i else p i) : mk p n ^^^ 1 <<< r = mk q n := by
  apply Nat.eq_of_testBit_eq
  intro i
  rw [Nat.testBit_xor, mk_bit, mk_bit, sh1_bit]
  by_cases hi : i < n
  · rw [h i hi]
    by_cases e : i = r <;> simp [hi, e, hr]
  · have : i ≠ r := by omega
    simp [hi, this]
theorem mk_or {p q : Nat → Bool} {n r : Nat} (hr : r < n) (h : ∀ i, i < n → q i = if i = r then true else p i) : mk p n ||| 1 <<< r = mk q n := by
  apply Nat.eq_of_testBit_eq
  intro i
  rw [Nat.testBit_or, mk_bit, mk_bit, sh1_bit]
  by_cases hi : i < n
  · rw [h i hi]
    by_cases e : i = r <;> simp [hi, e, hr]
  · have : i ≠ r := by omega
    simp [hi, this]
theorem mk_16' (p : Nat → Bool) {n : Nat} (h : n ≤ 8) : mk p n < 65536 := Nat.lt_trans (mk_256 p h) (by decide)
theorem mk_clr {p q : Nat → Bool} {n r : Nat} (h8 : n ≤ 8) (h : ∀ i, i < n → q i = if i = r then false else p i) : andn (mk p n) (1 <<< r) = mk q n := by
  apply Nat.eq_of_testBit_eq
  intro i
  rw [andn_bit (mk_16' p h8), mk_bit, mk_bit, sh1_bit]
  by_cases hi : i < n
  · rw [h i hi]
    by_cases e : i = r <;> simp [hi, e]
  · simp [hi]
abbrev NV : Nat := 2147483647
def pM (s : Nat → Nat) (x v : Nat) (r : Nat) : Bool := decide (vv s r x = v)
def duA (s : Nat → Nat) (r : Nat) : Nat := if vv s r 8 = 0 then NV else vv s r 9
def duE (s : Nat → Nat) (r : Nat) : Nat := if vv s r 10 = 0 then NV else vv s r 11
/-- a bank of the class that stands for a row of the model -/
def RepC (s : Nat → Nat) (b : Bk) : Prop := (b 6 0 = s 1 ∧ b 6 1 = s 2 ∧ b 6 2 = s 0) ∧ (∀ r, r < s 1 → b 0 r = vv s r 0 ∧ b 1 r = vv s r 1 ∧ b 2 r = vv s r 2 ∧ b 3 r = vv s r 12 ∧ ∀ j, j < vv s r 12 → b 4 (r * 6 + j) = cmb (vv s r (13 + 2 * j)) (vv s r (13 + 2 * j + 1))) ∧ (b 6 3 = mk (pM s 4 1) (s 1) ∧ b 6 4 = mk (pM s 3 1) (s 1) ∧ b 6 5 = mk (pM s 5 1) (s 1) ∧ b 6 6 = mk (pM s 7 1) (s 1) ∧ b 6 7 = mk (pM s 6 1) (s 1) ∧ b 6 8 = mk (pM s 6 2) (s 1)) ∧ (∀ r, r < s 1 → b 5 (2 * r) = duA s r ∧ b 5 (2 * r + 1) = duE s r) ∧ (∀ r, s 1 ≤ r → r < 8 → b 3 r = 0 ∧ b 5 (2 * r) = NV ∧ b 5 (2 * r + 1) = NV)
/-- what holds of each row that is reached -/
def SeC (s : Nat → Nat) : Prop := ∀ r, r < s 1 → (vv s r 8 ≠ 0 → vv s r 8 = 2 - vv s r 4 ∧ vv s r 3 ≠ vv s r 4) ∧ vv s r 5 = vv s r 10
def CC (s : Nat → Nat) : Prop := ∀ r, r < s 1 → vv s r 4 = (cnd s r (onS s)).toNat
theorem Wt.c1 {s : Nat → Nat} {B r x : Nat} (h : Wt s B) (hr : r < s 1) (hx : x = 3 ∨ x = 4 ∨ x = 5 ∨ x = 7 ∨ x = 10) : vv s r x ≤ 1 := by
  have := h.2.2.2 r hr x (by omega)
  unfold bdF at this
  repeat' split at this
  all_goals omega
theorem Wt.c2 {s : Nat → Nat} {B r x : Nat} (h : Wt s B) (hr : r < s 1) (hx : x = 6 ∨ x = 8) : vv s r x ≤ 2 := by
  have := h.2.2.2 r hr x (by omega)
  unfold bdF at this
  repeat' split at this
  all_goals omega
theorem Wt.m6 {s : Nat → Nat} {B r : Nat} (h : Wt s B) (hr : r < s 1) : vv s r 12 ≤ 6 := by
  have := h.2.2.2 r hr 12 (by decide)
  simpa [bdF] using this
theorem closed_mk {s : Nat → Nat} {B : Nat} (h : Wt s B) : andn (andn (mk (pM s 3 1) (s 1)) (mk (pM s 5 1) (s 1))) (mk (pM s 6 1) (s 1)) ||| mk (pM s 6 2) (s 1) = mk (clB s) (s 1) := by
  apply Nat.eq_of_testBit_eq
  intro i
  have h8 := h.2.1
  rw [Nat.testBit_or, andn_bit (andn_lt (mk_16' _ h8)), andn_bit (mk_16' _ h8), mk_bit, mk_bit, mk_bit, mk_bit, mk_bit]
  by_cases hi : i < s 1
  · have h1 := h.c1 hi (x := 5) (by omega)
    have h2 := h.c2 hi (x := 6) (by omega)
    unfold pM clB
    simp only [hi, decide_true, Bool.true_and]
    rw [Bool.eq_iff_iff]
    simp only [Bool.or_eq_true, Bool.and_eq_true, Bool.not_eq_true', decide_eq_true_eq, decide_eq_false_iff_not]
    omega
  · simp [hi]
def Fn (on : Nat) : Nat := cmb (65535 ^^^ on) on
theorem nt_lt {on : Nat} (h : on < 65536) : 65535 ^^^ on < 65536 := Nat.xor_lt_two_pow (n := 16) (by decide) h
theorem Fn_lt {on : Nat} (h : on < 65536) : Fn on < 4294967296 := cmb_lt (nt_lt h) h
theorem nt_and {a on : Nat} (ha : a < 65536) : a &&& (65535 ^^^ on) = 0 ↔ a &&& on = a := by
  constructor
  · intro h
    apply Nat.eq_of_testBit_eq
    intro i
    have h1 : (a &&& (65535 ^^^ on)).testBit i = false := by rw [h]; exact Nat.zero_testBit i
    rw [Nat.testBit_and, nt_bit] at h1
    rw [Nat.testBit_and]
    by_cases hi : i < 16
    · rw [if_pos hi] at h1
      cases q : a.testBit i <;> cases q2 : on.testBit i <;> simp [q, q2] at h1 ⊢
    · rw [testBit_lt (m := 16) ha (by omega)]
      rfl
  · intro h
    apply Nat.eq_of_testBit_eq
    intro i
    rw [Nat.testBit_and, nt_bit, Nat.zero_testBit]
    have h1 : (a &&& on).testBit i = a.testBit i := by rw [h]
    rw [Nat.testBit_and] at h1
    by_cases hi : i < 16
    · rw [if_pos hi]
      cases q : a.testBit i <;> cases q2 : on.testBit i <;> simp [q, q2] at h1 ⊢
    · rw [testBit_lt (m := 16) ha (by omega)]
      rfl
theorem br_Fn {s : Nat → Nat} {B r on j : Nat} (h : Wt s B) (hr : r < s 1) (hj : j < 6) (ho : on < 65536) : (cmb (vv s r (13 + 2 * j)) (vv s r (13 + 2 * j + 1)) &&& Fn on = 0) ↔ brB s r on j = true := by
  have h1 := h.m16 hr (x := 13 + 2 * j) (by omega) (by omega)
  unfold Fn brB
  rw [cmb_and h1 (nt_lt ho), cmb_zero, nt_and h1]
  simp
theorem cdB_mono {s : Nat → Nat} {r on i : Nat} : ∀ {m}, i ≤ m → cdB s r on i = true → cdB s r on m = true
  | 0, h, q => by
    have : i = 0 := by omega
    subst this
    exact q
  | m + 1, h, q => by
    rcases Nat.lt_or_ge m i with u | u
    · have : i = m + 1 := by omega
      subst this
      exact q
    · show (cdB s r on m || brB s r on m) = true
      rw [cdB_mono u q]
      rfl
set_option maxRecDepth 100000 in
set_option maxHeartbeats 4000000 in
theorem c_X5_putB (l : Launch) (d : Nat) {n kb : Nat} {w : Nat → AC} {b : Bk} (hB : BkAt n w kb b) (i j x : Nat) (hi : i < 6) (hj : j < bkL i) : Sq l yX5_put cX5_put 3 none d [aR (kb + 1 + i), aZ j, aZ x] n w (Qn (PB n kb (bset b i j x) w)) := by
  refine Sp.of (plainFor_of_name (by decide)) (Nat.le_of_ble_eq_true rfl) (fun Γ hΓ hR => ?_)
  show Γ 0 [aR (kb + 1 + i), aZ j, aZ x] [] (0, 0) n w
  have hN : bkL i < 2147483648 := by
    unfold bkL
    repeat' split
    all_goals decide
  have hw := hB.2.2 i hi
  have hk : kb + 1 + i < n := by have := hB.1; omega
  refine qa_iconst (v := nI 0) hΓ dX5_put_0 ic_0 ?_
  refine qa_iload_n hΓ dX5_put_1 rfl ?_
  refine qz_icmp_gt (tgt := 15) hΓ dX5_put_2 (by decide) (by decide) (by omega) (fun h_2 => absurd h_2 (by omega)) (fun h_2 => ?_)
  refine qa_iload_n hΓ dX5_put_5 rfl ?_
  refine qa_aload_n hΓ dX5_put_6 rfl ?_
  refine qa_alen hΓ dX5_put_7 hk hw (by decide) rfl ?_
  refine qz_icmp_ge (tgt := 15) hΓ dX5_put_8 (by decide) (by omega) (by omega) (fun h_8 => absurd h_8 (by omega)) (fun h_8 => ?_)
  refine qa_aload_n hΓ dX5_put_11 rfl ?_
  refine qa_iload_n hΓ dX5_put_12 rfl ?_
  refine qa_iload_n hΓ dX5_put_13 rfl ?_
  refine qz_iast hΓ dX5_put_14 hk hw hj hN ?_
  exact qr_v hR dX5_put_15 ⟨rfl, hB.setA i j x hi⟩

set_option maxRecDepth 100000 in
set_option maxHeartbeats 4000000 in
theorem c_X0_closedContacts (l : Launch) (d : Nat) {n kb : Nat} {w : Nat → AC} {b : Bk} (hB : BkAt n w kb b) {s : Nat → Nat} (hR0 : RepC s b) {B : Nat} (hW : Wt s B) (hBd : B < 900000000) : Sq l yX0_closedContacts cX0_closedContacts 1 (some .int) d [aR kb] n w (Rs (some (aZ (mk (clB s) (s 1)))) w) := by
  refine Sp.of (plainFor_of_name (by decide)) (Nat.le_of_ble_eq_true rfl) (fun Γ hΓ hR => ?_)
  show Γ 0 [aR kb] [] (0, 0) n w
  obtain ⟨e3, e4, e5, e6, e7, e8⟩ := hR0.2.2.1
  have h8 := hW.2.1
  refine qa_aload_n hΓ dX0_closedContacts_0 rfl ?_
  refine qa_get hΓ dX0_closedContacts_1 fk_X0_50 hB.lt hB.o rfl ?_
  refine qa_aload_n hΓ dX0_closedContacts_4 rfl ?_
  refine qa_get hΓ dX0_closedContacts_5 fk_X0_53 hB.lt hB.o rfl ?_
  refine qa_iconst (v := -1) hΓ dX0_closedContacts_8 ic_m1 ?_
  refine qa_ixor hΓ dX0_closedContacts_9 ?_
  refine qa_iand hΓ dX0_closedContacts_10 ?_
  rw [andn_int (by rw [e4]; exact mk_16' _ h8)]
  refine qa_aload_n hΓ dX0_closedContacts_11 rfl ?_
  refine qa_get hΓ dX0_closedContacts_12 fk_X0_59 hB.lt hB.o rfl ?_
  refine qa_iconst (v := -1) hΓ dX0_closedContacts_15 ic_m1 ?_
  refine qa_ixor hΓ dX0_closedContacts_16 ?_
  refine qa_iand hΓ dX0_closedContacts_17 ?_
  rw [andn_int (andn_lt (by rw [e4]; exact mk_16' _ h8))]
  refine qa_aload_n hΓ dX0_closedContacts_18 rfl ?_
  refine qa_get hΓ dX0_closedContacts_19 fk_X0_62 hB.lt hB.o rfl ?_
  refine qz_ior hΓ dX0_closedContacts_22 ?_
  exact qr_i hR dX0_closedContacts_23 ⟨by rw [e4, e5, e7, e8, closed_mk hW], rfl⟩

set_option maxRecDepth 100000 in
set_option maxHeartbeats 4000000 in
theorem c_X0_failing (l : Launch) (d : Nat) (hd : 1 ≤ d) {n kb : Nat} {w : Nat → AC} {b : Bk} (hB : BkAt n w kb b) {s : Nat → Nat} (hR0 : RepC s b) {B : Nat} (hW : Wt s B) (hBd : B < 900000000) : Sq l yX0_failing cX0_failing 2 (some .int) d [aR kb] n w (Rs (some (aZ (Fn (onS s)))) w) := by
  refine Sp.of (plainFor_of_name (by decide)) (Nat.le_of_ble_eq_true rfl) (fun Γ hΓ hR => ?_)
  show Γ 0 [aR kb, none] [] (0, 0) n w
  refine qa_aload_n hΓ dX0_failing_0 rfl ?_
  refine qa_get hΓ dX0_failing_1 fk_X0_44 hB.lt hB.o rfl ?_
  refine qa_aload_n hΓ dX0_failing_4 rfl ?_
  refine qc_V1 hΓ dX0_failing_5 lk_X0_110 vw_X0_closedContacts (by omega) (c_X0_closedContacts l (d - 1) hB hR0 hW hBd) rfl hB.lt hB.o rfl rfl (Nat.le_of_ble_eq_true rfl) ?_
  refine qa_bipush (v := nI 8) hΓ dX0_failing_8 bp_8 ?_
  refine qz_ishl hΓ dX0_failing_10 (by omega) ?_
  refine qz_ior hΓ dX0_failing_11 ?_
  have hon := on_lt hW
  rw [hR0.1.2.2, show s 0 ||| mk (clB s) (s 1) <<< 8 = onS s from rfl]
  refine qa_istore_n hΓ dX0_failing_12 (by decide) ?_
  refine qa_iload_n hΓ dX0_failing_13 rfl ?_
  refine qa_bipush (v := nI 16) hΓ dX0_failing_14 bp_16 ?_
  refine qz_ishl hΓ dX0_failing_16 (by omega) ?_
  refine qa_iload_n hΓ dX0_failing_17 rfl ?_
  refine qa_iconst (v := -1) hΓ dX0_failing_18 ic_m1 ?_
  refine qa_ixor hΓ dX0_failing_19 ?_
  refine qa_ldc (v := nI 65535) hΓ dX0_failing_20 ck_X0_113 ?_
  refine qa_iand hΓ dX0_failing_22 ?_
  rw [not_int hon]
  refine qz_ior hΓ dX0_failing_23 ?_
  exact qr_i hR dX0_failing_24 ⟨by unfold Fn; rw [cmb_or (nt_lt hon)], rfl⟩

set_option maxRecDepth 100000 in
set_option maxHeartbeats 4000000 in
theorem c_X0_conducts (l : Launch) (d : Nat) (hd : 1 ≤ d) {n kb : Nat} {w : Nat → AC} {b : Bk} (hB : BkAt n w kb b) {s : Nat → Nat} (hR0 : RepC s b) {B : Nat} (hW : Wt s B) (hBd : B < 900000000) (r on : Nat) (hr : r < s 1) (ho : on < 65536) : Sq l yX0_conducts cX0_conducts 6 (some .boolean) d [aR kb, aZ r, aZ (Fn on)] n w (Rs (some (aZ (cnd s r on).toNat)) w) := by
  refine Sp.of (plainFor_of_name (by decide)) (Nat.le_of_ble_eq_true rfl) (fun Γ hΓ hR => ?_)
  show Γ 0 [aR kb, aZ r, aZ (Fn on), none, none, none] [] (0, 0) n w
  have h8 := hW.2.1
  have h6 := hW.m6 hr
  have loop : ∀ (m i : Nat), i ≤ vv s r 12 → vv s r 12 < i + m → cdB s r on i = false → Γ 18 [aR kb, aZ r, aZ (Fn on), aZ (r * 6), aZ (vv s r 12), aZ i] [] (0, 0) n w := by
    intro m
    induction m with
    | zero => intro i h1 h2; exact absurd h2 (by omega)
    | succ m ih =>
      intro i hi hm hz
      refine qa_iload hΓ dX0_conducts_18 rfl ?_
      refine qa_iload hΓ dX0_conducts_20 rfl ?_
      refine qz_icmp_ge (tgt := 49) hΓ dX0_conducts_22 (by decide) (by omega) (by omega) (fun h_22 => ?_) (fun h_22 => ?_)
      · refine qa_iconst (v := nI 0) hΓ dX0_conducts_49 ic_0 ?_
        exact qr_b (p := false) hR dX0_conducts_50 ⟨by rw [show cnd s r on = false from by unfold cnd; rw [show vv s r 12 = i by omega]; exact hz], rfl⟩
      · refine qa_aload_n hΓ dX0_conducts_25 rfl ?_
        refine qa_get hΓ dX0_conducts_26 fk_X0_24 hB.lt hB.o rfl ?_
        refine qa_iload_n hΓ dX0_conducts_29 rfl ?_
        refine qa_iload hΓ dX0_conducts_30 rfl ?_
        refine qz_iadd hΓ dX0_conducts_32 ?_
        refine qc_N1 hΓ dX0_conducts_33 nk_X0_73 vw_X5_at (by omega) (c_X5_at l (d - 1) (hB.lti (i := 5) (by decide)) hB.a4 _ (by omega) (by decide)) rfl rfl (Nat.le_of_ble_eq_true rfl) ?_
        rw [show b 4 (r * 6 + i) = cmb (vv s r (13 + 2 * i)) (vv s r (13 + 2 * i + 1)) from (hR0.2.1 r hr).2.2.2.2 i (by omega)]
        refine qa_iload_n hΓ dX0_conducts_36 rfl ?_
        refine qz_iand hΓ dX0_conducts_37 ?_
        have hlt : cmb (vv s r (13 + 2 * i)) (vv s r (13 + 2 * i + 1)) &&& Fn on < 4294967296 := Nat.lt_of_le_of_lt Nat.and_le_right (Fn_lt ho)
        refine qz_if_ne (tgt := 43) hΓ dX0_conducts_38 (by decide) (by omega) (fun h_38 => ?_) (fun h_38 => ?_)
        · refine qz_iinc hΓ dX0_conducts_43 ii_1 rfl (by decide) ?_
          refine qa_goto (tgt := 18) hΓ dX0_conducts_46 (by decide) ?_
          refine ih (i + 1) (by omega) (by omega) ?_
          show (cdB s r on i || brB s r on i) = false
          rw [hz, Bool.false_or, Bool.eq_false_iff]
          exact fun q => h_38 ((br_Fn hW hr (by omega) ho).mpr q)
        · refine qa_iconst (v := nI 1) hΓ dX0_conducts_41 ic_1 ?_
          exact qr_b (p := true) hR dX0_conducts_42 ⟨by rw [show cnd s r on = true from cdB_mono (i := i + 1) (by omega) (by show (cdB s r on i || brB s r on i) = true; rw [(br_Fn hW hr (by omega) ho).mp h_38, Bool.or_true])], rfl⟩
  refine qa_iload_n hΓ dX0_conducts_0 rfl ?_
  refine qa_bipush (v := nI 6) hΓ dX0_conducts_1 bp_6 ?_
  refine qz_imul hΓ dX0_conducts_3 ?_
  refine qa_istore_n hΓ dX0_conducts_4 (by decide) ?_
  refine qa_aload_n hΓ dX0_conducts_5 rfl ?_
  refine qa_get hΓ dX0_conducts_6 fk_X0_21 hB.lt hB.o rfl ?_
  refine qa_iload_n hΓ dX0_conducts_9 rfl ?_
  refine qc_N1 hΓ dX0_conducts_10 nk_X0_73 vw_X5_at (by omega) (c_X5_at l (d - 1) (hB.lti (i := 4) (by decide)) hB.a3 _ (by omega) (by decide)) rfl rfl (Nat.le_of_ble_eq_true rfl) ?_
  rw [show b 3 r = vv s r 12 from (hR0.2.1 r hr).2.2.2.1]
  refine qa_istore hΓ dX0_conducts_13 (by decide) ?_
  refine qa_iconst (v := nI 0) hΓ dX0_conducts_15 ic_0 ?_
  refine qa_istore hΓ dX0_conducts_16 (by decide) ?_
  exact loop (vv s r 12 + 1) 0 (Nat.zero_le _) (by omega) rfl
