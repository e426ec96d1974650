/-! The model: events, and how it settles -/
theorem Mup.of0 {M M' : Bk} {s : Nat → Nat} (h0 : M' 0 = s) (h : ∀ a, a ≠ 0 → M' a = M a) : Mup M s M' := ⟨h0, fun a h1 _ => h a (by omega), by rw [h 5 (by decide)], by rw [h 5 (by decide)], by rw [h 5 (by decide)]⟩
set_option maxRecDepth 100000 in
set_option maxHeartbeats 4000000 in
theorem c_X6_timeOf (l : Launch) (d : Nat) (hd : 1 ≤ d) {n k : Nat} {w : Nat → AC} {M : Bk} (hM : MdAt n w k M) (e : Nat) (he : e < 32) : Sq l yX6_timeOf cX6_timeOf 2 (some .int) d [aR k, aZ e] n w (Rs (some (aZ (tmO (M 0) e))) w) := by
  refine Sp.of (plainFor_of_name (by decide)) (Nat.le_of_ble_eq_true rfl) (fun Γ hΓ hR => ?_)
  show Γ 0 [aR k, aZ e] [] (0, 0) n w
  refine qa_iload_n hΓ dX6_timeOf_0 rfl ?_
  refine qa_iconst (v := nI 4) hΓ dX6_timeOf_1 ic_4 ?_
  refine qz_irem hΓ dX6_timeOf_2 (by omega) (by decide) (by decide) ?_
  refine qa_iconst (v := nI 2) hΓ dX6_timeOf_3 ic_2 ?_
  have he4 : e % 4 < 4 := Nat.mod_lt _ (by decide)
  refine qz_icmp_ne (tgt := 19) hΓ dX6_timeOf_4 (by decide) (by omega) (by omega) (fun h_4 => ?_) (fun h_4 => ?_)
  · refine qa_aload_n hΓ dX6_timeOf_19 rfl ?_
    refine qa_iload_n hΓ dX6_timeOf_20 rfl ?_
    refine qa_iconst (v := nI 4) hΓ dX6_timeOf_21 ic_4 ?_
    refine qz_idiv hΓ dX6_timeOf_22 (by omega) (by decide) (by decide) ?_
    refine qa_bipush (v := nI 9) hΓ dX6_timeOf_23 bp_9 ?_
    refine qc_V1 hΓ dX6_timeOf_25 lk_X6_37 vw_X6_of (by omega) (c_X6_of l (d - 1) hM _ _ (by omega) (by omega)) rfl hM.lt hM.o rfl rfl (Nat.le_of_ble_eq_true rfl) ?_
    exact qr_i hR dX6_timeOf_28 ⟨by simp [tmO, h_4], rfl⟩
  · refine qa_aload_n hΓ dX6_timeOf_7 rfl ?_
    refine qa_iload_n hΓ dX6_timeOf_8 rfl ?_
    refine qa_iconst (v := nI 4) hΓ dX6_timeOf_9 ic_4 ?_
    refine qz_idiv hΓ dX6_timeOf_10 (by omega) (by decide) (by decide) ?_
    refine qa_bipush (v := nI 11) hΓ dX6_timeOf_11 bp_11 ?_
    refine qc_V1 hΓ dX6_timeOf_13 lk_X6_37 vw_X6_of (by omega) (c_X6_of l (d - 1) hM _ _ (by omega) (by omega)) rfl hM.lt hM.o rfl rfl (Nat.le_of_ble_eq_true rfl) ?_
    refine qa_goto (tgt := 28) hΓ dX6_timeOf_16 (by decide) ?_
    exact qr_i hR dX6_timeOf_28 ⟨by simp [tmO, h_4], rfl⟩

set_option maxRecDepth 100000 in
set_option maxHeartbeats 4000000 in
theorem c_X6_waits (l : Launch) (d : Nat) (hd : 1 ≤ d) {n k : Nat} {w : Nat → AC} {M : Bk} (hM : MdAt n w k M) {B : Nat} (hW : Wt (M 0) B) (hB : B < 2000000000) (e : Nat) (he : e < 4 * M 0 1) : Sq l yX6_waits cX6_waits 3 (some .boolean) d [aR k, aZ e] n w (Rs (some (aZ (wtB (M 0) e).toNat)) w) := by
  refine Sp.of (plainFor_of_name (by decide)) (Nat.le_of_ble_eq_true rfl) (fun Γ hΓ hR => ?_)
  show Γ 0 [aR k, aZ e, none] [] (0, 0) n w
  have he4 : e % 4 < 4 := Nat.mod_lt _ (by decide)
  have hb8 := hW.b (r := e / 4) (x := 8) (by omega) (by decide)
  have hb10 := hW.b (r := e / 4) (x := 10) (by omega) (by decide)
  have h8 := hW.2.1
  refine qa_iload_n hΓ dX6_waits_0 rfl ?_
  refine qa_iconst (v := nI 4) hΓ dX6_waits_1 ic_4 ?_
  refine qz_irem hΓ dX6_waits_2 (by omega) (by decide) (by decide) ?_
  refine qa_istore_n hΓ dX6_waits_3 (by decide) ?_
  refine qa_iload_n hΓ dX6_waits_4 rfl ?_
  refine qa_iconst (v := nI 2) hΓ dX6_waits_5 ic_2 ?_
  refine qz_icmp_ne (tgt := 30) hΓ dX6_waits_6 (by decide) (by omega) (by omega) (fun h_6 => ?_) (fun h_6 => ?_)
  · refine qa_iload_n hΓ dX6_waits_30 rfl ?_
    refine qa_iconst (v := nI 2) hΓ dX6_waits_31 ic_2 ?_
    refine qz_icmp_ge (tgt := 54) hΓ dX6_waits_32 (by decide) (by omega) (by omega) (fun h_32 => ?_) (fun h_32 => ?_)
    · refine qa_iconst (v := nI 0) hΓ dX6_waits_54 ic_0 ?_
      exact qr_b (p := false) hR dX6_waits_55 ⟨congrArg (fun p : Bool => some (aZ p.toNat)) (show false = wtB (M 0) e by simp [wtB, *] <;> first | omega | (intro h; omega)), rfl⟩
    · refine qa_aload_n hΓ dX6_waits_35 rfl ?_
      refine qa_iload_n hΓ dX6_waits_36 rfl ?_
      refine qa_iconst (v := nI 4) hΓ dX6_waits_37 ic_4 ?_
      refine qz_idiv hΓ dX6_waits_38 (by omega) (by decide) (by decide) ?_
      refine qa_bipush (v := nI 8) hΓ dX6_waits_39 bp_8 ?_
      refine qc_V1 hΓ dX6_waits_41 lk_X6_37 vw_X6_of (by omega) (c_X6_of l (d - 1) hM _ _ (by omega) (by omega)) rfl hM.lt hM.o rfl rfl (Nat.le_of_ble_eq_true rfl) ?_
      refine qa_iload_n hΓ dX6_waits_44 rfl ?_
      refine qa_iconst (v := nI 1) hΓ dX6_waits_45 ic_1 ?_
      refine qz_iadd hΓ dX6_waits_46 ?_
      refine qz_icmp_ne (tgt := 54) hΓ dX6_waits_47 (by decide) (by omega) (by omega) (fun h_47 => ?_) (fun h_47 => ?_)
      · refine qa_iconst (v := nI 0) hΓ dX6_waits_54 ic_0 ?_
        exact qr_b (p := false) hR dX6_waits_55 ⟨congrArg (fun p : Bool => some (aZ p.toNat)) (show false = wtB (M 0) e by simp [wtB, *] <;> first | omega | (intro h; omega)), rfl⟩
      · refine qa_iconst (v := nI 1) hΓ dX6_waits_50 ic_1 ?_
        refine qa_goto (tgt := 55) hΓ dX6_waits_51 (by decide) ?_
        exact qr_b (p := true) hR dX6_waits_55 ⟨congrArg (fun p : Bool => some (aZ p.toNat)) (show true = wtB (M 0) e by simp [wtB, *] <;> first | omega | (intro h; omega)), rfl⟩
  · refine qa_aload_n hΓ dX6_waits_9 rfl ?_
    refine qa_iload_n hΓ dX6_waits_10 rfl ?_
    refine qa_iconst (v := nI 4) hΓ dX6_waits_11 ic_4 ?_
    refine qz_idiv hΓ dX6_waits_12 (by omega) (by decide) (by decide) ?_
    refine qa_bipush (v := nI 10) hΓ dX6_waits_13 bp_10 ?_
    refine qc_V1 hΓ dX6_waits_15 lk_X6_37 vw_X6_of (by omega) (c_X6_of l (d - 1) hM _ _ (by omega) (by omega)) rfl hM.lt hM.o rfl rfl (Nat.le_of_ble_eq_true rfl) ?_
    refine qa_iconst (v := nI 1) hΓ dX6_waits_18 ic_1 ?_
    refine qz_icmp_ne (tgt := 26) hΓ dX6_waits_19 (by decide) (by omega) (by omega) (fun h_19 => ?_) (fun h_19 => ?_)
    · refine qa_iconst (v := nI 0) hΓ dX6_waits_26 ic_0 ?_
      refine qa_goto (tgt := 55) hΓ dX6_waits_27 (by decide) ?_
      exact qr_b (p := false) hR dX6_waits_55 ⟨congrArg (fun p : Bool => some (aZ p.toNat)) (show false = wtB (M 0) e by simp [wtB, *] <;> first | omega | (intro h; omega)), rfl⟩
    · refine qa_iconst (v := nI 1) hΓ dX6_waits_22 ic_1 ?_
      refine qa_goto (tgt := 55) hΓ dX6_waits_23 (by decide) ?_
      exact qr_b (p := true) hR dX6_waits_55 ⟨congrArg (fun p : Bool => some (aZ p.toNat)) (show true = wtB (M 0) e by simp [wtB, *] <;> first | omega | (intro h; omega)), rfl⟩

set_option maxRecDepth 100000 in
set_option maxHeartbeats 4000000 in
theorem c_X6_isAhead (l : Launch) (d : Nat) (hd : 2 ≤ d) {n k : Nat} {w : Nat → AC} {M : Bk} (hM : MdAt n w k M) {B : Nat} (hW : Wt (M 0) B) (hB : B < 2000000000) (a b : Nat) (rev : Bool) (ha : a < 4 * M 0 1) (hb : b < 4 * M 0 1) : Sq l yX6_isAhead cX6_isAhead 4 (some .boolean) d [aR k, aZ a, aZ b, aZ rev.toNat] n w (Rs (some (aZ (ahB (M 0) a b rev).toNat)) w) := by
  refine Sp.of (plainFor_of_name (by decide)) (Nat.le_of_ble_eq_true rfl) (fun Γ hΓ hR => ?_)
  show Γ 0 [aR k, aZ a, aZ b, aZ rev.toNat] [] (0, 0) n w
  have ha4 : a / 4 ≤ a := Nat.div_le_self _ _
  have hb4 : b / 4 ≤ b := Nat.div_le_self _ _
  have hta := hW.tm ha
  have htb := hW.tm hb
  have h8 := hW.2.1
  refine qa_aload_n hΓ dX6_isAhead_0 rfl ?_
  refine qa_iload_n hΓ dX6_isAhead_1 rfl ?_
  refine qc_V1 hΓ dX6_isAhead_2 lk_X6_53 vw_X6_timeOf (by omega) (c_X6_timeOf l (d - 1) (by omega) hM _ (by omega)) rfl hM.lt hM.o rfl rfl (Nat.le_of_ble_eq_true rfl) ?_
  refine qa_aload_n hΓ dX6_isAhead_5 rfl ?_
  refine qa_iload_n hΓ dX6_isAhead_6 rfl ?_
  refine qc_V1 hΓ dX6_isAhead_7 lk_X6_53 vw_X6_timeOf (by omega) (c_X6_timeOf l (d - 1) (by omega) hM _ (by omega)) rfl hM.lt hM.o rfl rfl (Nat.le_of_ble_eq_true rfl) ?_
  refine qz_icmp_eq (tgt := 32) hΓ dX6_isAhead_10 (by decide) (by omega) (by omega) (fun h_10 => ?_) (fun h_10 => ?_)
  · refine qa_iload_n hΓ dX6_isAhead_32 rfl ?_
    refine qa_iconst (v := nI 4) hΓ dX6_isAhead_33 ic_4 ?_
    refine qz_idiv hΓ dX6_isAhead_34 (by omega) (by decide) (by decide) ?_
    refine qa_iload_n hΓ dX6_isAhead_35 rfl ?_
    refine qa_iconst (v := nI 4) hΓ dX6_isAhead_36 ic_4 ?_
    refine qz_idiv hΓ dX6_isAhead_37 (by omega) (by decide) (by decide) ?_
    refine qz_icmp_ne (tgt := 54) hΓ dX6_isAhead_38 (by decide) (by omega) (by omega) (fun h_38 => ?_) (fun h_38 => ?_)
    · refine qa_iload_n hΓ dX6_isAhead_54 rfl ?_
      refine qb_if_eq (tgt := 71) hΓ dX6_isAhead_55 (by decide) (fun h_55 => ?_) (fun h_55 => ?_)
      · refine qa_iload_n hΓ dX6_isAhead_71 rfl ?_
        refine qa_iload_n hΓ dX6_isAhead_72 rfl ?_
        refine qz_icmp_ge (tgt := 80) hΓ dX6_isAhead_73 (by decide) (by omega) (by omega) (fun h_73 => ?_) (fun h_73 => ?_)
        · refine qa_iconst (v := nI 0) hΓ dX6_isAhead_80 ic_0 ?_
          exact qr_b (p := false) hR dX6_isAhead_81 ⟨congrArg (fun p : Bool => some (aZ p.toNat)) (show false = ahB (M 0) a b rev by simp [ahB, *] <;> first | omega | (intro h; omega)), rfl⟩
        · refine qa_iconst (v := nI 1) hΓ dX6_isAhead_76 ic_1 ?_
          refine qa_goto (tgt := 81) hΓ dX6_isAhead_77 (by decide) ?_
          exact qr_b (p := true) hR dX6_isAhead_81 ⟨congrArg (fun p : Bool => some (aZ p.toNat)) (show true = ahB (M 0) a b rev by simp [ahB, *] <;> first | omega | (intro h; omega)), rfl⟩
      · refine qa_iload_n hΓ dX6_isAhead_58 rfl ?_
        refine qa_iload_n hΓ dX6_isAhead_59 rfl ?_
        refine qz_icmp_le (tgt := 67) hΓ dX6_isAhead_60 (by decide) (by omega) (by omega) (fun h_60 => ?_) (fun h_60 => ?_)
        · refine qa_iconst (v := nI 0) hΓ dX6_isAhead_67 ic_0 ?_
          refine qa_goto (tgt := 81) hΓ dX6_isAhead_68 (by decide) ?_
          exact qr_b (p := false) hR dX6_isAhead_81 ⟨congrArg (fun p : Bool => some (aZ p.toNat)) (show false = ahB (M 0) a b rev by simp [ahB, *] <;> first | omega | (intro h; omega)), rfl⟩
        · refine qa_iconst (v := nI 1) hΓ dX6_isAhead_63 ic_1 ?_
          refine qa_goto (tgt := 81) hΓ dX6_isAhead_64 (by decide) ?_
          exact qr_b (p := true) hR dX6_isAhead_81 ⟨congrArg (fun p : Bool => some (aZ p.toNat)) (show true = ahB (M 0) a b rev by simp [ahB, *] <;> first | omega | (intro h; omega)), rfl⟩
    · refine qa_iload_n hΓ dX6_isAhead_41 rfl ?_
      refine qa_iload_n hΓ dX6_isAhead_42 rfl ?_
      refine qz_icmp_ge (tgt := 50) hΓ dX6_isAhead_43 (by decide) (by omega) (by omega) (fun h_43 => ?_) (fun h_43 => ?_)
      · refine qa_iconst (v := nI 0) hΓ dX6_isAhead_50 ic_0 ?_
        refine qa_goto (tgt := 81) hΓ dX6_isAhead_51 (by decide) ?_
        exact qr_b (p := false) hR dX6_isAhead_81 ⟨congrArg (fun p : Bool => some (aZ p.toNat)) (show false = ahB (M 0) a b rev by simp [ahB, *] <;> first | omega | (intro h; omega)), rfl⟩
      · refine qa_iconst (v := nI 1) hΓ dX6_isAhead_46 ic_1 ?_
        refine qa_goto (tgt := 81) hΓ dX6_isAhead_47 (by decide) ?_
        exact qr_b (p := true) hR dX6_isAhead_81 ⟨congrArg (fun p : Bool => some (aZ p.toNat)) (show true = ahB (M 0) a b rev by simp [ahB, *] <;> first | omega | (intro h; omega)), rfl⟩
  · refine qa_aload_n hΓ dX6_isAhead_13 rfl ?_
    refine qa_iload_n hΓ dX6_isAhead_14 rfl ?_
    refine qc_V1 hΓ dX6_isAhead_15 lk_X6_53 vw_X6_timeOf (by omega) (c_X6_timeOf l (d - 1) (by omega) hM _ (by omega)) rfl hM.lt hM.o rfl rfl (Nat.le_of_ble_eq_true rfl) ?_
    refine qa_aload_n hΓ dX6_isAhead_18 rfl ?_
    refine qa_iload_n hΓ dX6_isAhead_19 rfl ?_
    refine qc_V1 hΓ dX6_isAhead_20 lk_X6_53 vw_X6_timeOf (by omega) (c_X6_timeOf l (d - 1) (by omega) hM _ (by omega)) rfl hM.lt hM.o rfl rfl (Nat.le_of_ble_eq_true rfl) ?_
    refine qz_icmp_ge (tgt := 30) hΓ dX6_isAhead_23 (by decide) (by omega) (by omega) (fun h_23 => ?_) (fun h_23 => ?_)
    · refine qa_iconst (v := nI 0) hΓ dX6_isAhead_30 ic_0 ?_
      exact qr_b (p := false) hR dX6_isAhead_31 ⟨congrArg (fun p : Bool => some (aZ p.toNat)) (show false = ahB (M 0) a b rev by simp [ahB, *] <;> first | omega | (intro h; omega)), rfl⟩
    · refine qa_iconst (v := nI 1) hΓ dX6_isAhead_26 ic_1 ?_
      refine qa_goto (tgt := 31) hΓ dX6_isAhead_27 (by decide) ?_
      exact qr_b (p := true) hR dX6_isAhead_31 ⟨congrArg (fun p : Bool => some (aZ p.toNat)) (show true = ahB (M 0) a b rev by simp [ahB, *] <;> first | omega | (intro h; omega)), rfl⟩

theorem nI_m9 (q : Nat) (h : q < 2147483648) : ¬ nI q = -9 := by
  intro e
  have h1 : (nI q).toInt = (-9 : Int32).toInt := by rw [e]
  rw [nI_toInt h, show (-9 : Int32).toInt = -9 by decide] at h1
  omega
set_option maxRecDepth 100000 in
set_option maxHeartbeats 4000000 in
theorem c_X6_next (l : Launch) (d : Nat) (hd : 3 ≤ d) {n k : Nat} {w : Nat → AC} {M : Bk} (hM : MdAt n w k M) {B : Nat} (hW : Wt (M 0) B) (hB : B < 2000000000) (rev : Bool) : Sq l yX6_next cX6_next 4 (some .int) d [aR k, aZ rev.toNat] n w (Rs (some (aI (nI9 (nx (M 0) rev)))) w) := by
  refine Sp.of (plainFor_of_name (by decide)) (Nat.le_of_ble_eq_true rfl) (fun Γ hΓ hR => ?_)
  show Γ 0 [aR k, aZ rev.toNat, none, none] [] (0, 0) n w
  have h8 : M 0 1 ≤ 8 := hW.2.1
  have loop : ∀ (m i : Nat), i ≤ 4 * M 0 1 → 4 * M 0 1 < i + m → Γ 5 [aR k, aZ rev.toNat, aI (nI9 (nxt (M 0) rev i)), aZ i] [] (0, 0) n w := by
    intro m
    induction m with
    | zero => intro i h1 h2; exact absurd h2 (by omega)
    | succ m ih =>
      intro i hi hm
      cases ho : nxt (M 0) rev i with
      | none =>
        show Γ 5 [aR k, aZ rev.toNat, aI (-9), aZ i] [] (0, 0) n w
        refine qa_iload_n hΓ dX6_next_5 rfl ?_
        refine qa_iconst (v := nI 4) hΓ dX6_next_6 ic_4 ?_
        refine qa_aload_n hΓ dX6_next_7 rfl ?_
        refine qa_get hΓ dX6_next_8 fk_X6_7 hM.lt hM.o rfl ?_
        refine qa_iconst (v := nI 1) hΓ dX6_next_11 ic_1 ?_
        refine qz_iald hΓ dX6_next_12 (hM.lti (i := 1) (by decide)) hM.a0 (by omega) (by decide) ?_
        refine qz_imul hΓ dX6_next_13 ?_
        refine qz_icmp_ge (tgt := 53) hΓ dX6_next_14 (by decide) (by omega) (by omega) (fun h_14 => ?_) (fun h_14 => ?_)
        · refine qa_iload_n hΓ dX6_next_53 rfl ?_
          exact qr_i hR dX6_next_54 ⟨by show _ = some (aI (nI9 (nxt (M 0) rev (4 * M 0 1)))); rw [show 4 * M 0 1 = i by omega, ho]; rfl, rfl⟩
        · refine qa_aload_n hΓ dX6_next_17 rfl ?_
          refine qa_iload_n hΓ dX6_next_18 rfl ?_
          refine qc_V1 hΓ dX6_next_19 lk_X6_57 vw_X6_waits (by omega) (c_X6_waits l (d - 1) (by omega) hM hW (by omega) _ (by omega)) rfl hM.lt hM.o rfl rfl (Nat.le_of_ble_eq_true rfl) ?_
          refine qb_if_eq (tgt := 45) hΓ dX6_next_22 (by decide) (fun h_22 => ?_) (fun h_22 => ?_)
          · refine qa_iload_n hΓ dX6_next_45 rfl ?_
            refine qa_istore_n hΓ dX6_next_46 (by decide) ?_
            refine qz_iinc hΓ dX6_next_47 ii_1 rfl (by decide) ?_
            refine qa_goto (tgt := 5) hΓ dX6_next_50 (by decide) ?_
            have e : nxt (M 0) rev (i + 1) = none := by
              show (if _ then _ else _) = _
              exact (if_neg (by simp [ahO, *])).trans ho
            have h9 := ih (i + 1) (by omega) (by omega)
            rw [e] at h9
            exact h9
          · refine qa_iload_n hΓ dX6_next_25 rfl ?_
            refine qa_bipush (v := (-9)) hΓ dX6_next_26 bp_m9 ?_
            refine qa_icmp_eq (tgt := 41) hΓ dX6_next_28 (by decide) (fun _ => ?_) (fun h => absurd rfl h)
            refine qa_iload_n hΓ dX6_next_41 rfl ?_
            refine qa_goto (tgt := 46) hΓ dX6_next_42 (by decide) ?_
            refine qa_istore_n hΓ dX6_next_46 (by decide) ?_
            refine qz_iinc hΓ dX6_next_47 ii_1 rfl (by decide) ?_
            refine qa_goto (tgt := 5) hΓ dX6_next_50 (by decide) ?_
            have e : nxt (M 0) rev (i + 1) = some i := by
              show (if _ then _ else _) = _
              exact if_pos (by simp [ahO, *])
            have h9 := ih (i + 1) (by omega) (by omega)
            rw [e] at h9
            exact h9
      | some q =>
        have hq := nxt_lt ho
        show Γ 5 [aR k, aZ rev.toNat, aZ q, aZ i] [] (0, 0) n w
        refine qa_iload_n hΓ dX6_next_5 rfl ?_
        refine qa_iconst (v := nI 4) hΓ dX6_next_6 ic_4 ?_
        refine qa_aload_n hΓ dX6_next_7 rfl ?_
        refine qa_get hΓ dX6_next_8 fk_X6_7 hM.lt hM.o rfl ?_
        refine qa_iconst (v := nI 1) hΓ dX6_next_11 ic_1 ?_
        refine qz_iald hΓ dX6_next_12 (hM.lti (i := 1) (by decide)) hM.a0 (by omega) (by decide) ?_
        refine qz_imul hΓ dX6_next_13 ?_
        refine qz_icmp_ge (tgt := 53) hΓ dX6_next_14 (by decide) (by omega) (by omega) (fun h_14 => ?_) (fun h_14 => ?_)
        · refine qa_iload_n hΓ dX6_next_53 rfl ?_
          exact qr_i hR dX6_next_54 ⟨by show _ = some (aI (nI9 (nxt (M 0) rev (4 * M 0 1)))); rw [show 4 * M 0 1 = i by omega, ho]; rfl, rfl⟩
        · refine qa_aload_n hΓ dX6_next_17 rfl ?_
          refine qa_iload_n hΓ dX6_next_18 rfl ?_
          refine qc_V1 hΓ dX6_next_19 lk_X6_57 vw_X6_waits (by omega) (c_X6_waits l (d - 1) (by omega) hM hW (by omega) _ (by omega)) rfl hM.lt hM.o rfl rfl (Nat.le_of_ble_eq_true rfl) ?_
          refine qb_if_eq (tgt := 45) hΓ dX6_next_22 (by decide) (fun h_22 => ?_) (fun h_22 => ?_)
          · refine qa_iload_n hΓ dX6_next_45 rfl ?_
            refine qa_istore_n hΓ dX6_next_46 (by decide) ?_
            refine qz_iinc hΓ dX6_next_47 ii_1 rfl (by decide) ?_
            refine qa_goto (tgt := 5) hΓ dX6_next_50 (by decide) ?_
            have e : nxt (M 0) rev (i + 1) = some q := by
              show (if _ then _ else _) = _
              exact (if_neg (by simp [ahO, *])).trans ho
            have h9 := ih (i + 1) (by omega) (by omega)
            rw [e] at h9
            exact h9
          · refine qa_iload_n hΓ dX6_next_25 rfl ?_
            refine qa_bipush (v := (-9)) hΓ dX6_next_26 bp_m9 ?_
            refine qa_icmp_eq (tgt := 41) hΓ dX6_next_28 (by decide) (fun h => absurd h (nI_m9 q (by omega))) (fun _ => ?_)
            refine qa_aload_n hΓ dX6_next_31 rfl ?_
            refine qa_iload_n hΓ dX6_next_32 rfl ?_
            refine qa_iload_n hΓ dX6_next_33 rfl ?_
            refine qa_iload_n hΓ dX6_next_34 rfl ?_
            refine qc_V1 hΓ dX6_next_35 lk_X6_61 vw_X6_isAhead (by omega) (c_X6_isAhead l (d - 1) (by omega) hM hW (by omega) _ _ _ (by omega) (by omega)) rfl hM.lt hM.o rfl rfl (Nat.le_of_ble_eq_true rfl) ?_
            refine qb_if_eq (tgt := 45) hΓ dX6_next_38 (by decide) (fun h_38 => ?_) (fun h_38 => ?_)
            · refine qa_iload_n hΓ dX6_next_45 rfl ?_
              refine qa_istore_n hΓ dX6_next_46 (by decide) ?_
              refine qz_iinc hΓ dX6_next_47 ii_1 rfl (by decide) ?_
              refine qa_goto (tgt := 5) hΓ dX6_next_50 (by decide) ?_
              have e : nxt (M 0) rev (i + 1) = some q := by
                show (if _ then _ else _) = _
                exact (if_neg (by simp [ahO, *])).trans ho
              have h9 := ih (i + 1) (by omega) (by omega)
              rw [e] at h9
              exact h9
            · refine qa_iload_n hΓ dX6_next_41 rfl ?_
              refine qa_goto (tgt := 46) hΓ dX6_next_42 (by decide) ?_
              refine qa_istore_n hΓ dX6_next_46 (by decide) ?_
              refine qz_iinc hΓ dX6_next_47 ii_1 rfl (by decide) ?_
              refine qa_goto (tgt := 5) hΓ dX6_next_50 (by decide) ?_
              have e : nxt (M 0) rev (i + 1) = some i := by
                show (if _ then _ else _) = _
                exact if_pos (by simp [ahO, *])
              have h9 := ih (i + 1) (by omega) (by omega)
              rw [e] at h9
              exact h9
  refine qa_bipush (v := (-9)) hΓ dX6_next_0 bp_m9 ?_
  refine qa_istore_n hΓ dX6_next_2 (by decide) ?_
  refine qa_iconst (v := nI 0) hΓ dX6_next_3 ic_0 ?_
  refine qa_istore_n hΓ dX6_next_4 (by decide) ?_
  exact loop (4 * M 0 1 + 1) 0 (Nat.zero_le _) (by omega)

set_option maxRecDepth 100000 in
set_option maxHeartbeats 4000000 in
theorem c_X6_happens (l : Launch) (d : Nat) (hd : 3 ≤ d) {n k : Nat} {w : Nat → AC} {M : Bk} (hM : MdAt n w k M) {B : Nat} (hW : Wt (M 0) B) (hB : B < 1900000000) (e : Nat) (he : e < 4 * M 0 1) (hk : e % 4 < 3) : Sq l yX6_happens cX6_happens 4 none d [aR k, aZ e] n w (Qn (PS n k M (hap (M 0) e) w)) := by
  refine Sp.of (plainFor_of_name (by decide)) (Nat.le_of_ble_eq_true rfl) (fun Γ hΓ hR => ?_)
  show Γ 0 [aR k, aZ e, none, none] [] (0, 0) n w
  have tail : ∀ (w1 : Nat → AC) (M1 : Bk), MdAt n w1 k M1 → Mup M (hp1 (M 0) e) M1 → Fr k 6 w w1 → ∀ u v, Γ 113 [aR k, aZ e, u, v] [] (0, 0) n w1 := by
    intro w M1 hM hU hF0 u v
    refine qa_aload_n hΓ dX6_happens_113 rfl ?_
    refine qa_dup hΓ dX6_happens_114 ?_
    refine qa_get hΓ dX6_happens_115 fk_X6_65 hM.lt hM.o rfl ?_
    refine qa_aload_n hΓ dX6_happens_118 rfl ?_
    refine qc_V1q hΓ dX6_happens_119 lk_X6_68 vw_X6_looks (by omega) (c_X6_looks l (d - 1) (by omega) hM (by rw [hU.1]; exact hW.hp1 he) (by omega)) rfl hM.lt hM.o rfl rfl (Nat.le_of_ble_eq_true rfl) (fun w hq => ?_)
    obtain ⟨M2, hM, hU2, hF⟩ := hq
    have hF0 := hF0.tr hF
    refine qz_iadd hΓ dX6_happens_122 ?_
    refine qM_put hΓ 2 dX6_happens_123 fk_X6_65 (by decide) hM (fun w hM hF => ?_)
    have hF0 := hF0.tr hF
    exact qr_v hR dX6_happens_126 ⟨rfl, _, hM, by rw [hU.1] at hU2; exact (hU.tr hU2).chg _, hF0⟩
  have he4 : e % 4 < 3 := by omega
  have h8 := hW.2.1
  have hb7 := hW.b (r := e / 4) (x := 7) (by omega) (by decide)
  have hb2 := hW.b (r := e / 4) (x := 2) (by omega) (by decide)
  have hF0 : Fr k 6 w w := Fr.rf
  refine qa_iload_n hΓ dX6_happens_0 rfl ?_
  refine qa_iconst (v := nI 4) hΓ dX6_happens_1 ic_4 ?_
  refine qz_idiv hΓ dX6_happens_2 (by omega) (by decide) (by decide) ?_
  refine qa_istore_n hΓ dX6_happens_3 (by decide) ?_
  refine qa_iload_n hΓ dX6_happens_4 rfl ?_
  refine qa_iconst (v := nI 4) hΓ dX6_happens_5 ic_4 ?_
  refine qz_irem hΓ dX6_happens_6 (by omega) (by decide) (by decide) ?_
  refine qa_istore_n hΓ dX6_happens_7 (by decide) ?_
  refine qa_aload_n hΓ dX6_happens_8 rfl ?_
  refine qa_get hΓ dX6_happens_9 fk_X6_7 hM.lt hM.o rfl ?_
  refine qa_iconst (v := nI 2) hΓ dX6_happens_12 ic_2 ?_
  refine qa_aload_n hΓ dX6_happens_13 rfl ?_
  refine qa_iload_n hΓ dX6_happens_14 rfl ?_
  refine qc_V1 hΓ dX6_happens_15 lk_X6_53 vw_X6_timeOf (by omega) (c_X6_timeOf l (d - 1) (by omega) hM _ (by omega)) rfl hM.lt hM.o rfl rfl (Nat.le_of_ble_eq_true rfl) ?_
  refine qM_ast hΓ (N := 203) 0 (by decide) rfl rfl dX6_happens_18 hM (by omega) (fun w hM hF => ?_)
  have hF0 := hF0.tr hF
  refine qa_iload_n hΓ dX6_happens_19 rfl ?_
  refine qa_iconst (v := nI 2) hΓ dX6_happens_20 ic_2 ?_
  refine qz_icmp_ne (tgt := 42) hΓ dX6_happens_21 (by decide) (by omega) (by omega) (fun h_21 => ?_) (fun h_21 => ?_)
  · refine qa_aload_n hΓ dX6_happens_42 rfl ?_
    refine qa_iload_n hΓ dX6_happens_43 rfl ?_
    refine qa_bipush (v := nI 8) hΓ dX6_happens_44 bp_8 ?_
    refine qa_iconst (v := nI 0) hΓ dX6_happens_46 ic_0 ?_
    refine qc_V0q hΓ dX6_happens_47 lk_X6_49 vw_X6_puts (by omega) (c_X6_puts l (d - 1) hM _ _ _ (by omega) (by omega)) rfl hM.lt hM.o rfl rfl (Nat.le_of_ble_eq_true rfl) (fun w hq => ?_)
    obtain ⟨hM, hF⟩ := hq
    have hF0 := hF0.tr hF
    refine qa_aload_n hΓ dX6_happens_50 rfl ?_
    refine qa_iload_n hΓ dX6_happens_51 rfl ?_
    refine qa_bipush (v := nI 7) hΓ dX6_happens_52 bp_7 ?_
    refine qc_V1 hΓ dX6_happens_54 lk_X6_37 vw_X6_of (by omega) (c_X6_ofE l (d - 1) hM (e / 4) 7 (by omega) (by decide) (y := vv (M 0) (e / 4) 7) (by simp [sset, bset_eq, vv_up, vv_hd])) rfl hM.lt hM.o rfl rfl (Nat.le_of_ble_eq_true rfl) ?_
    refine qz_if_ne (tgt := 113) hΓ dX6_happens_57 (by decide) (by omega) (fun h_57 => ?_) (fun h_57 => ?_)
    · obtain ⟨M1, hM, hU⟩ : ∃ M1, MdAt n w k M1 ∧ Mup M (hp1 (M 0) e) M1 := ⟨_, hM, Mup.of0 (by simp [hp1, sset, bset_eq, vv_up, vv_hd, upN, *]) (fun a ha => by simp [sset, bset, ha])⟩
      exact tail w M1 hM hU hF0 _ _
    · refine qa_aload_n hΓ dX6_happens_60 rfl ?_
      refine qa_iload_n hΓ dX6_happens_61 rfl ?_
      refine qa_iconst (v := nI 3) hΓ dX6_happens_62 ic_3 ?_
      refine qa_iconst (v := nI 1) hΓ dX6_happens_63 ic_1 ?_
      refine qa_iload_n hΓ dX6_happens_64 rfl ?_
      refine qz_isub hΓ dX6_happens_65 (by omega) ?_
      refine qc_V0q hΓ dX6_happens_66 lk_X6_49 vw_X6_puts (by omega) (c_X6_puts l (d - 1) hM _ _ _ (by omega) (by omega)) rfl hM.lt hM.o rfl rfl (Nat.le_of_ble_eq_true rfl) (fun w hq => ?_)
      obtain ⟨hM, hF⟩ := hq
      have hF0 := hF0.tr hF
      refine qa_aload_n hΓ dX6_happens_69 rfl ?_
      refine qa_iload_n hΓ dX6_happens_70 rfl ?_
      refine qa_iconst (v := nI 2) hΓ dX6_happens_71 ic_2 ?_
      refine qc_V1 hΓ dX6_happens_72 lk_X6_37 vw_X6_of (by omega) (c_X6_ofE l (d - 1) hM (e / 4) 2 (by omega) (by decide) (y := vv (M 0) (e / 4) 2) (by simp [sset, bset_eq, vv_up, vv_hd])) rfl hM.lt hM.o rfl rfl (Nat.le_of_ble_eq_true rfl) ?_
      refine qz_if_le (tgt := 113) hΓ dX6_happens_75 (by decide) (by omega) (fun h_75 => ?_) (fun h_75 => ?_)
      · obtain ⟨M1, hM, hU⟩ : ∃ M1, MdAt n w k M1 ∧ Mup M (hp1 (M 0) e) M1 := ⟨_, hM, Mup.of0 (by simp [hp1, sset, bset_eq, vv_up, vv_hd, upN, *]) (fun a ha => by simp [sset, bset, ha])⟩
        exact tail w M1 hM hU hF0 _ _
      · refine qa_aload_n hΓ dX6_happens_78 rfl ?_
        refine qa_iload_n hΓ dX6_happens_79 rfl ?_
        refine qa_iconst (v := nI 5) hΓ dX6_happens_80 ic_5 ?_
        refine qa_iconst (v := nI 1) hΓ dX6_happens_81 ic_1 ?_
        refine qc_V0q hΓ dX6_happens_82 lk_X6_49 vw_X6_puts (by omega) (c_X6_puts l (d - 1) hM _ _ _ (by omega) (by omega)) rfl hM.lt hM.o rfl rfl (Nat.le_of_ble_eq_true rfl) (fun w hq => ?_)
        obtain ⟨hM, hF⟩ := hq
        have hF0 := hF0.tr hF
        refine qa_aload_n hΓ dX6_happens_85 rfl ?_
        refine qa_iload_n hΓ dX6_happens_86 rfl ?_
        refine qa_bipush (v := nI 10) hΓ dX6_happens_87 bp_10 ?_
        refine qa_iconst (v := nI 1) hΓ dX6_happens_89 ic_1 ?_
        refine qc_V0q hΓ dX6_happens_90 lk_X6_49 vw_X6_puts (by omega) (c_X6_puts l (d - 1) hM _ _ _ (by omega) (by omega)) rfl hM.lt hM.o rfl rfl (Nat.le_of_ble_eq_true rfl) (fun w hq => ?_)
        obtain ⟨hM, hF⟩ := hq
        have hF0 := hF0.tr hF
        refine qa_aload_n hΓ dX6_happens_93 rfl ?_
        refine qa_iload_n hΓ dX6_happens_94 rfl ?_
        refine qa_bipush (v := nI 11) hΓ dX6_happens_95 bp_11 ?_
        refine qa_aload_n hΓ dX6_happens_97 rfl ?_
        refine qa_get hΓ dX6_happens_98 fk_X6_7 hM.lt hM.o rfl ?_
        refine qa_iconst (v := nI 2) hΓ dX6_happens_101 ic_2 ?_
        refine qz_iald hΓ dX6_happens_102 (hM.lti (i := 1) (by decide)) hM.a0 (by omega) (by decide) ?_
        refine qa_aload_n hΓ dX6_happens_103 rfl ?_
        refine qa_iload_n hΓ dX6_happens_104 rfl ?_
        refine qa_iconst (v := nI 2) hΓ dX6_happens_105 ic_2 ?_
        refine qc_V1 hΓ dX6_happens_106 lk_X6_37 vw_X6_of (by omega) (c_X6_ofE l (d - 1) hM (e / 4) 2 (by omega) (by decide) (y := vv (M 0) (e / 4) 2) (by simp [sset, bset_eq, vv_up, vv_hd])) rfl hM.lt hM.o rfl rfl (Nat.le_of_ble_eq_true rfl) ?_
        refine qz_iadd hΓ dX6_happens_109 ?_
        refine qc_V0q hΓ dX6_happens_110 lk_X6_49 vw_X6_puts (by omega) (c_X6_puts l (d - 1) hM _ _ _ (by omega) (by omega)) rfl hM.lt hM.o rfl rfl (Nat.le_of_ble_eq_true rfl) (fun w hq => ?_)
        obtain ⟨hM, hF⟩ := hq
        have hF0 := hF0.tr hF
        obtain ⟨M1, hM, hU⟩ : ∃ M1, MdAt n w k M1 ∧ Mup M (hp1 (M 0) e) M1 := ⟨_, hM, Mup.of0 (by simp [hp1, sset, bset_eq, vv_up, vv_hd, upN, *]) (fun a ha => by simp [sset, bset, ha])⟩
        exact tail w M1 hM hU hF0 _ _
  · refine qa_aload_n hΓ dX6_happens_24 rfl ?_
    refine qa_iload_n hΓ dX6_happens_25 rfl ?_
    refine qa_bipush (v := nI 10) hΓ dX6_happens_26 bp_10 ?_
    refine qa_iconst (v := nI 0) hΓ dX6_happens_28 ic_0 ?_
    refine qc_V0q hΓ dX6_happens_29 lk_X6_49 vw_X6_puts (by omega) (c_X6_puts l (d - 1) hM _ _ _ (by omega) (by omega)) rfl hM.lt hM.o rfl rfl (Nat.le_of_ble_eq_true rfl) (fun w hq => ?_)
    obtain ⟨hM, hF⟩ := hq
    have hF0 := hF0.tr hF
    refine qa_aload_n hΓ dX6_happens_32 rfl ?_
    refine qa_iload_n hΓ dX6_happens_33 rfl ?_
    refine qa_iconst (v := nI 5) hΓ dX6_happens_34 ic_5 ?_
    refine qa_iconst (v := nI 0) hΓ dX6_happens_35 ic_0 ?_
    refine qc_V0q hΓ dX6_happens_36 lk_X6_49 vw_X6_puts (by omega) (c_X6_puts l (d - 1) hM _ _ _ (by omega) (by omega)) rfl hM.lt hM.o rfl rfl (Nat.le_of_ble_eq_true rfl) (fun w hq => ?_)
    obtain ⟨hM, hF⟩ := hq
    have hF0 := hF0.tr hF
    refine qa_goto (tgt := 113) hΓ dX6_happens_39 (by decide) ?_
    obtain ⟨M1, hM, hU⟩ : ∃ M1, MdAt n w k M1 ∧ Mup M (hp1 (M 0) e) M1 := ⟨_, hM, Mup.of0 (by simp [hp1, sset, bset_eq, vv_up, vv_hd, upN, *]) (fun a ha => by simp [sset, bset, ha])⟩
    exact tail w M1 hM hU hF0 _ _

