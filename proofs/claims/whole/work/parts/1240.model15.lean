/-! The model: stable states, explanations, time that passes -/
def stI (s : Nat → Nat) (set : Nat) : Nat → Bool
  | 0 => true
  | r + 1 => stI s set r && (decide (vv s r 7 = 0) || decide (vv s r 3 = (set.testBit r).toNat))
def stO (s : Nat → Nat) (set : Nat) (r : Nat) : Bool := decide (vv s r 6 = 2) || (decide (vv s r 6 = 0) && set.testBit r)
def stC (s : Nat → Nat) (set on : Nat) : Nat → Bool
  | 0 => true
  | r + 1 => stC s set on r && (decide (vv s r 7 = 1) || (cnd s r (s 0 ||| on <<< 8) == set.testBit r))
def isSt (s : Nat → Nat) (set : Nat) : Bool := stI s set (s 1) && stC s set (mk (stO s set) (s 1)) (s 1)
def stN (s : Nat → Nat) : Nat → Nat
  | 0 => 0
  | m + 1 => stN s m + (if isSt s m then 1 else 0)
def spStable (M : Bk) (r : Int32) (M' : Bk) : Prop := r = nI (stN (M 0) (1 <<< M 0 1)) ∧ Sm M M'
theorem stC_false {s : Nat → Nat} {set on : Nat} : ∀ {i j : Nat}, i ≤ j → stC s set on i = false → stC s set on j = false
  | i, 0, h, he => by
    have : i = 0 := by omega
    subst this
    exact he
  | i, j + 1, h, he => by
    rcases Nat.lt_or_ge i (j + 1) with q | q
    · show (stC s set on j && _) = false
      rw [stC_false (i := i) (j := j) (by omega) he]
      rfl
    · have : i = j + 1 := by omega
      subst this
      exact he
theorem stN_le (s : Nat → Nat) : ∀ m, stN s m ≤ m
  | 0 => Nat.le_refl _
  | m + 1 => by
    have := stN_le s m
    unfold stN
    split <;> omega
set_option maxRecDepth 100000 in
set_option maxHeartbeats 4000000 in
theorem c_X6_isStable (l : Launch) (d : Nat) (hd : 2 ≤ d) {n k : Nat} {w : Nat → AC} {M : Bk} (hM : MdAt n w k M) {B : Nat} (hW : Wt (M 0) B) (hB : B < 900000000) (set : Nat) (hs : set < 256) : Sq l yX6_isStable cX6_isStable 6 (some .boolean) d [aR k, aZ set] n w (Rs (some (aZ (isSt (M 0) set).toNat)) w) := by
  refine Sp.of (plainFor_of_name (by decide)) (Nat.le_of_ble_eq_true rfl) (fun Γ hΓ hR => ?_)
  show Γ 0 [aR k, aZ set, none, none, none, none] [] (0, 0) n w
  have h8 := hW.2.1
  have h256 := hW.1
  have loop2 : ∀ (m i : Nat) (v : AV), i ≤ M 0 1 → M 0 1 < i + m → Γ 108 [aR k, aZ set, aZ (mk (stO (M 0) set) (M 0 1)), aZ (stI (M 0) set (M 0 1) && stC (M 0) set (mk (stO (M 0) set) (M 0 1)) i).toNat, aZ i, v] [] (0, 0) n w := by
    intro m
    induction m with
    | zero => intro i v h1 h2; exact absurd h2 (by omega)
    | succ m ih =>
      intro i v hi hm
      have hon : mk (stO (M 0) set) (M 0 1) < 256 := mk_256 _ h8
      refine qa_iload hΓ dX6_isStable_108 rfl ?_
      refine qa_aload_n hΓ dX6_isStable_110 rfl ?_
      refine qa_get hΓ dX6_isStable_111 fk_X6_7 hM.lt hM.o rfl ?_
      refine qa_iconst (v := nI 1) hΓ dX6_isStable_114 ic_1 ?_
      refine qz_iald hΓ dX6_isStable_115 (hM.lti (i := 1) (by decide)) hM.a0 (by omega) (by decide) ?_
      refine qz_icmp_ge (tgt := 182) hΓ dX6_isStable_116 (by decide) (by omega) (by omega) (fun h_116 => ?_) (fun h_116 => ?_)
      · refine qa_iload_n hΓ dX6_isStable_182 rfl ?_
        exact qr_b hR dX6_isStable_183 ⟨by unfold isSt; rw [show i = M 0 1 by omega], rfl⟩
      · refine qa_iload_n hΓ dX6_isStable_119 rfl ?_
        refine qb_if_eq (tgt := 182) hΓ dX6_isStable_120 (by decide) (fun h_120 => ?_) (fun h_120 => ?_)
        · refine qa_iload_n hΓ dX6_isStable_182 rfl ?_
          exact qr_b hR dX6_isStable_183 ⟨congrArg (fun p : Bool => some (aZ p.toNat)) (by
            rw [h_120]
            unfold isSt
            rcases Bool.and_eq_false_iff.mp h_120 with q | q
            · rw [q]; rfl
            · rw [stC_false (show i ≤ M 0 1 by omega) q, Bool.and_false]), rfl⟩
        · have hb7 := hW.b (r := i) (x := 7) (by omega) (by decide)
          refine qa_aload_n hΓ dX6_isStable_123 rfl ?_
          refine qa_iload hΓ dX6_isStable_124 rfl ?_
          refine qa_bipush (v := nI 7) hΓ dX6_isStable_126 bp_7 ?_
          refine qc_V1 hΓ dX6_isStable_128 lk_X6_37 vw_X6_of (by omega) (c_X6_of l (d - 1) hM _ _ (by omega) (by omega)) rfl hM.lt hM.o rfl rfl (Nat.le_of_ble_eq_true rfl) ?_
          refine qa_iconst (v := nI 1) hΓ dX6_isStable_131 ic_1 ?_
          refine qz_icmp_eq (tgt := 170) hΓ dX6_isStable_132 (by decide) (by omega) (by omega) (fun h_132 => ?_) (fun h_132 => ?_)
          · refine qa_iconst (v := nI 1) hΓ dX6_isStable_170 ic_1 ?_
            refine qa_goto (tgt := 175) hΓ dX6_isStable_171 (by decide) ?_
            refine qa_istore_n hΓ dX6_isStable_175 (by decide) ?_
            refine qz_iinc hΓ dX6_isStable_176 ii_1 rfl (by decide) ?_
            refine qa_goto (tgt := 108) hΓ dX6_isStable_179 (by decide) ?_
            have e9 : (stI (M 0) set (M 0 1) && stC (M 0) set (mk (stO (M 0) set) (M 0 1)) (i + 1)) = true := by
              have h1 := Bool.and_eq_true_iff.mp h_120
              show (stI (M 0) set (M 0 1) && (stC (M 0) set (mk (stO (M 0) set) (M 0 1)) i && (decide (vv (M 0) i 7 = 1) || (cnd (M 0) i (M 0 0 ||| (mk (stO (M 0) set) (M 0 1)) <<< 8) == set.testBit i)))) = true
              rw [h1.1, h1.2]
              simp_all
            have h9 := ih (i + 1) v (by omega) (by omega)
            rw [e9] at h9
            exact h9
          · refine qa_aload_n hΓ dX6_isStable_135 rfl ?_
            refine qa_iload hΓ dX6_isStable_136 rfl ?_
            refine qa_aload_n hΓ dX6_isStable_138 rfl ?_
            refine qa_get hΓ dX6_isStable_139 fk_X6_7 hM.lt hM.o rfl ?_
            refine qa_iconst (v := nI 0) hΓ dX6_isStable_142 ic_0 ?_
            refine qz_iald hΓ dX6_isStable_143 (hM.lti (i := 1) (by decide)) hM.a0 (by omega) (by decide) ?_
            refine qa_iload_n hΓ dX6_isStable_144 rfl ?_
            refine qa_bipush (v := nI 8) hΓ dX6_isStable_145 bp_8 ?_
            refine qz_ishl hΓ dX6_isStable_147 (by omega) ?_
            refine qz_ior hΓ dX6_isStable_148 ?_
            refine qc_V1 hΓ dX6_isStable_149 lk_X6_45 vw_X6_conducts (by omega) (c_X6_conducts l (d - 1) (by omega) hM i _ (by omega) (by have := hW.2.2.2 i (by omega) 12 (by decide); simpa [bdF] using this) (fun x hx => by have := hW.b (show i < M 0 1 by omega) hx; omega)) rfl hM.lt hM.o rfl rfl (Nat.le_of_ble_eq_true rfl) ?_
            refine qa_iload_n hΓ dX6_isStable_152 rfl ?_
            refine qa_iload hΓ dX6_isStable_153 rfl ?_
            refine qz_ishr hΓ dX6_isStable_155 (by omega) (by omega) ?_
            refine qa_iconst (v := nI 1) hΓ dX6_isStable_156 ic_1 ?_
            refine qz_iand hΓ dX6_isStable_157 ?_
            refine qa_iconst (v := nI 1) hΓ dX6_isStable_158 ic_1 ?_
            rw [bt1]
            have hbt := Bool.toNat_le1 (set.testBit i)
            cases hset : set.testBit i with
            | false =>
              refine qz_icmp_ne (tgt := 166) hΓ dX6_isStable_159 (by decide) (by decide) (by decide) (fun _ => ?_) (fun h => absurd h (by decide))
              refine qa_iconst (v := nI 0) hΓ dX6_isStable_166 ic_0 ?_
              cases hcn : cnd (M 0) i (M 0 0 ||| (mk (stO (M 0) set) (M 0 1)) <<< 8) with
              | false =>
                refine qz_icmp_ne (tgt := 174) hΓ dX6_isStable_167 (by decide) (by decide) (by decide) (fun h => absurd h (by decide)) (fun _ => ?_)
                refine qa_iconst (v := nI 1) hΓ dX6_isStable_170 ic_1 ?_
                refine qa_goto (tgt := 175) hΓ dX6_isStable_171 (by decide) ?_
                refine qa_istore_n hΓ dX6_isStable_175 (by decide) ?_
                refine qz_iinc hΓ dX6_isStable_176 ii_1 rfl (by decide) ?_
                refine qa_goto (tgt := 108) hΓ dX6_isStable_179 (by decide) ?_
                have e9 : (stI (M 0) set (M 0 1) && stC (M 0) set (mk (stO (M 0) set) (M 0 1)) (i + 1)) = true := by
                  have h1 := Bool.and_eq_true_iff.mp h_120
                  show (stI (M 0) set (M 0 1) && (stC (M 0) set (mk (stO (M 0) set) (M 0 1)) i && (decide (vv (M 0) i 7 = 1) || (cnd (M 0) i (M 0 0 ||| (mk (stO (M 0) set) (M 0 1)) <<< 8) == set.testBit i)))) = true
                  rw [h1.1, h1.2]
                  simp_all
                have h9 := ih (i + 1) v (by omega) (by omega)
                rw [e9] at h9
                exact h9
              | true =>
                refine qz_icmp_ne (tgt := 174) hΓ dX6_isStable_167 (by decide) (by decide) (by decide) (fun _ => ?_) (fun h => absurd h (by decide))
                refine qa_iconst (v := nI 0) hΓ dX6_isStable_174 ic_0 ?_
                refine qa_istore_n hΓ dX6_isStable_175 (by decide) ?_
                refine qz_iinc hΓ dX6_isStable_176 ii_1 rfl (by decide) ?_
                refine qa_goto (tgt := 108) hΓ dX6_isStable_179 (by decide) ?_
                have e9 : (stI (M 0) set (M 0 1) && stC (M 0) set (mk (stO (M 0) set) (M 0 1)) (i + 1)) = false := by
                  have h1 := Bool.and_eq_true_iff.mp h_120
                  show (stI (M 0) set (M 0 1) && (stC (M 0) set (mk (stO (M 0) set) (M 0 1)) i && (decide (vv (M 0) i 7 = 1) || (cnd (M 0) i (M 0 0 ||| (mk (stO (M 0) set) (M 0 1)) <<< 8) == set.testBit i)))) = false
                  rw [h1.1, h1.2]
                  simp_all
                have h9 := ih (i + 1) v (by omega) (by omega)
                rw [e9] at h9
                exact h9
            | true =>
              refine qz_icmp_ne (tgt := 166) hΓ dX6_isStable_159 (by decide) (by decide) (by decide) (fun h => absurd h (by decide)) (fun _ => ?_)
              refine qa_iconst (v := nI 1) hΓ dX6_isStable_162 ic_1 ?_
              refine qa_goto (tgt := 167) hΓ dX6_isStable_163 (by decide) ?_
              cases hcn : cnd (M 0) i (M 0 0 ||| (mk (stO (M 0) set) (M 0 1)) <<< 8) with
              | false =>
                refine qz_icmp_ne (tgt := 174) hΓ dX6_isStable_167 (by decide) (by decide) (by decide) (fun _ => ?_) (fun h => absurd h (by decide))
                refine qa_iconst (v := nI 0) hΓ dX6_isStable_174 ic_0 ?_
                refine qa_istore_n hΓ dX6_isStable_175 (by decide) ?_
                refine qz_iinc hΓ dX6_isStable_176 ii_1 rfl (by decide) ?_
                refine qa_goto (tgt := 108) hΓ dX6_isStable_179 (by decide) ?_
                have e9 : (stI (M 0) set (M 0 1) && stC (M 0) set (mk (stO (M 0) set) (M 0 1)) (i + 1)) = false := by
                  have h1 := Bool.and_eq_true_iff.mp h_120
                  show (stI (M 0) set (M 0 1) && (stC (M 0) set (mk (stO (M 0) set) (M 0 1)) i && (decide (vv (M 0) i 7 = 1) || (cnd (M 0) i (M 0 0 ||| (mk (stO (M 0) set) (M 0 1)) <<< 8) == set.testBit i)))) = false
                  rw [h1.1, h1.2]
                  simp_all
                have h9 := ih (i + 1) v (by omega) (by omega)
                rw [e9] at h9
                exact h9
              | true =>
                refine qz_icmp_ne (tgt := 174) hΓ dX6_isStable_167 (by decide) (by decide) (by decide) (fun h => absurd h (by decide)) (fun _ => ?_)
                refine qa_iconst (v := nI 1) hΓ dX6_isStable_170 ic_1 ?_
                refine qa_goto (tgt := 175) hΓ dX6_isStable_171 (by decide) ?_
                refine qa_istore_n hΓ dX6_isStable_175 (by decide) ?_
                refine qz_iinc hΓ dX6_isStable_176 ii_1 rfl (by decide) ?_
                refine qa_goto (tgt := 108) hΓ dX6_isStable_179 (by decide) ?_
                have e9 : (stI (M 0) set (M 0 1) && stC (M 0) set (mk (stO (M 0) set) (M 0 1)) (i + 1)) = true := by
                  have h1 := Bool.and_eq_true_iff.mp h_120
                  show (stI (M 0) set (M 0 1) && (stC (M 0) set (mk (stO (M 0) set) (M 0 1)) i && (decide (vv (M 0) i 7 = 1) || (cnd (M 0) i (M 0 0 ||| (mk (stO (M 0) set) (M 0 1)) <<< 8) == set.testBit i)))) = true
                  rw [h1.1, h1.2]
                  simp_all
                have h9 := ih (i + 1) v (by omega) (by omega)
                rw [e9] at h9
                exact h9
  have loop1 : ∀ (m i : Nat) (v : AV), i ≤ M 0 1 → M 0 1 < i + m → Γ 7 [aR k, aZ set, aZ (mk (stO (M 0) set) i), aZ (stI (M 0) set i).toNat, aZ i, v] [] (0, 0) n w := by
    intro m
    induction m with
    | zero => intro i v h1 h2; exact absurd h2 (by omega)
    | succ m ih =>
      intro i v hi hm
      refine qa_iload hΓ dX6_isStable_7 rfl ?_
      refine qa_aload_n hΓ dX6_isStable_9 rfl ?_
      refine qa_get hΓ dX6_isStable_10 fk_X6_7 hM.lt hM.o rfl ?_
      refine qa_iconst (v := nI 1) hΓ dX6_isStable_13 ic_1 ?_
      refine qz_iald hΓ dX6_isStable_14 (hM.lti (i := 1) (by decide)) hM.a0 (by omega) (by decide) ?_
      refine qz_icmp_ge (tgt := 105) hΓ dX6_isStable_15 (by decide) (by omega) (by omega) (fun h_15 => ?_) (fun h_15 => ?_)
      · refine qa_iconst (v := nI 0) hΓ dX6_isStable_105 ic_0 ?_
        refine qa_istore hΓ dX6_isStable_106 (by decide) ?_
        rw [show i = M 0 1 by omega]
        have h9 := loop2 (M 0 1 + 1) 0 v (Nat.zero_le _) (by omega)
        rw [show stC (M 0) set (mk (stO (M 0) set) (M 0 1)) 0 = true from rfl, Bool.and_true] at h9
        exact h9
      · refine qa_iload_n hΓ dX6_isStable_18 rfl ?_
        refine qa_iload hΓ dX6_isStable_19 rfl ?_
        refine qz_ishr hΓ dX6_isStable_21 (by omega) (by omega) ?_
        refine qa_iconst (v := nI 1) hΓ dX6_isStable_22 ic_1 ?_
        refine qz_iand hΓ dX6_isStable_23 ?_
        rw [bt1]
        have hbt := Bool.toNat_le1 (set.testBit i)
        have hb7 := hW.b (r := i) (x := 7) (by omega) (by decide)
        have hb3 := hW.b (r := i) (x := 3) (by omega) (by decide)
        have hb6 := hW.b (r := i) (x := 6) (by omega) (by decide)
        refine qa_istore hΓ dX6_isStable_24 (by decide) ?_
        refine qa_iload_n hΓ dX6_isStable_26 rfl ?_
        refine qb_if_eq (tgt := 57) hΓ dX6_isStable_27 (by decide) (fun h_27 => ?_) (fun h_27 => ?_)
        · refine qa_iconst (v := nI 0) hΓ dX6_isStable_57 ic_0 ?_
          refine qa_istore_n hΓ dX6_isStable_58 (by decide) ?_
          refine qa_iload_n hΓ dX6_isStable_59 rfl ?_
          refine qa_aload_n hΓ dX6_isStable_60 rfl ?_
          refine qa_iload hΓ dX6_isStable_61 rfl ?_
          refine qa_bipush (v := nI 6) hΓ dX6_isStable_63 bp_6 ?_
          refine qc_V1 hΓ dX6_isStable_65 lk_X6_37 vw_X6_of (by omega) (c_X6_of l (d - 1) hM _ _ (by omega) (by omega)) rfl hM.lt hM.o rfl rfl (Nat.le_of_ble_eq_true rfl) ?_
          refine qa_iconst (v := nI 2) hΓ dX6_isStable_68 ic_2 ?_
          refine qz_icmp_eq (tgt := 89) hΓ dX6_isStable_69 (by decide) (by omega) (by omega) (fun h_69 => ?_) (fun h_69 => ?_)
          · refine qa_iconst (v := nI 1) hΓ dX6_isStable_89 ic_1 ?_
            refine qa_iload hΓ dX6_isStable_90 rfl ?_
            refine qz_ishl hΓ dX6_isStable_92 (by omega) ?_
            refine qa_goto (tgt := 97) hΓ dX6_isStable_93 (by decide) ?_
            refine qz_ior hΓ dX6_isStable_97 ?_
            refine qa_istore_n hΓ dX6_isStable_98 (by decide) ?_
            refine qz_iinc hΓ dX6_isStable_99 ii_1 rfl (by decide) ?_
            refine qa_goto (tgt := 7) hΓ dX6_isStable_102 (by decide) ?_
            have e8 : stI (M 0) set (i + 1) = false := by
              show (stI (M 0) set i && (decide (vv (M 0) i 7 = 0) || decide (vv (M 0) i 3 = (set.testBit i).toNat))) = false
              simp_all
            have e7 : mk (stO (M 0) set) (i + 1) = mk (stO (M 0) set) i ||| (if stO (M 0) set i then 1 <<< i else 0) := rfl
            have ec : stO (M 0) set i = true := by
              unfold stO
              cases hsb : set.testBit i <;> simp_all
            rw [ec] at e7
            simp only [if_true, Bool.false_eq_true, if_false] at e7
            have h9 := ih (i + 1) (aZ (set.testBit i).toNat) (by omega) (by omega)
            rw [e8, e7] at h9
            exact h9
          · refine qa_aload_n hΓ dX6_isStable_72 rfl ?_
            refine qa_iload hΓ dX6_isStable_73 rfl ?_
            refine qa_bipush (v := nI 6) hΓ dX6_isStable_75 bp_6 ?_
            refine qc_V1 hΓ dX6_isStable_77 lk_X6_37 vw_X6_of (by omega) (c_X6_of l (d - 1) hM _ _ (by omega) (by omega)) rfl hM.lt hM.o rfl rfl (Nat.le_of_ble_eq_true rfl) ?_
            refine qz_if_ne (tgt := 96) hΓ dX6_isStable_80 (by decide) (by omega) (fun h_80 => ?_) (fun h_80 => ?_)
            · refine qa_iconst (v := nI 0) hΓ dX6_isStable_96 ic_0 ?_
              refine qz_ior hΓ dX6_isStable_97 ?_
              refine qa_istore_n hΓ dX6_isStable_98 (by decide) ?_
              refine qz_iinc hΓ dX6_isStable_99 ii_1 rfl (by decide) ?_
              refine qa_goto (tgt := 7) hΓ dX6_isStable_102 (by decide) ?_
              have e8 : stI (M 0) set (i + 1) = false := by
                show (stI (M 0) set i && (decide (vv (M 0) i 7 = 0) || decide (vv (M 0) i 3 = (set.testBit i).toNat))) = false
                simp_all
              have e7 : mk (stO (M 0) set) (i + 1) = mk (stO (M 0) set) i ||| (if stO (M 0) set i then 1 <<< i else 0) := rfl
              have ec : stO (M 0) set i = false := by
                unfold stO
                cases hsb : set.testBit i <;> simp_all
              rw [ec] at e7
              simp only [if_true, Bool.false_eq_true, if_false] at e7
              have h9 := ih (i + 1) (aZ (set.testBit i).toNat) (by omega) (by omega)
              rw [e8, e7] at h9
              exact h9
            · refine qa_iload hΓ dX6_isStable_83 rfl ?_
              refine qa_iconst (v := nI 1) hΓ dX6_isStable_85 ic_1 ?_
              refine qz_icmp_ne (tgt := 96) hΓ dX6_isStable_86 (by decide) (by omega) (by omega) (fun h_86 => ?_) (fun h_86 => ?_)
              · refine qa_iconst (v := nI 0) hΓ dX6_isStable_96 ic_0 ?_
                refine qz_ior hΓ dX6_isStable_97 ?_
                refine qa_istore_n hΓ dX6_isStable_98 (by decide) ?_
                refine qz_iinc hΓ dX6_isStable_99 ii_1 rfl (by decide) ?_
                refine qa_goto (tgt := 7) hΓ dX6_isStable_102 (by decide) ?_
                have e8 : stI (M 0) set (i + 1) = false := by
                  show (stI (M 0) set i && (decide (vv (M 0) i 7 = 0) || decide (vv (M 0) i 3 = (set.testBit i).toNat))) = false
                  simp_all
                have e7 : mk (stO (M 0) set) (i + 1) = mk (stO (M 0) set) i ||| (if stO (M 0) set i then 1 <<< i else 0) := rfl
                have ec : stO (M 0) set i = false := by
                  unfold stO
                  cases hsb : set.testBit i <;> simp_all
                rw [ec] at e7
                simp only [if_true, Bool.false_eq_true, if_false] at e7
                have h9 := ih (i + 1) (aZ (set.testBit i).toNat) (by omega) (by omega)
                rw [e8, e7] at h9
                exact h9
              · refine qa_iconst (v := nI 1) hΓ dX6_isStable_89 ic_1 ?_
                refine qa_iload hΓ dX6_isStable_90 rfl ?_
                refine qz_ishl hΓ dX6_isStable_92 (by omega) ?_
                refine qa_goto (tgt := 97) hΓ dX6_isStable_93 (by decide) ?_
                refine qz_ior hΓ dX6_isStable_97 ?_
                refine qa_istore_n hΓ dX6_isStable_98 (by decide) ?_
                refine qz_iinc hΓ dX6_isStable_99 ii_1 rfl (by decide) ?_
                refine qa_goto (tgt := 7) hΓ dX6_isStable_102 (by decide) ?_
                have e8 : stI (M 0) set (i + 1) = false := by
                  show (stI (M 0) set i && (decide (vv (M 0) i 7 = 0) || decide (vv (M 0) i 3 = (set.testBit i).toNat))) = false
                  simp_all
                have e7 : mk (stO (M 0) set) (i + 1) = mk (stO (M 0) set) i ||| (if stO (M 0) set i then 1 <<< i else 0) := rfl
                have ec : stO (M 0) set i = true := by
                  unfold stO
                  cases hsb : set.testBit i <;> simp_all
                rw [ec] at e7
                simp only [if_true, Bool.false_eq_true, if_false] at e7
                have h9 := ih (i + 1) (aZ (set.testBit i).toNat) (by omega) (by omega)
                rw [e8, e7] at h9
                exact h9
        · refine qa_aload_n hΓ dX6_isStable_30 rfl ?_
          refine qa_iload hΓ dX6_isStable_31 rfl ?_
          refine qa_bipush (v := nI 7) hΓ dX6_isStable_33 bp_7 ?_
          refine qc_V1 hΓ dX6_isStable_35 lk_X6_37 vw_X6_of (by omega) (c_X6_of l (d - 1) hM _ _ (by omega) (by omega)) rfl hM.lt hM.o rfl rfl (Nat.le_of_ble_eq_true rfl) ?_
          refine qz_if_eq (tgt := 53) hΓ dX6_isStable_38 (by decide) (by omega) (fun h_38 => ?_) (fun h_38 => ?_)
          · refine qa_iconst (v := nI 1) hΓ dX6_isStable_53 ic_1 ?_
            refine qa_goto (tgt := 58) hΓ dX6_isStable_54 (by decide) ?_
            refine qa_istore_n hΓ dX6_isStable_58 (by decide) ?_
            refine qa_iload_n hΓ dX6_isStable_59 rfl ?_
            refine qa_aload_n hΓ dX6_isStable_60 rfl ?_
            refine qa_iload hΓ dX6_isStable_61 rfl ?_
            refine qa_bipush (v := nI 6) hΓ dX6_isStable_63 bp_6 ?_
            refine qc_V1 hΓ dX6_isStable_65 lk_X6_37 vw_X6_of (by omega) (c_X6_of l (d - 1) hM _ _ (by omega) (by omega)) rfl hM.lt hM.o rfl rfl (Nat.le_of_ble_eq_true rfl) ?_
            refine qa_iconst (v := nI 2) hΓ dX6_isStable_68 ic_2 ?_
            refine qz_icmp_eq (tgt := 89) hΓ dX6_isStable_69 (by decide) (by omega) (by omega) (fun h_69 => ?_) (fun h_69 => ?_)
            · refine qa_iconst (v := nI 1) hΓ dX6_isStable_89 ic_1 ?_
              refine qa_iload hΓ dX6_isStable_90 rfl ?_
              refine qz_ishl hΓ dX6_isStable_92 (by omega) ?_
              refine qa_goto (tgt := 97) hΓ dX6_isStable_93 (by decide) ?_
              refine qz_ior hΓ dX6_isStable_97 ?_
              refine qa_istore_n hΓ dX6_isStable_98 (by decide) ?_
              refine qz_iinc hΓ dX6_isStable_99 ii_1 rfl (by decide) ?_
              refine qa_goto (tgt := 7) hΓ dX6_isStable_102 (by decide) ?_
              have e8 : stI (M 0) set (i + 1) = true := by
                show (stI (M 0) set i && (decide (vv (M 0) i 7 = 0) || decide (vv (M 0) i 3 = (set.testBit i).toNat))) = true
                simp_all
              have e7 : mk (stO (M 0) set) (i + 1) = mk (stO (M 0) set) i ||| (if stO (M 0) set i then 1 <<< i else 0) := rfl
              have ec : stO (M 0) set i = true := by
                unfold stO
                cases hsb : set.testBit i <;> simp_all
              rw [ec] at e7
              simp only [if_true, Bool.false_eq_true, if_false] at e7
              have h9 := ih (i + 1) (aZ (set.testBit i).toNat) (by omega) (by omega)
              rw [e8, e7] at h9
              exact h9
            · refine qa_aload_n hΓ dX6_isStable_72 rfl ?_
              refine qa_iload hΓ dX6_isStable_73 rfl ?_
              refine qa_bipush (v := nI 6) hΓ dX6_isStable_75 bp_6 ?_
              refine qc_V1 hΓ dX6_isStable_77 lk_X6_37 vw_X6_of (by omega) (c_X6_of l (d - 1) hM _ _ (by omega) (by omega)) rfl hM.lt hM.o rfl rfl (Nat.le_of_ble_eq_true rfl) ?_
              refine qz_if_ne (tgt := 96) hΓ dX6_isStable_80 (by decide) (by omega) (fun h_80 => ?_) (fun h_80 => ?_)
              · refine qa_iconst (v := nI 0) hΓ dX6_isStable_96 ic_0 ?_
                refine qz_ior hΓ dX6_isStable_97 ?_
                refine qa_istore_n hΓ dX6_isStable_98 (by decide) ?_
                refine qz_iinc hΓ dX6_isStable_99 ii_1 rfl (by decide) ?_
                refine qa_goto (tgt := 7) hΓ dX6_isStable_102 (by decide) ?_
                have e8 : stI (M 0) set (i + 1) = true := by
                  show (stI (M 0) set i && (decide (vv (M 0) i 7 = 0) || decide (vv (M 0) i 3 = (set.testBit i).toNat))) = true
                  simp_all
                have e7 : mk (stO (M 0) set) (i + 1) = mk (stO (M 0) set) i ||| (if stO (M 0) set i then 1 <<< i else 0) := rfl
                have ec : stO (M 0) set i = false := by
                  unfold stO
                  cases hsb : set.testBit i <;> simp_all
                rw [ec] at e7
                simp only [if_true, Bool.false_eq_true, if_false] at e7
                have h9 := ih (i + 1) (aZ (set.testBit i).toNat) (by omega) (by omega)
                rw [e8, e7] at h9
                exact h9
              · refine qa_iload hΓ dX6_isStable_83 rfl ?_
                refine qa_iconst (v := nI 1) hΓ dX6_isStable_85 ic_1 ?_
                refine qz_icmp_ne (tgt := 96) hΓ dX6_isStable_86 (by decide) (by omega) (by omega) (fun h_86 => ?_) (fun h_86 => ?_)
                · refine qa_iconst (v := nI 0) hΓ dX6_isStable_96 ic_0 ?_
                  refine qz_ior hΓ dX6_isStable_97 ?_
                  refine qa_istore_n hΓ dX6_isStable_98 (by decide) ?_
                  refine qz_iinc hΓ dX6_isStable_99 ii_1 rfl (by decide) ?_
                  refine qa_goto (tgt := 7) hΓ dX6_isStable_102 (by decide) ?_
                  have e8 : stI (M 0) set (i + 1) = true := by
                    show (stI (M 0) set i && (decide (vv (M 0) i 7 = 0) || decide (vv (M 0) i 3 = (set.testBit i).toNat))) = true
                    simp_all
                  have e7 : mk (stO (M 0) set) (i + 1) = mk (stO (M 0) set) i ||| (if stO (M 0) set i then 1 <<< i else 0) := rfl
                  have ec : stO (M 0) set i = false := by
                    unfold stO
                    cases hsb : set.testBit i <;> simp_all
                  rw [ec] at e7
                  simp only [if_true, Bool.false_eq_true, if_false] at e7
                  have h9 := ih (i + 1) (aZ (set.testBit i).toNat) (by omega) (by omega)
                  rw [e8, e7] at h9
                  exact h9
                · refine qa_iconst (v := nI 1) hΓ dX6_isStable_89 ic_1 ?_
                  refine qa_iload hΓ dX6_isStable_90 rfl ?_
                  refine qz_ishl hΓ dX6_isStable_92 (by omega) ?_
                  refine qa_goto (tgt := 97) hΓ dX6_isStable_93 (by decide) ?_
                  refine qz_ior hΓ dX6_isStable_97 ?_
                  refine qa_istore_n hΓ dX6_isStable_98 (by decide) ?_
                  refine qz_iinc hΓ dX6_isStable_99 ii_1 rfl (by decide) ?_
                  refine qa_goto (tgt := 7) hΓ dX6_isStable_102 (by decide) ?_
                  have e8 : stI (M 0) set (i + 1) = true := by
                    show (stI (M 0) set i && (decide (vv (M 0) i 7 = 0) || decide (vv (M 0) i 3 = (set.testBit i).toNat))) = true
                    simp_all
                  have e7 : mk (stO (M 0) set) (i + 1) = mk (stO (M 0) set) i ||| (if stO (M 0) set i then 1 <<< i else 0) := rfl
                  have ec : stO (M 0) set i = true := by
                    unfold stO
                    cases hsb : set.testBit i <;> simp_all
                  rw [ec] at e7
                  simp only [if_true, Bool.false_eq_true, if_false] at e7
                  have h9 := ih (i + 1) (aZ (set.testBit i).toNat) (by omega) (by omega)
                  rw [e8, e7] at h9
                  exact h9
          · refine qa_aload_n hΓ dX6_isStable_41 rfl ?_
            refine qa_iload hΓ dX6_isStable_42 rfl ?_
            refine qa_iconst (v := nI 3) hΓ dX6_isStable_44 ic_3 ?_
            refine qc_V1 hΓ dX6_isStable_45 lk_X6_37 vw_X6_of (by omega) (c_X6_of l (d - 1) hM _ _ (by omega) (by omega)) rfl hM.lt hM.o rfl rfl (Nat.le_of_ble_eq_true rfl) ?_
            refine qa_iload hΓ dX6_isStable_48 rfl ?_
            refine qz_icmp_ne (tgt := 57) hΓ dX6_isStable_50 (by decide) (by omega) (by omega) (fun h_50 => ?_) (fun h_50 => ?_)
            · refine qa_iconst (v := nI 0) hΓ dX6_isStable_57 ic_0 ?_
              refine qa_istore_n hΓ dX6_isStable_58 (by decide) ?_
              refine qa_iload_n hΓ dX6_isStable_59 rfl ?_
              refine qa_aload_n hΓ dX6_isStable_60 rfl ?_
              refine qa_iload hΓ dX6_isStable_61 rfl ?_
              refine qa_bipush (v := nI 6) hΓ dX6_isStable_63 bp_6 ?_
              refine qc_V1 hΓ dX6_isStable_65 lk_X6_37 vw_X6_of (by omega) (c_X6_of l (d - 1) hM _ _ (by omega) (by omega)) rfl hM.lt hM.o rfl rfl (Nat.le_of_ble_eq_true rfl) ?_
              refine qa_iconst (v := nI 2) hΓ dX6_isStable_68 ic_2 ?_
              refine qz_icmp_eq (tgt := 89) hΓ dX6_isStable_69 (by decide) (by omega) (by omega) (fun h_69 => ?_) (fun h_69 => ?_)
              · refine qa_iconst (v := nI 1) hΓ dX6_isStable_89 ic_1 ?_
                refine qa_iload hΓ dX6_isStable_90 rfl ?_
                refine qz_ishl hΓ dX6_isStable_92 (by omega) ?_
                refine qa_goto (tgt := 97) hΓ dX6_isStable_93 (by decide) ?_
                refine qz_ior hΓ dX6_isStable_97 ?_
                refine qa_istore_n hΓ dX6_isStable_98 (by decide) ?_
                refine qz_iinc hΓ dX6_isStable_99 ii_1 rfl (by decide) ?_
                refine qa_goto (tgt := 7) hΓ dX6_isStable_102 (by decide) ?_
                have e8 : stI (M 0) set (i + 1) = false := by
                  show (stI (M 0) set i && (decide (vv (M 0) i 7 = 0) || decide (vv (M 0) i 3 = (set.testBit i).toNat))) = false
                  simp_all
                have e7 : mk (stO (M 0) set) (i + 1) = mk (stO (M 0) set) i ||| (if stO (M 0) set i then 1 <<< i else 0) := rfl
                have ec : stO (M 0) set i = true := by
                  unfold stO
                  cases hsb : set.testBit i <;> simp_all
                rw [ec] at e7
                simp only [if_true, Bool.false_eq_true, if_false] at e7
                have h9 := ih (i + 1) (aZ (set.testBit i).toNat) (by omega) (by omega)
                rw [e8, e7] at h9
                exact h9
              · refine qa_aload_n hΓ dX6_isStable_72 rfl ?_
                refine qa_iload hΓ dX6_isStable_73 rfl ?_
                refine qa_bipush (v := nI 6) hΓ dX6_isStable_75 bp_6 ?_
                refine qc_V1 hΓ dX6_isStable_77 lk_X6_37 vw_X6_of (by omega) (c_X6_of l (d - 1) hM _ _ (by omega) (by omega)) rfl hM.lt hM.o rfl rfl (Nat.le_of_ble_eq_true rfl) ?_
                refine qz_if_ne (tgt := 96) hΓ dX6_isStable_80 (by decide) (by omega) (fun h_80 => ?_) (fun h_80 => ?_)
                · refine qa_iconst (v := nI 0) hΓ dX6_isStable_96 ic_0 ?_
                  refine qz_ior hΓ dX6_isStable_97 ?_
                  refine qa_istore_n hΓ dX6_isStable_98 (by decide) ?_
                  refine qz_iinc hΓ dX6_isStable_99 ii_1 rfl (by decide) ?_
                  refine qa_goto (tgt := 7) hΓ dX6_isStable_102 (by decide) ?_
                  have e8 : stI (M 0) set (i + 1) = false := by
                    show (stI (M 0) set i && (decide (vv (M 0) i 7 = 0) || decide (vv (M 0) i 3 = (set.testBit i).toNat))) = false
                    simp_all
                  have e7 : mk (stO (M 0) set) (i + 1) = mk (stO (M 0) set) i ||| (if stO (M 0) set i then 1 <<< i else 0) := rfl
                  have ec : stO (M 0) set i = false := by
                    unfold stO
                    cases hsb : set.testBit i <;> simp_all
                  rw [ec] at e7
                  simp only [if_true, Bool.false_eq_true, if_false] at e7
                  have h9 := ih (i + 1) (aZ (set.testBit i).toNat) (by omega) (by omega)
                  rw [e8, e7] at h9
                  exact h9
                · refine qa_iload hΓ dX6_isStable_83 rfl ?_
                  refine qa_iconst (v := nI 1) hΓ dX6_isStable_85 ic_1 ?_
                  refine qz_icmp_ne (tgt := 96) hΓ dX6_isStable_86 (by decide) (by omega) (by omega) (fun h_86 => ?_) (fun h_86 => ?_)
                  · refine qa_iconst (v := nI 0) hΓ dX6_isStable_96 ic_0 ?_
                    refine qz_ior hΓ dX6_isStable_97 ?_
                    refine qa_istore_n hΓ dX6_isStable_98 (by decide) ?_
                    refine qz_iinc hΓ dX6_isStable_99 ii_1 rfl (by decide) ?_
                    refine qa_goto (tgt := 7) hΓ dX6_isStable_102 (by decide) ?_
                    have e8 : stI (M 0) set (i + 1) = false := by
                      show (stI (M 0) set i && (decide (vv (M 0) i 7 = 0) || decide (vv (M 0) i 3 = (set.testBit i).toNat))) = false
                      simp_all
                    have e7 : mk (stO (M 0) set) (i + 1) = mk (stO (M 0) set) i ||| (if stO (M 0) set i then 1 <<< i else 0) := rfl
                    have ec : stO (M 0) set i = false := by
                      unfold stO
                      cases hsb : set.testBit i <;> simp_all
                    rw [ec] at e7
                    simp only [if_true, Bool.false_eq_true, if_false] at e7
                    have h9 := ih (i + 1) (aZ (set.testBit i).toNat) (by omega) (by omega)
                    rw [e8, e7] at h9
                    exact h9
                  · refine qa_iconst (v := nI 1) hΓ dX6_isStable_89 ic_1 ?_
                    refine qa_iload hΓ dX6_isStable_90 rfl ?_
                    refine qz_ishl hΓ dX6_isStable_92 (by omega) ?_
                    refine qa_goto (tgt := 97) hΓ dX6_isStable_93 (by decide) ?_
                    refine qz_ior hΓ dX6_isStable_97 ?_
                    refine qa_istore_n hΓ dX6_isStable_98 (by decide) ?_
                    refine qz_iinc hΓ dX6_isStable_99 ii_1 rfl (by decide) ?_
                    refine qa_goto (tgt := 7) hΓ dX6_isStable_102 (by decide) ?_
                    have e8 : stI (M 0) set (i + 1) = false := by
                      show (stI (M 0) set i && (decide (vv (M 0) i 7 = 0) || decide (vv (M 0) i 3 = (set.testBit i).toNat))) = false
                      simp_all
                    have e7 : mk (stO (M 0) set) (i + 1) = mk (stO (M 0) set) i ||| (if stO (M 0) set i then 1 <<< i else 0) := rfl
                    have ec : stO (M 0) set i = true := by
                      unfold stO
                      cases hsb : set.testBit i <;> simp_all
                    rw [ec] at e7
                    simp only [if_true, Bool.false_eq_true, if_false] at e7
                    have h9 := ih (i + 1) (aZ (set.testBit i).toNat) (by omega) (by omega)
                    rw [e8, e7] at h9
                    exact h9
            · refine qa_iconst (v := nI 1) hΓ dX6_isStable_53 ic_1 ?_
              refine qa_goto (tgt := 58) hΓ dX6_isStable_54 (by decide) ?_
              refine qa_istore_n hΓ dX6_isStable_58 (by decide) ?_
              refine qa_iload_n hΓ dX6_isStable_59 rfl ?_
              refine qa_aload_n hΓ dX6_isStable_60 rfl ?_
              refine qa_iload hΓ dX6_isStable_61 rfl ?_
              refine qa_bipush (v := nI 6) hΓ dX6_isStable_63 bp_6 ?_
              refine qc_V1 hΓ dX6_isStable_65 lk_X6_37 vw_X6_of (by omega) (c_X6_of l (d - 1) hM _ _ (by omega) (by omega)) rfl hM.lt hM.o rfl rfl (Nat.le_of_ble_eq_true rfl) ?_
              refine qa_iconst (v := nI 2) hΓ dX6_isStable_68 ic_2 ?_
              refine qz_icmp_eq (tgt := 89) hΓ dX6_isStable_69 (by decide) (by omega) (by omega) (fun h_69 => ?_) (fun h_69 => ?_)
              · refine qa_iconst (v := nI 1) hΓ dX6_isStable_89 ic_1 ?_
                refine qa_iload hΓ dX6_isStable_90 rfl ?_
                refine qz_ishl hΓ dX6_isStable_92 (by omega) ?_
                refine qa_goto (tgt := 97) hΓ dX6_isStable_93 (by decide) ?_
                refine qz_ior hΓ dX6_isStable_97 ?_
                refine qa_istore_n hΓ dX6_isStable_98 (by decide) ?_
                refine qz_iinc hΓ dX6_isStable_99 ii_1 rfl (by decide) ?_
                refine qa_goto (tgt := 7) hΓ dX6_isStable_102 (by decide) ?_
                have e8 : stI (M 0) set (i + 1) = true := by
                  show (stI (M 0) set i && (decide (vv (M 0) i 7 = 0) || decide (vv (M 0) i 3 = (set.testBit i).toNat))) = true
                  simp_all
                have e7 : mk (stO (M 0) set) (i + 1) = mk (stO (M 0) set) i ||| (if stO (M 0) set i then 1 <<< i else 0) := rfl
                have ec : stO (M 0) set i = true := by
                  unfold stO
                  cases hsb : set.testBit i <;> simp_all
                rw [ec] at e7
                simp only [if_true, Bool.false_eq_true, if_false] at e7
                have h9 := ih (i + 1) (aZ (set.testBit i).toNat) (by omega) (by omega)
                rw [e8, e7] at h9
                exact h9
              · refine qa_aload_n hΓ dX6_isStable_72 rfl ?_
                refine qa_iload hΓ dX6_isStable_73 rfl ?_
                refine qa_bipush (v := nI 6) hΓ dX6_isStable_75 bp_6 ?_
                refine qc_V1 hΓ dX6_isStable_77 lk_X6_37 vw_X6_of (by omega) (c_X6_of l (d - 1) hM _ _ (by omega) (by omega)) rfl hM.lt hM.o rfl rfl (Nat.le_of_ble_eq_true rfl) ?_
                refine qz_if_ne (tgt := 96) hΓ dX6_isStable_80 (by decide) (by omega) (fun h_80 => ?_) (fun h_80 => ?_)
                · refine qa_iconst (v := nI 0) hΓ dX6_isStable_96 ic_0 ?_
                  refine qz_ior hΓ dX6_isStable_97 ?_
                  refine qa_istore_n hΓ dX6_isStable_98 (by decide) ?_
                  refine qz_iinc hΓ dX6_isStable_99 ii_1 rfl (by decide) ?_
                  refine qa_goto (tgt := 7) hΓ dX6_isStable_102 (by decide) ?_
                  have e8 : stI (M 0) set (i + 1) = true := by
                    show (stI (M 0) set i && (decide (vv (M 0) i 7 = 0) || decide (vv (M 0) i 3 = (set.testBit i).toNat))) = true
                    simp_all
                  have e7 : mk (stO (M 0) set) (i + 1) = mk (stO (M 0) set) i ||| (if stO (M 0) set i then 1 <<< i else 0) := rfl
                  have ec : stO (M 0) set i = false := by
                    unfold stO
                    cases hsb : set.testBit i <;> simp_all
                  rw [ec] at e7
                  simp only [if_true, Bool.false_eq_true, if_false] at e7
                  have h9 := ih (i + 1) (aZ (set.testBit i).toNat) (by omega) (by omega)
                  rw [e8, e7] at h9
                  exact h9
                · refine qa_iload hΓ dX6_isStable_83 rfl ?_
                  refine qa_iconst (v := nI 1) hΓ dX6_isStable_85 ic_1 ?_
                  refine qz_icmp_ne (tgt := 96) hΓ dX6_isStable_86 (by decide) (by omega) (by omega) (fun h_86 => ?_) (fun h_86 => ?_)
                  · refine qa_iconst (v := nI 0) hΓ dX6_isStable_96 ic_0 ?_
                    refine qz_ior hΓ dX6_isStable_97 ?_
                    refine qa_istore_n hΓ dX6_isStable_98 (by decide) ?_
                    refine qz_iinc hΓ dX6_isStable_99 ii_1 rfl (by decide) ?_
                    refine qa_goto (tgt := 7) hΓ dX6_isStable_102 (by decide) ?_
                    have e8 : stI (M 0) set (i + 1) = true := by
                      show (stI (M 0) set i && (decide (vv (M 0) i 7 = 0) || decide (vv (M 0) i 3 = (set.testBit i).toNat))) = true
                      simp_all
                    have e7 : mk (stO (M 0) set) (i + 1) = mk (stO (M 0) set) i ||| (if stO (M 0) set i then 1 <<< i else 0) := rfl
                    have ec : stO (M 0) set i = false := by
                      unfold stO
                      cases hsb : set.testBit i <;> simp_all
                    rw [ec] at e7
                    simp only [if_true, Bool.false_eq_true, if_false] at e7
                    have h9 := ih (i + 1) (aZ (set.testBit i).toNat) (by omega) (by omega)
                    rw [e8, e7] at h9
                    exact h9
                  · refine qa_iconst (v := nI 1) hΓ dX6_isStable_89 ic_1 ?_
                    refine qa_iload hΓ dX6_isStable_90 rfl ?_
                    refine qz_ishl hΓ dX6_isStable_92 (by omega) ?_
                    refine qa_goto (tgt := 97) hΓ dX6_isStable_93 (by decide) ?_
                    refine qz_ior hΓ dX6_isStable_97 ?_
                    refine qa_istore_n hΓ dX6_isStable_98 (by decide) ?_
                    refine qz_iinc hΓ dX6_isStable_99 ii_1 rfl (by decide) ?_
                    refine qa_goto (tgt := 7) hΓ dX6_isStable_102 (by decide) ?_
                    have e8 : stI (M 0) set (i + 1) = true := by
                      show (stI (M 0) set i && (decide (vv (M 0) i 7 = 0) || decide (vv (M 0) i 3 = (set.testBit i).toNat))) = true
                      simp_all
                    have e7 : mk (stO (M 0) set) (i + 1) = mk (stO (M 0) set) i ||| (if stO (M 0) set i then 1 <<< i else 0) := rfl
                    have ec : stO (M 0) set i = true := by
                      unfold stO
                      cases hsb : set.testBit i <;> simp_all
                    rw [ec] at e7
                    simp only [if_true, Bool.false_eq_true, if_false] at e7
                    have h9 := ih (i + 1) (aZ (set.testBit i).toNat) (by omega) (by omega)
                    rw [e8, e7] at h9
                    exact h9
  refine qa_iconst (v := nI 0) hΓ dX6_isStable_0 ic_0 ?_
  refine qa_istore_n hΓ dX6_isStable_1 (by decide) ?_
  refine qa_iconst (v := nI 1) hΓ dX6_isStable_2 ic_1 ?_
  refine qa_istore_n hΓ dX6_isStable_3 (by decide) ?_
  refine qa_iconst (v := nI 0) hΓ dX6_isStable_4 ic_0 ?_
  refine qa_istore hΓ dX6_isStable_5 (by decide) ?_
  exact loop1 (M 0 1 + 1) 0 _ (Nat.zero_le _) (by omega)

set_option maxRecDepth 100000 in
set_option maxHeartbeats 4000000 in
theorem c_X6_stableStates (l : Launch) (d : Nat) (hd : 3 ≤ d) {n k : Nat} {w : Nat → AC} {M : Bk} (hM : MdAt n w k M) {B : Nat} (hW : Wt (M 0) B) (hB : B < 900000000) : Sq l yX6_stableStates cX6_stableStates 3 (some .int) d [aR k] n w (QM (spStable M) n k w) := by
  refine Sp.of (plainFor_of_name (by decide)) (Nat.le_of_ble_eq_true rfl) (fun Γ hΓ hR => ?_)
  show Γ 0 [aR k, none, none] [] (0, 0) n w
  have h8 := hW.2.1
  have h256 : 1 <<< M 0 1 ≤ 256 := by rw [Nat.one_shiftLeft]; exact two8 h8
  have loop : ∀ (m i : Nat), i ≤ 1 <<< M 0 1 → 1 <<< M 0 1 < i + m → Γ 4 [aR k, aZ (stN (M 0) i), aZ i] [] (0, 0) n w := by
    intro m
    induction m with
    | zero => intro i h1 h2; exact absurd h2 (by omega)
    | succ m ih =>
      intro i hi hm
      refine qa_iload_n hΓ dX6_stableStates_4 rfl ?_
      refine qa_iconst (v := nI 1) hΓ dX6_stableStates_5 ic_1 ?_
      refine qa_aload_n hΓ dX6_stableStates_6 rfl ?_
      refine qa_get hΓ dX6_stableStates_7 fk_X6_7 hM.lt hM.o rfl ?_
      refine qa_iconst (v := nI 1) hΓ dX6_stableStates_10 ic_1 ?_
      refine qz_iald hΓ dX6_stableStates_11 (hM.lti (i := 1) (by decide)) hM.a0 (by omega) (by decide) ?_
      refine qz_ishl hΓ dX6_stableStates_12 (by omega) ?_
      refine qz_icmp_ge (tgt := 38) hΓ dX6_stableStates_13 (by decide) (by omega) (by omega) (fun h_13 => ?_) (fun h_13 => ?_)
      · refine qa_iload_n hΓ dX6_stableStates_38 rfl ?_
        exact qr_i hR dX6_stableStates_39 ⟨_, M, rfl, hM, Fr.rf, by rw [show i = 1 <<< M 0 1 by omega], Sm.rf M⟩
      · refine qa_iload_n hΓ dX6_stableStates_16 rfl ?_
        refine qa_aload_n hΓ dX6_stableStates_17 rfl ?_
        refine qa_iload_n hΓ dX6_stableStates_18 rfl ?_
        refine qc_V1 hΓ dX6_stableStates_19 lk_X6_147 vw_X6_isStable (by omega) (c_X6_isStable l (d - 1) (by omega) hM hW (by omega) i (by omega)) rfl hM.lt hM.o rfl rfl (Nat.le_of_ble_eq_true rfl) ?_
        refine qb_if_eq (tgt := 29) hΓ dX6_stableStates_22 (by decide) (fun h_22 => ?_) (fun h_22 => ?_)
        · refine qa_iconst (v := nI 0) hΓ dX6_stableStates_29 ic_0 ?_
          refine qz_iadd hΓ dX6_stableStates_30 ?_
          refine qa_istore_n hΓ dX6_stableStates_31 (by decide) ?_
          refine qz_iinc hΓ dX6_stableStates_32 ii_1 rfl (by decide) ?_
          refine qa_goto (tgt := 4) hΓ dX6_stableStates_35 (by decide) ?_
          have e9 : stN (M 0) (i + 1) = stN (M 0) i + 0 := by
            show stN (M 0) i + (if isSt (M 0) i then 1 else 0) = _
            rw [h_22]
            rfl
          have h9 := ih (i + 1) (by omega) (by omega)
          rw [e9] at h9
          exact h9
        · refine qa_iconst (v := nI 1) hΓ dX6_stableStates_25 ic_1 ?_
          refine qa_goto (tgt := 30) hΓ dX6_stableStates_26 (by decide) ?_
          refine qz_iadd hΓ dX6_stableStates_30 ?_
          refine qa_istore_n hΓ dX6_stableStates_31 (by decide) ?_
          refine qz_iinc hΓ dX6_stableStates_32 ii_1 rfl (by decide) ?_
          refine qa_goto (tgt := 4) hΓ dX6_stableStates_35 (by decide) ?_
          have e9 : stN (M 0) (i + 1) = stN (M 0) i + 1 := by
            show stN (M 0) i + (if isSt (M 0) i then 1 else 0) = _
            rw [h_22]
            rfl
          have h9 := ih (i + 1) (by omega) (by omega)
          rw [e9] at h9
          exact h9
  refine qa_iconst (v := nI 0) hΓ dX6_stableStates_0 ic_0 ?_
  refine qa_istore_n hΓ dX6_stableStates_1 (by decide) ?_
  refine qa_iconst (v := nI 0) hΓ dX6_stableStates_2 ic_0 ?_
  refine qa_istore_n hΓ dX6_stableStates_3 (by decide) ?_
  exact loop (1 <<< M 0 1 + 1) 0 (Nat.zero_le _) (by omega)

