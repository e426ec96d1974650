/-! The tale of all that is seen: one number out of the answers of many questions -/
def fld (f : Nat → Int64 → Int64) : Nat → Int64 → Int64
  | 0, a => a
  | n + 1, a => f n (fld f n a)
theorem fld_s (f : Nat → Int64 → Int64) (n : Nat) (a : Int64) : fld f (n + 1) a = f n (fld f n a) := rfl
theorem fld_cg {f g : Nat → Int64 → Int64} {a : Int64} : ∀ n, (∀ k, k < n → ∀ x, f k x = g k x) → fld f n a = fld g n a
  | 0, _ => rfl
  | n + 1, h => by
    rw [fld_s, fld_s, fld_cg n (fun k hk x => h k (by omega) x), h n (by omega)]
def tA (M : Bk) (k : Nat) (a : Int64) : Int64 := a * 31 + (cnI M (nI k)).toInt64
def tB (M : Bk) (r k : Nat) (a : Int64) : Int64 := a * 37 + (reI M (nI r) (nI k)).toInt64
def tC (M : Bk) (r k j : Nat) (a : Int64) : Int64 := a * 41 + (cdI M (nI r) (nI k) (nI (3 * j))).toInt64
def tR (M : Bk) (r : Nat) (a : Int64) : Int64 := fld (fun k => fld (tC M r k) 6) 6 (fld (tB M r) 8 a)
def tE (M : Bk) (k : Nat) (a : Int64) : Int64 := a * 43 + (evI M (nI k) (nI 0)).toInt64 + 5 * (evI M (nI k) (nI 1)).toInt64 + 7 * (evI M (nI k) (nI 2)).toInt64
def tl (M : Bk) : Int64 := fld (tE M) 6 (fld (tR M) (M 0 1) (fld (tA M) 9 3))
theorem cn_at {M : Bk} {k : Nat} (hk : k ≤ 9) : cnI M (nI k) = nI (cnV M k) := by
  unfold cnI
  rw [if_pos ⟨nI_pos' (by omega), (nI_leI (by omega) (by decide)).mpr hk⟩, tn_nI (by omega)]
theorem cnV_cg {M M' : Bk} (h0 : M' 0 = M 0) (h1 : M' 5 1 = M 5 1) {k : Nat} (hk : k < 9) : cnV M' k = cnV M k := by
  unfold cnV
  rw [h0, h1]
  repeat' split
  all_goals first | rfl | omega
/-- the tale is told by the row and the text's length alone -/
theorem tl_cg {M M' : Bk} (h0 : M' 0 = M 0) (h1 : M' 5 1 = M 5 1) : tl M' = tl M := by
  have eA : fld (tA M') 9 3 = fld (tA M) 9 3 := fld_cg 9 (fun k hk x => by unfold tA; rw [cn_at (by omega), cn_at (by omega), cnV_cg h0 h1 hk])
  have eB : ∀ r k x, tB M' r k x = tB M r k x := fun r k x => by unfold tB reI; rw [h0]
  have eC : ∀ r k j x, tC M' r k j x = tC M r k j x := fun r k j x => by unfold tC cdI; rw [h0]
  have eR : ∀ r x, tR M' r x = tR M r x := fun r x => by
    unfold tR
    rw [fld_cg (f := tB M' r) (g := tB M r) 8 (fun k _ x => eB r k x)]
    exact fld_cg 6 (fun k _ x => fld_cg 6 (fun j _ x => eC r k j x))
  have eE : ∀ k x, tE M' k x = tE M k x := fun k x => by unfold tE evI; rw [h0]
  unfold tl
  rw [eA, h0, fld_cg (f := tR M') (g := tR M) (M 0 1) (fun r _ x => eR r x)]
  exact fld_cg 6 (fun k _ x => eE k x)
theorem qr_l {Γ : Gm} {cc : ByteArray} {n pc : Nat} {L : List AV} {w : Nat → AC} {Q : Option AV → (Nat → AC) → Prop} (hR : Rt Γ cc (some .long) 0 0 (Nz n Q)) (hd : decode cc pc = .ok (.lreturn, 1)) {x : Int64} (hq : Q (some (aL x)) w) : Γ pc L [aL x] (0, 0) n w := hR.2.2.2 pc L x (0, 0) n w hd rfl (Nat.le_refl _) (Nat.le_refl _) ⟨rfl, hq⟩
theorem ii_3 : Int32.ofInt 3 = nI 3 := by decide +kernel

set_option maxRecDepth 100000 in
set_option maxHeartbeats 4000000 in
theorem c_L_tale (l : Launch) (d : Nat) (hd : 4 ≤ d) {n : Nat} {w : Nat → AC} {M : Bk} {B : Nat} (hC : CW M B n w) (hB : B < 800000000) : Sq l yL_tale cL_tale 6 (some .long) d [aR 0] n w (fun r w' => r = some (aL (tl M)) ∧ CW M B n w') := by
  refine Sp.of (plainFor_of_name (by decide)) (Nat.le_of_ble_eq_true rfl) (fun Γ hΓ hR => ?_)
  show Γ 0 [aR 0, none, none, none, none, none] [] (0, 0) n w
  have h8 := hC.w.1.2.1
  -- the events
  have lE : ∀ (m k : Nat) (a : Int64) (w : Nat → AC) (v4 v5 : AV), k + m = 6 → CW M B n w → a = fld (tE M) k (fld (tR M) (M 0 1) (fld (tA M) 9 3)) → Γ 130 [aR 0, aL a, none, aZ k, v4, v5] [] (0, 0) n w := by
    intro m
    induction m with
    | zero =>
      intro k a w v4 v5 hk hC ha
      refine qa_iload_n hΓ dL_tale_130 rfl ?_
      refine qa_bipush (v := nI 6) hΓ dL_tale_131 bp_6 ?_
      refine qz_icmp_ge (tgt := 180) hΓ dL_tale_133 (by decide) (by omega) (by omega) (fun h => ?_) (fun h => absurd h (by omega))
      refine qa_lload_n hΓ dL_tale_180 rfl ?_
      have hk6 : k = 6 := by omega
      subst hk6
      exact qr_l hR dL_tale_181 ⟨by rw [ha]; rfl, hC⟩
    | succ m ih =>
      intro k a w v4 v5 hk hC ha
      refine qa_iload_n hΓ dL_tale_130 rfl ?_
      refine qa_bipush (v := nI 6) hΓ dL_tale_131 bp_6 ?_
      refine qz_icmp_ge (tgt := 180) hΓ dL_tale_133 (by decide) (by omega) (by omega) (fun h => absurd h (by omega)) (fun h => ?_)
      refine qa_lload_n hΓ dL_tale_136 rfl ?_
      refine qa_ldc2 hΓ dL_tale_137 ckl_L_30 ?_
      refine qa_lmul hΓ dL_tale_140 ?_
      refine qa_aload_n hΓ dL_tale_141 rfl ?_
      refine qa_iload_n hΓ dL_tale_142 rfl ?_
      refine qa_iconst (v := nI 0) hΓ dL_tale_143 ic_0 ?_
      refine qy_event hΓ dL_tale_144 lk_L_32 hC hB (by omega) (Nat.le_of_ble_eq_true rfl) ⟨Nat.le_refl _, Nat.le_refl _⟩ _ _ (fun w hC => ?_)
      refine qa_i2l hΓ dL_tale_147 ?_
      refine qa_ladd hΓ dL_tale_148 ?_
      refine qa_ldc2 hΓ dL_tale_149 ckl_L_35 ?_
      refine qa_aload_n hΓ dL_tale_152 rfl ?_
      refine qa_iload_n hΓ dL_tale_153 rfl ?_
      refine qa_iconst (v := nI 1) hΓ dL_tale_154 ic_1 ?_
      refine qy_event hΓ dL_tale_155 lk_L_32 hC hB (by omega) (Nat.le_of_ble_eq_true rfl) ⟨Nat.le_refl _, Nat.le_refl _⟩ _ _ (fun w hC => ?_)
      refine qa_i2l hΓ dL_tale_158 ?_
      refine qa_lmul hΓ dL_tale_159 ?_
      refine qa_ladd hΓ dL_tale_160 ?_
      refine qa_ldc2 hΓ dL_tale_161 ckl_L_37 ?_
      refine qa_aload_n hΓ dL_tale_164 rfl ?_
      refine qa_iload_n hΓ dL_tale_165 rfl ?_
      refine qa_iconst (v := nI 2) hΓ dL_tale_166 ic_2 ?_
      refine qy_event hΓ dL_tale_167 lk_L_32 hC hB (by omega) (Nat.le_of_ble_eq_true rfl) ⟨Nat.le_refl _, Nat.le_refl _⟩ _ _ (fun w hC => ?_)
      refine qa_i2l hΓ dL_tale_170 ?_
      refine qa_lmul hΓ dL_tale_171 ?_
      refine qa_ladd hΓ dL_tale_172 ?_
      refine qa_lstore_n hΓ dL_tale_173 (by decide) (Nat.le_of_ble_eq_true rfl) ?_
      refine qz_iinc hΓ dL_tale_174 ii_1 rfl (by decide) ?_
      refine qa_goto (tgt := 130) hΓ dL_tale_177 (by decide) ?_
      exact ih (k + 1) _ _ _ _ (by omega) hC (by rw [ha]; rfl)
  -- the relays
  have lR : ∀ (m r : Nat) (a : Int64) (w : Nat → AC) (v4 v5 : AV), r + m = M 0 1 → CW M B n w → a = fld (tR M) r (fld (tA M) 9 3) → Γ 33 [aR 0, aL a, none, aZ r, v4, v5] [] (0, 0) n w := by
    intro m
    induction m with
    | zero =>
      intro r a w v4 v5 hr hC ha
      refine qa_iload_n hΓ dL_tale_33 rfl ?_
      refine qa_aload_n hΓ dL_tale_34 rfl ?_
      refine qa_iconst (v := nI 0) hΓ dL_tale_35 ic_0 ?_
      refine qy_count hΓ dL_tale_36 lk_L_12 hC hB (by omega) (Nat.le_of_ble_eq_true rfl) ⟨Nat.le_refl _, Nat.le_refl _⟩ _ (fun w hC => ?_)
      rw [cn_at (k := 0) (by decide)]
      refine qz_icmp_ge (tgt := 128) hΓ dL_tale_39 (by decide) (by omega) (by show M 0 1 < _; omega) (fun h => ?_) (fun h => absurd (show r < M 0 1 from h) (by omega))
      refine qa_iconst (v := nI 0) hΓ dL_tale_128 ic_0 ?_
      refine qa_istore_n hΓ dL_tale_129 (by decide) ?_
      have hr0 : r = M 0 1 := by omega
      exact lE 6 0 _ _ _ _ rfl hC (by rw [ha, hr0]; rfl)
    | succ m ih =>
      intro r a w v4 v5 hr hC ha
      refine qa_iload_n hΓ dL_tale_33 rfl ?_
      refine qa_aload_n hΓ dL_tale_34 rfl ?_
      refine qa_iconst (v := nI 0) hΓ dL_tale_35 ic_0 ?_
      refine qy_count hΓ dL_tale_36 lk_L_12 hC hB (by omega) (Nat.le_of_ble_eq_true rfl) ⟨Nat.le_refl _, Nat.le_refl _⟩ _ (fun w hC => ?_)
      rw [cn_at (k := 0) (by decide)]
      refine qz_icmp_ge (tgt := 128) hΓ dL_tale_39 (by decide) (by omega) (by show M 0 1 < _; omega) (fun h => absurd (show M 0 1 ≤ r from h) (by omega)) (fun h => ?_)
      -- its conditions
      have lK : ∀ (m2 k : Nat) (a2 : Int64) (w : Nat → AC) (v5 : AV), k + m2 = 6 → CW M B n w → a2 = fld (fun k => fld (tC M r k) 6) k (fld (tB M r) 8 a) → Γ 76 [aR 0, aL a2, none, aZ r, aZ k, v5] [] (0, 0) n w := by
        intro m2
        induction m2 with
        | zero =>
          intro k a2 w v5 hk hC ha2
          refine qa_iload hΓ dL_tale_76 rfl ?_
          refine qa_bipush (v := nI 6) hΓ dL_tale_78 bp_6 ?_
          refine qz_icmp_ge (tgt := 122) hΓ dL_tale_80 (by decide) (by omega) (by omega) (fun h => ?_) (fun h => absurd h (by omega))
          refine qz_iinc hΓ dL_tale_122 ii_1 rfl (by decide) ?_
          refine qa_goto (tgt := 33) hΓ dL_tale_125 (by decide) ?_
          have hk6 : k = 6 := by omega
          subst hk6
          exact ih (r + 1) _ _ _ _ (by omega) hC (by rw [fld_s, ← ha, ha2]; rfl)
        | succ m2 ih2 =>
          intro k a2 w v5 hk hC ha2
          refine qa_iload hΓ dL_tale_76 rfl ?_
          refine qa_bipush (v := nI 6) hΓ dL_tale_78 bp_6 ?_
          refine qz_icmp_ge (tgt := 122) hΓ dL_tale_80 (by decide) (by omega) (by omega) (fun h => absurd h (by omega)) (fun h => ?_)
          have lJ : ∀ (m3 j : Nat) (a3 : Int64) (w : Nat → AC), j + m3 = 6 → CW M B n w → a3 = fld (tC M r k) j a2 → Γ 86 [aR 0, aL a3, none, aZ r, aZ k, aZ (3 * j)] [] (0, 0) n w := by
            intro m3
            induction m3 with
            | zero =>
              intro j a3 w hj hC ha3
              refine qa_iload hΓ dL_tale_86 rfl ?_
              refine qa_bipush (v := nI 16) hΓ dL_tale_88 bp_16 ?_
              refine qz_icmp_ge (tgt := 116) hΓ dL_tale_90 (by decide) (by omega) (by omega) (fun h => ?_) (fun h => absurd h (by omega))
              refine qz_iinc hΓ dL_tale_116 ii_1 rfl (by decide) ?_
              refine qa_goto (tgt := 76) hΓ dL_tale_119 (by decide) ?_
              have hj6 : j = 6 := by omega
              subst hj6
              exact ih2 (k + 1) _ _ _ (by omega) hC (by rw [fld_s, ← ha2]; exact ha3)
            | succ m3 ih3 =>
              intro j a3 w hj hC ha3
              refine qa_iload hΓ dL_tale_86 rfl ?_
              refine qa_bipush (v := nI 16) hΓ dL_tale_88 bp_16 ?_
              refine qz_icmp_ge (tgt := 116) hΓ dL_tale_90 (by decide) (by omega) (by omega) (fun h => absurd h (by omega)) (fun h => ?_)
              refine qa_lload_n hΓ dL_tale_93 rfl ?_
              refine qa_ldc2 hΓ dL_tale_94 ckl_L_24 ?_
              refine qa_lmul hΓ dL_tale_97 ?_
              refine qa_aload_n hΓ dL_tale_98 rfl ?_
              refine qa_iload_n hΓ dL_tale_99 rfl ?_
              refine qa_iload hΓ dL_tale_100 rfl ?_
              refine qa_iload hΓ dL_tale_102 rfl ?_
              refine qy_cond hΓ dL_tale_104 lk_L_26 hC hB (by omega) (Nat.le_of_ble_eq_true rfl) ⟨Nat.le_refl _, Nat.le_refl _⟩ _ _ _ (fun w hC => ?_)
              refine qa_i2l hΓ dL_tale_107 ?_
              refine qa_ladd hΓ dL_tale_108 ?_
              refine qa_lstore_n hΓ dL_tale_109 (by decide) (Nat.le_of_ble_eq_true rfl) ?_
              refine qz_iinc hΓ dL_tale_110 ii_3 rfl (by decide) ?_
              refine qa_goto (tgt := 86) hΓ dL_tale_113 (by decide) ?_
              exact ih3 (j + 1) _ _ (by omega) hC (by rw [fld_s, ← ha3]; rfl)
          refine qa_iconst (v := nI 0) hΓ dL_tale_83 ic_0 ?_
          refine qa_istore hΓ dL_tale_84 (by decide) ?_
          exact lJ 6 0 _ _ rfl hC rfl
      -- its numbers
      have lW : ∀ (m2 k : Nat) (a2 : Int64) (w : Nat → AC) (v5 : AV), k + m2 = 8 → CW M B n w → a2 = fld (tB M r) k a → Γ 45 [aR 0, aL a2, none, aZ r, aZ k, v5] [] (0, 0) n w := by
        intro m2
        induction m2 with
        | zero =>
          intro k a2 w v5 hk hC ha2
          refine qa_iload hΓ dL_tale_45 rfl ?_
          refine qa_bipush (v := nI 8) hΓ dL_tale_47 bp_8 ?_
          refine qz_icmp_ge (tgt := 73) hΓ dL_tale_49 (by decide) (by omega) (by omega) (fun h => ?_) (fun h => absurd h (by omega))
          refine qa_iconst (v := nI 0) hΓ dL_tale_73 ic_0 ?_
          refine qa_istore hΓ dL_tale_74 (by decide) ?_
          have hk8 : k = 8 := by omega
          subst hk8
          exact lK 6 0 _ _ _ rfl hC ha2
        | succ m2 ih2 =>
          intro k a2 w v5 hk hC ha2
          refine qa_iload hΓ dL_tale_45 rfl ?_
          refine qa_bipush (v := nI 8) hΓ dL_tale_47 bp_8 ?_
          refine qz_icmp_ge (tgt := 73) hΓ dL_tale_49 (by decide) (by omega) (by omega) (fun h => absurd h (by omega)) (fun h => ?_)
          refine qa_lload_n hΓ dL_tale_52 rfl ?_
          refine qa_ldc2 hΓ dL_tale_53 ckl_L_18 ?_
          refine qa_lmul hΓ dL_tale_56 ?_
          refine qa_aload_n hΓ dL_tale_57 rfl ?_
          refine qa_iload_n hΓ dL_tale_58 rfl ?_
          refine qa_iload hΓ dL_tale_59 rfl ?_
          refine qy_relay hΓ dL_tale_61 lk_L_20 hC hB (by omega) (Nat.le_of_ble_eq_true rfl) ⟨Nat.le_refl _, Nat.le_refl _⟩ _ _ (fun w hC => ?_)
          refine qa_i2l hΓ dL_tale_64 ?_
          refine qa_ladd hΓ dL_tale_65 ?_
          refine qa_lstore_n hΓ dL_tale_66 (by decide) (Nat.le_of_ble_eq_true rfl) ?_
          refine qz_iinc hΓ dL_tale_67 ii_1 rfl (by decide) ?_
          refine qa_goto (tgt := 45) hΓ dL_tale_70 (by decide) ?_
          exact ih2 (k + 1) _ _ _ (by omega) hC (by rw [fld_s, ← ha2]; rfl)
      refine qa_iconst (v := nI 0) hΓ dL_tale_42 ic_0 ?_
      refine qa_istore hΓ dL_tale_43 (by decide) ?_
      exact lW 8 0 _ _ _ rfl hC rfl
  -- the counts
  have lA : ∀ (m k : Nat) (a : Int64) (w : Nat → AC) (v4 v5 : AV), k + m = 9 → CW M B n w → a = fld (tA M) k 3 → Γ 6 [aR 0, aL a, none, aZ k, v4, v5] [] (0, 0) n w := by
    intro m
    induction m with
    | zero =>
      intro k a w v4 v5 hk hC ha
      refine qa_iload_n hΓ dL_tale_6 rfl ?_
      refine qa_bipush (v := nI 9) hΓ dL_tale_7 bp_9 ?_
      refine qz_icmp_ge (tgt := 31) hΓ dL_tale_9 (by decide) (by omega) (by omega) (fun h => ?_) (fun h => absurd h (by omega))
      refine qa_iconst (v := nI 0) hΓ dL_tale_31 ic_0 ?_
      refine qa_istore_n hΓ dL_tale_32 (by decide) ?_
      have hk9 : k = 9 := by omega
      subst hk9
      exact lR (M 0 1) 0 _ _ _ _ (by omega) hC ha
    | succ m ih =>
      intro k a w v4 v5 hk hC ha
      refine qa_iload_n hΓ dL_tale_6 rfl ?_
      refine qa_bipush (v := nI 9) hΓ dL_tale_7 bp_9 ?_
      refine qz_icmp_ge (tgt := 31) hΓ dL_tale_9 (by decide) (by omega) (by omega) (fun h => absurd h (by omega)) (fun h => ?_)
      refine qa_lload_n hΓ dL_tale_12 rfl ?_
      refine qa_ldc2 hΓ dL_tale_13 ckl_L_10 ?_
      refine qa_lmul hΓ dL_tale_16 ?_
      refine qa_aload_n hΓ dL_tale_17 rfl ?_
      refine qa_iload_n hΓ dL_tale_18 rfl ?_
      refine qy_count hΓ dL_tale_19 lk_L_12 hC hB (by omega) (Nat.le_of_ble_eq_true rfl) ⟨Nat.le_refl _, Nat.le_refl _⟩ _ (fun w hC => ?_)
      refine qa_i2l hΓ dL_tale_22 ?_
      refine qa_ladd hΓ dL_tale_23 ?_
      refine qa_lstore_n hΓ dL_tale_24 (by decide) (Nat.le_of_ble_eq_true rfl) ?_
      refine qz_iinc hΓ dL_tale_25 ii_1 rfl (by decide) ?_
      refine qa_goto (tgt := 6) hΓ dL_tale_28 (by decide) ?_
      exact ih (k + 1) _ _ _ _ (by omega) hC (by rw [fld_s, ← ha]; rfl)
  refine qa_ldc2 hΓ dL_tale_0 ckl_L_8 ?_
  refine qa_lstore_n hΓ dL_tale_3 (by decide) (Nat.le_of_ble_eq_true rfl) ?_
  refine qa_iconst (v := nI 0) hΓ dL_tale_4 ic_0 ?_
  refine qa_istore_n hΓ dL_tale_5 (by decide) ?_
  exact lA 9 0 _ _ _ _ rfl hC rfl
