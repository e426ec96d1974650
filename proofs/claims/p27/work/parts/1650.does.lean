/-! The law's own methods: a number out of the script, a number below another, one call out of a number -/
set_option maxRecDepth 100000 in
theorem c_L_low (l : Launch) (d : Nat) {n : Nat} {w : Nat → AC} (v z : Int32) (hz : ¬ z = 0) : Sq l yL_low cL_low 2 (some .int) d [aI v, aI z] n w (fun r w' => (∃ x, r = some (aI x)) ∧ w' = w) := by
  refine Sp.of (plainFor_of_name (by decide)) (Nat.le_of_ble_eq_true rfl) (fun Γ hΓ hR => ?_)
  show Γ 0 [aI v, aI z] [] (0, 0) n w
  refine qa_iload_n hΓ dL_low_0 rfl ?_
  refine qa_ldc hΓ dL_low_1 ck_L_7 ?_
  refine qa_iand hΓ dL_low_3 ?_
  refine qa_iload_n hΓ dL_low_4 rfl ?_
  refine qa_irem hΓ dL_low_5 hz ?_
  exact qr_i hR dL_low_6 ⟨⟨_, rfl⟩, rfl⟩
theorem sp_7919 : (Int16.ofInt (7919)).toInt32 = nI 7919 := by decide +kernel
set_option maxRecDepth 100000 in
theorem c_L_cell (l : Launch) (d : Nat) {n : Nat} {w : Nat → AC} {L e : Nat} {xs : Nat → Int32} (hL : L ≤ 260) (he : e < 44) : SpX l yL_cell cL_cell 2 (some .int) d [aR KS, aZ e] n w L xs (fun r w' => (∃ x, r = some (aI x)) ∧ w' = w) := by
  refine SpX.of (plainFor_of_name (by decide)) (Nat.le_of_ble_eq_true rfl) (fun Γ hO hR => ?_)
  have hΓ := hO.ok
  show Γ 0 [aR KS, aZ e] [] (0, 0) n w
  refine qa_iload_n hΓ dL_cell_0 rfl ?_
  refine qa_aload_n hΓ dL_cell_1 rfl ?_
  refine qL_slen hO dL_cell_2 ?_
  refine qz_icmp_ge (tgt := 12) hΓ dL_cell_3 (by decide) (by omega) (by omega) (fun h => ?_) (fun h => ?_)
  · refine qa_sipush (v := nI 7919) hΓ dL_cell_12 sp_7919 ?_
    refine qa_iload_n hΓ dL_cell_15 rfl ?_
    refine qa_iconst (v := nI 3) hΓ dL_cell_16 ic_3 ?_
    refine qa_iadd hΓ dL_cell_17 ?_
    refine qa_imul hΓ dL_cell_18 ?_
    refine qa_iload_n hΓ dL_cell_19 rfl ?_
    refine qa_bipush (v := nI 11) hΓ dL_cell_20 bp_11 ?_
    refine qa_iadd hΓ dL_cell_22 ?_
    refine qa_imul hΓ dL_cell_23 ?_
    exact qr_i hR dL_cell_24 ⟨⟨_, rfl⟩, rfl⟩
  · refine qa_aload_n hΓ dL_cell_6 rfl ?_
    refine qa_iload_n hΓ dL_cell_7 rfl ?_
    refine qL_sld hO dL_cell_8 (by omega) (by omega) ?_
    refine qa_goto (tgt := 24) hΓ dL_cell_9 (by decide) ?_
    exact qr_i hR dL_cell_24 ⟨⟨_, rfl⟩, rfl⟩
section
variable {Γ : Gm} {l : Launch} {y : MethodName} {cc : ByteArray} {mL d mc ms : Nat} {pc n : Nat} {L st : List AV} {cs : Nat × Nat} {w : Nat → AC} {idx : Nat}
theorem qy_low (hΓ : Ok Γ l y cc mL d 0 0) (hd : decode cc pc = .ok (.invokestatic idx, 3)) (hlk : Cond.methodLink y.cls idx yL_low ∈ wsL_law) {v z : Int32} (hz : ¬ z = 0) (hdd : 1 ≤ d) (hl8 : st.length ≤ 4) (kk : ∀ x, Γ (pc + 3) L (aI x :: st) (0, 0) n w) : Γ pc L (aI z :: aI v :: st) (0, 0) n w := by
  refine qc_S hΓ hd hlk vw_L_low (by omega) (c_L_low l (d - 1) v z hz) rfl rfl hl8 (fun r w1 h => ?_)
  obtain ⟨⟨x, rfl⟩, e⟩ := h
  subst e
  exact kk x
end
theorem bp_14 : (Int8.ofInt (14)).toInt32 = nI 14 := by decide +kernel
theorem bp_17 : (Int8.ofInt (17)).toInt32 = nI 17 := by decide +kernel
theorem bp_30 : (Int8.ofInt (30)).toInt32 = nI 30 := by decide +kernel
theorem bp_40 : (Int8.ofInt (40)).toInt32 = nI 40 := by decide +kernel

set_option maxRecDepth 100000 in
set_option maxHeartbeats 4000000 in
theorem c_L_does (l : Launch) (d : Nat) (hd : 7 ≤ d) {n : Nat} {w : Nat → AC} {M : Bk} {B : Nat} (hC : CW M B n w) (hB : B < 800000000) (hI : Iv (M 0)) (v : Int32) : Sq l yL_does cL_does 3 (some .int) d [aR 0, aI v] n w (fun r w' => ∃ rr M', r = some (aI rr) ∧ Dn M rr M' ∧ CW M' (B + 4100) n w') := by
  refine Sp.of (plainFor_of_name (by decide)) (Nat.le_of_ble_eq_true rfl) (fun Γ hΓ hR => ?_)
  show Γ 0 [aR 0, aI v, none] [] (0, 0) n w
  refine qa_iload_n hΓ dL_does_0 rfl ?_
  refine qa_iconst (v := nI 4) hΓ dL_does_1 ic_4 ?_
  refine qa_ishr hΓ dL_does_2 ?_
  refine qa_iconst (v := nI 5) hΓ dL_does_3 ic_5 ?_
  refine qy_low hΓ dL_does_4 lk_L_39 (by decide) (by omega) (Nat.le_of_ble_eq_true rfl) (fun x_4 => ?_)
  refine qa_istore_n hΓ dL_does_7 (by decide) ?_
  refine qa_iload_n hΓ dL_does_8 rfl ?_
  refine qa_bipush (v := nI 15) hΓ dL_does_9 bp_15 ?_
  refine qa_iand hΓ dL_does_11 ?_
  generalize v &&& nI 15 = sw
  by_cases hT : nI 0 ≤ sw ∧ sw ≤ nI 13
  · obtain ⟨j, hj1, hj2, rfl⟩ := rng (by decide) hT (by decide)
    rcases (show j = 0 ∨ j = 1 ∨ j = 2 ∨ j = 3 ∨ j = 4 ∨ j = 5 ∨ j = 6 ∨ j = 7 ∨ j = 8 ∨ j = 9 ∨ j = 10 ∨ j = 11 ∨ j = 12 ∨ j = 13 by omega) with rfl | rfl | rfl | rfl | rfl | rfl | rfl | rfl | rfl | rfl | rfl | rfl | rfl | rfl
    · refine qa_tabIn (off := 72) (tgt := 84) hΓ dL_does_12 (by decide +kernel) (by decide +kernel) (by decide +kernel) (by decide) ?_
      refine qa_aload_n hΓ dL_does_84 rfl ?_
      refine qa_iconst (v := nI 1) hΓ dL_does_85 ic_1 ?_
      refine qa_iload_n hΓ dL_does_86 rfl ?_
      refine qa_iconst (v := nI 4) hΓ dL_does_87 ic_4 ?_
      refine qa_ishr hΓ dL_does_88 ?_
      refine qa_bipush (v := nI 20) hΓ dL_does_89 bp_20 ?_
      refine qy_low hΓ dL_does_91 lk_L_39 (by decide) (by omega) (Nat.le_of_ble_eq_true rfl) (fun x_91 => ?_)
      refine qa_iadd hΓ dL_does_94 ?_
      refine qa_iconst (v := nI 1) hΓ dL_does_95 ic_1 ?_
      refine qa_iload_n hΓ dL_does_96 rfl ?_
      refine qa_bipush (v := nI 9) hΓ dL_does_97 bp_9 ?_
      refine qa_ishr hΓ dL_does_99 ?_
      refine qa_bipush (v := nI 20) hΓ dL_does_100 bp_20 ?_
      refine qy_low hΓ dL_does_102 lk_L_39 (by decide) (by omega) (Nat.le_of_ble_eq_true rfl) (fun x_102 => ?_)
      refine qa_iadd hΓ dL_does_105 ?_
      refine qa_iload_n hΓ dL_does_106 rfl ?_
      refine qa_bipush (v := nI 14) hΓ dL_does_107 bp_14 ?_
      refine qa_ishr hΓ dL_does_109 ?_
      refine qa_bipush (v := nI 6) hΓ dL_does_110 bp_6 ?_
      refine qy_low hΓ dL_does_112 lk_L_39 (by decide) (by omega) (Nat.le_of_ble_eq_true rfl) (fun x_112 => ?_)
      refine qy_add hΓ dL_does_115 lk_L_44 hC hB hI (by omega) (Nat.le_of_ble_eq_true rfl) ⟨Nat.le_refl _, Nat.le_refl _⟩ _ _ _ (fun r M1 w1 hD hC1 => ?_)
      exact qr_i hR dL_does_118 ⟨r, M1, rfl, hD, hC1⟩
    · refine qa_tabIn (off := 72) (tgt := 84) hΓ dL_does_12 (by decide +kernel) (by decide +kernel) (by decide +kernel) (by decide) ?_
      refine qa_aload_n hΓ dL_does_84 rfl ?_
      refine qa_iconst (v := nI 1) hΓ dL_does_85 ic_1 ?_
      refine qa_iload_n hΓ dL_does_86 rfl ?_
      refine qa_iconst (v := nI 4) hΓ dL_does_87 ic_4 ?_
      refine qa_ishr hΓ dL_does_88 ?_
      refine qa_bipush (v := nI 20) hΓ dL_does_89 bp_20 ?_
      refine qy_low hΓ dL_does_91 lk_L_39 (by decide) (by omega) (Nat.le_of_ble_eq_true rfl) (fun x_91 => ?_)
      refine qa_iadd hΓ dL_does_94 ?_
      refine qa_iconst (v := nI 1) hΓ dL_does_95 ic_1 ?_
      refine qa_iload_n hΓ dL_does_96 rfl ?_
      refine qa_bipush (v := nI 9) hΓ dL_does_97 bp_9 ?_
      refine qa_ishr hΓ dL_does_99 ?_
      refine qa_bipush (v := nI 20) hΓ dL_does_100 bp_20 ?_
      refine qy_low hΓ dL_does_102 lk_L_39 (by decide) (by omega) (Nat.le_of_ble_eq_true rfl) (fun x_102 => ?_)
      refine qa_iadd hΓ dL_does_105 ?_
      refine qa_iload_n hΓ dL_does_106 rfl ?_
      refine qa_bipush (v := nI 14) hΓ dL_does_107 bp_14 ?_
      refine qa_ishr hΓ dL_does_109 ?_
      refine qa_bipush (v := nI 6) hΓ dL_does_110 bp_6 ?_
      refine qy_low hΓ dL_does_112 lk_L_39 (by decide) (by omega) (Nat.le_of_ble_eq_true rfl) (fun x_112 => ?_)
      refine qy_add hΓ dL_does_115 lk_L_44 hC hB hI (by omega) (Nat.le_of_ble_eq_true rfl) ⟨Nat.le_refl _, Nat.le_refl _⟩ _ _ _ (fun r M1 w1 hD hC1 => ?_)
      exact qr_i hR dL_does_118 ⟨r, M1, rfl, hD, hC1⟩
    · refine qa_tabIn (off := 107) (tgt := 119) hΓ dL_does_12 (by decide +kernel) (by decide +kernel) (by decide +kernel) (by decide) ?_
      refine qa_aload_n hΓ dL_does_119 rfl ?_
      refine qa_iload_n hΓ dL_does_120 rfl ?_
      refine qa_iconst (v := nI 1) hΓ dL_does_121 ic_1 ?_
      refine qa_iload_n hΓ dL_does_122 rfl ?_
      refine qa_bipush (v := nI 7) hΓ dL_does_123 bp_7 ?_
      refine qa_ishr hΓ dL_does_125 ?_
      refine qa_bipush (v := nI 20) hΓ dL_does_126 bp_20 ?_
      refine qy_low hΓ dL_does_128 lk_L_39 (by decide) (by omega) (Nat.le_of_ble_eq_true rfl) (fun x_128 => ?_)
      refine qa_iadd hΓ dL_does_131 ?_
      refine qa_iconst (v := nI 1) hΓ dL_does_132 ic_1 ?_
      refine qa_iload_n hΓ dL_does_133 rfl ?_
      refine qa_bipush (v := nI 12) hΓ dL_does_134 bp_12 ?_
      refine qa_ishr hΓ dL_does_136 ?_
      refine qa_bipush (v := nI 20) hΓ dL_does_137 bp_20 ?_
      refine qy_low hΓ dL_does_139 lk_L_39 (by decide) (by omega) (Nat.le_of_ble_eq_true rfl) (fun x_139 => ?_)
      refine qa_iadd hΓ dL_does_142 ?_
      refine qa_iload_n hΓ dL_does_143 rfl ?_
      refine qa_bipush (v := nI 17) hΓ dL_does_144 bp_17 ?_
      refine qa_ishr hΓ dL_does_146 ?_
      refine qa_bipush (v := nI 6) hΓ dL_does_147 bp_6 ?_
      refine qy_low hΓ dL_does_149 lk_L_39 (by decide) (by omega) (Nat.le_of_ble_eq_true rfl) (fun x_149 => ?_)
      refine qy_setD hΓ dL_does_152 lk_L_47 hC hB hI (by omega) (Nat.le_of_ble_eq_true rfl) ⟨Nat.le_refl _, Nat.le_refl _⟩ _ _ _ _ (fun r M1 w1 hD hC1 => ?_)
      exact qr_i hR dL_does_155 ⟨r, M1, rfl, hD, hC1⟩
    · refine qa_tabIn (off := 144) (tgt := 156) hΓ dL_does_12 (by decide +kernel) (by decide +kernel) (by decide +kernel) (by decide) ?_
      refine qa_aload_n hΓ dL_does_156 rfl ?_
      refine qa_iload_n hΓ dL_does_157 rfl ?_
      refine qa_iload_n hΓ dL_does_158 rfl ?_
      refine qa_bipush (v := nI 7) hΓ dL_does_159 bp_7 ?_
      refine qa_ishr hΓ dL_does_161 ?_
      refine qa_iconst (v := nI 3) hΓ dL_does_162 ic_3 ?_
      refine qy_low hΓ dL_does_163 lk_L_39 (by decide) (by omega) (Nat.le_of_ble_eq_true rfl) (fun x_163 => ?_)
      refine qa_iload_n hΓ dL_does_166 rfl ?_
      refine qa_bipush (v := nI 9) hΓ dL_does_167 bp_9 ?_
      refine qa_ishr hΓ dL_does_169 ?_
      refine qa_bipush (v := nI 14) hΓ dL_does_170 bp_14 ?_
      refine qy_low hΓ dL_does_172 lk_L_39 (by decide) (by omega) (Nat.le_of_ble_eq_true rfl) (fun x_172 => ?_)
      refine qa_iload_n hΓ dL_does_175 rfl ?_
      refine qa_bipush (v := nI 13) hΓ dL_does_176 bp_13 ?_
      refine qa_ishr hΓ dL_does_178 ?_
      refine qa_iconst (v := nI 3) hΓ dL_does_179 ic_3 ?_
      refine qy_low hΓ dL_does_180 lk_L_39 (by decide) (by omega) (Nat.le_of_ble_eq_true rfl) (fun x_180 => ?_)
      refine qy_setC hΓ dL_does_183 lk_L_51 hC hB hI (by omega) (Nat.le_of_ble_eq_true rfl) ⟨Nat.le_refl _, Nat.le_refl _⟩ _ _ _ _ (fun r M1 w1 hD hC1 => ?_)
      exact qr_i hR dL_does_186 ⟨r, M1, rfl, hD, hC1⟩
    · refine qa_tabIn (off := 144) (tgt := 156) hΓ dL_does_12 (by decide +kernel) (by decide +kernel) (by decide +kernel) (by decide) ?_
      refine qa_aload_n hΓ dL_does_156 rfl ?_
      refine qa_iload_n hΓ dL_does_157 rfl ?_
      refine qa_iload_n hΓ dL_does_158 rfl ?_
      refine qa_bipush (v := nI 7) hΓ dL_does_159 bp_7 ?_
      refine qa_ishr hΓ dL_does_161 ?_
      refine qa_iconst (v := nI 3) hΓ dL_does_162 ic_3 ?_
      refine qy_low hΓ dL_does_163 lk_L_39 (by decide) (by omega) (Nat.le_of_ble_eq_true rfl) (fun x_163 => ?_)
      refine qa_iload_n hΓ dL_does_166 rfl ?_
      refine qa_bipush (v := nI 9) hΓ dL_does_167 bp_9 ?_
      refine qa_ishr hΓ dL_does_169 ?_
      refine qa_bipush (v := nI 14) hΓ dL_does_170 bp_14 ?_
      refine qy_low hΓ dL_does_172 lk_L_39 (by decide) (by omega) (Nat.le_of_ble_eq_true rfl) (fun x_172 => ?_)
      refine qa_iload_n hΓ dL_does_175 rfl ?_
      refine qa_bipush (v := nI 13) hΓ dL_does_176 bp_13 ?_
      refine qa_ishr hΓ dL_does_178 ?_
      refine qa_iconst (v := nI 3) hΓ dL_does_179 ic_3 ?_
      refine qy_low hΓ dL_does_180 lk_L_39 (by decide) (by omega) (Nat.le_of_ble_eq_true rfl) (fun x_180 => ?_)
      refine qy_setC hΓ dL_does_183 lk_L_51 hC hB hI (by omega) (Nat.le_of_ble_eq_true rfl) ⟨Nat.le_refl _, Nat.le_refl _⟩ _ _ _ _ (fun r M1 w1 hD hC1 => ?_)
      exact qr_i hR dL_does_186 ⟨r, M1, rfl, hD, hC1⟩
    · refine qa_tabIn (off := 144) (tgt := 156) hΓ dL_does_12 (by decide +kernel) (by decide +kernel) (by decide +kernel) (by decide) ?_
      refine qa_aload_n hΓ dL_does_156 rfl ?_
      refine qa_iload_n hΓ dL_does_157 rfl ?_
      refine qa_iload_n hΓ dL_does_158 rfl ?_
      refine qa_bipush (v := nI 7) hΓ dL_does_159 bp_7 ?_
      refine qa_ishr hΓ dL_does_161 ?_
      refine qa_iconst (v := nI 3) hΓ dL_does_162 ic_3 ?_
      refine qy_low hΓ dL_does_163 lk_L_39 (by decide) (by omega) (Nat.le_of_ble_eq_true rfl) (fun x_163 => ?_)
      refine qa_iload_n hΓ dL_does_166 rfl ?_
      refine qa_bipush (v := nI 9) hΓ dL_does_167 bp_9 ?_
      refine qa_ishr hΓ dL_does_169 ?_
      refine qa_bipush (v := nI 14) hΓ dL_does_170 bp_14 ?_
      refine qy_low hΓ dL_does_172 lk_L_39 (by decide) (by omega) (Nat.le_of_ble_eq_true rfl) (fun x_172 => ?_)
      refine qa_iload_n hΓ dL_does_175 rfl ?_
      refine qa_bipush (v := nI 13) hΓ dL_does_176 bp_13 ?_
      refine qa_ishr hΓ dL_does_178 ?_
      refine qa_iconst (v := nI 3) hΓ dL_does_179 ic_3 ?_
      refine qy_low hΓ dL_does_180 lk_L_39 (by decide) (by omega) (Nat.le_of_ble_eq_true rfl) (fun x_180 => ?_)
      refine qy_setC hΓ dL_does_183 lk_L_51 hC hB hI (by omega) (Nat.le_of_ble_eq_true rfl) ⟨Nat.le_refl _, Nat.le_refl _⟩ _ _ _ _ (fun r M1 w1 hD hC1 => ?_)
      exact qr_i hR dL_does_186 ⟨r, M1, rfl, hD, hC1⟩
    · refine qa_tabIn (off := 175) (tgt := 187) hΓ dL_does_12 (by decide +kernel) (by decide +kernel) (by decide +kernel) (by decide) ?_
      refine qa_aload_n hΓ dL_does_187 rfl ?_
      refine qa_iload_n hΓ dL_does_188 rfl ?_
      refine qa_iload_n hΓ dL_does_189 rfl ?_
      refine qa_bipush (v := nI 7) hΓ dL_does_190 bp_7 ?_
      refine qa_ishr hΓ dL_does_192 ?_
      refine qa_iconst (v := nI 3) hΓ dL_does_193 ic_3 ?_
      refine qy_low hΓ dL_does_194 lk_L_39 (by decide) (by omega) (Nat.le_of_ble_eq_true rfl) (fun x_194 => ?_)
      refine qy_rem hΓ dL_does_197 lk_L_54 hC hB hI (by omega) (Nat.le_of_ble_eq_true rfl) ⟨Nat.le_refl _, Nat.le_refl _⟩ _ _ (fun r M1 w1 hD hC1 => ?_)
      exact qr_i hR dL_does_200 ⟨r, M1, rfl, hD, hC1⟩
    · refine qa_tabIn (off := 189) (tgt := 201) hΓ dL_does_12 (by decide +kernel) (by decide +kernel) (by decide +kernel) (by decide) ?_
      refine qa_aload_n hΓ dL_does_201 rfl ?_
      refine qa_iload_n hΓ dL_does_202 rfl ?_
      refine qa_iconst (v := nI 4) hΓ dL_does_203 ic_4 ?_
      refine qa_ishr hΓ dL_does_204 ?_
      refine qa_bipush (v := nI 6) hΓ dL_does_205 bp_6 ?_
      refine qy_low hΓ dL_does_207 lk_L_39 (by decide) (by omega) (Nat.le_of_ble_eq_true rfl) (fun x_207 => ?_)
      refine qa_iload_n hΓ dL_does_210 rfl ?_
      refine qa_bipush (v := nI 7) hΓ dL_does_211 bp_7 ?_
      refine qa_ishr hΓ dL_does_213 ?_
      refine qa_iconst (v := nI 1) hΓ dL_does_214 ic_1 ?_
      refine qa_iand hΓ dL_does_215 ?_
      refine qy_press hΓ dL_does_216 lk_L_57 hC hB hI (by omega) (Nat.le_of_ble_eq_true rfl) ⟨Nat.le_refl _, Nat.le_refl _⟩ _ _ (fun r M1 w1 hD hC1 => ?_)
      exact qr_i hR dL_does_219 ⟨r, M1, rfl, hD, hC1⟩
    · refine qa_tabIn (off := 189) (tgt := 201) hΓ dL_does_12 (by decide +kernel) (by decide +kernel) (by decide +kernel) (by decide) ?_
      refine qa_aload_n hΓ dL_does_201 rfl ?_
      refine qa_iload_n hΓ dL_does_202 rfl ?_
      refine qa_iconst (v := nI 4) hΓ dL_does_203 ic_4 ?_
      refine qa_ishr hΓ dL_does_204 ?_
      refine qa_bipush (v := nI 6) hΓ dL_does_205 bp_6 ?_
      refine qy_low hΓ dL_does_207 lk_L_39 (by decide) (by omega) (Nat.le_of_ble_eq_true rfl) (fun x_207 => ?_)
      refine qa_iload_n hΓ dL_does_210 rfl ?_
      refine qa_bipush (v := nI 7) hΓ dL_does_211 bp_7 ?_
      refine qa_ishr hΓ dL_does_213 ?_
      refine qa_iconst (v := nI 1) hΓ dL_does_214 ic_1 ?_
      refine qa_iand hΓ dL_does_215 ?_
      refine qy_press hΓ dL_does_216 lk_L_57 hC hB hI (by omega) (Nat.le_of_ble_eq_true rfl) ⟨Nat.le_refl _, Nat.le_refl _⟩ _ _ (fun r M1 w1 hD hC1 => ?_)
      exact qr_i hR dL_does_219 ⟨r, M1, rfl, hD, hC1⟩
    · refine qa_tabIn (off := 189) (tgt := 201) hΓ dL_does_12 (by decide +kernel) (by decide +kernel) (by decide +kernel) (by decide) ?_
      refine qa_aload_n hΓ dL_does_201 rfl ?_
      refine qa_iload_n hΓ dL_does_202 rfl ?_
      refine qa_iconst (v := nI 4) hΓ dL_does_203 ic_4 ?_
      refine qa_ishr hΓ dL_does_204 ?_
      refine qa_bipush (v := nI 6) hΓ dL_does_205 bp_6 ?_
      refine qy_low hΓ dL_does_207 lk_L_39 (by decide) (by omega) (Nat.le_of_ble_eq_true rfl) (fun x_207 => ?_)
      refine qa_iload_n hΓ dL_does_210 rfl ?_
      refine qa_bipush (v := nI 7) hΓ dL_does_211 bp_7 ?_
      refine qa_ishr hΓ dL_does_213 ?_
      refine qa_iconst (v := nI 1) hΓ dL_does_214 ic_1 ?_
      refine qa_iand hΓ dL_does_215 ?_
      refine qy_press hΓ dL_does_216 lk_L_57 hC hB hI (by omega) (Nat.le_of_ble_eq_true rfl) ⟨Nat.le_refl _, Nat.le_refl _⟩ _ _ (fun r M1 w1 hD hC1 => ?_)
      exact qr_i hR dL_does_219 ⟨r, M1, rfl, hD, hC1⟩
    · refine qa_tabIn (off := 208) (tgt := 220) hΓ dL_does_12 (by decide +kernel) (by decide +kernel) (by decide +kernel) (by decide) ?_
      refine qa_aload_n hΓ dL_does_220 rfl ?_
      refine qa_iload_n hΓ dL_does_221 rfl ?_
      refine qa_iload_n hΓ dL_does_222 rfl ?_
      refine qa_bipush (v := nI 7) hΓ dL_does_223 bp_7 ?_
      refine qa_ishr hΓ dL_does_225 ?_
      refine qa_iconst (v := nI 3) hΓ dL_does_226 ic_3 ?_
      refine qy_low hΓ dL_does_227 lk_L_39 (by decide) (by omega) (Nat.le_of_ble_eq_true rfl) (fun x_227 => ?_)
      refine qy_fault hΓ dL_does_230 lk_L_60 hC hB hI (by omega) (Nat.le_of_ble_eq_true rfl) ⟨Nat.le_refl _, Nat.le_refl _⟩ _ _ (fun r M1 w1 hD hC1 => ?_)
      exact qr_i hR dL_does_233 ⟨r, M1, rfl, hD, hC1⟩
    · refine qa_tabIn (off := 222) (tgt := 234) hΓ dL_does_12 (by decide +kernel) (by decide +kernel) (by decide +kernel) (by decide) ?_
      refine qa_aload_n hΓ dL_does_234 rfl ?_
      refine qa_iload_n hΓ dL_does_235 rfl ?_
      refine qa_iload_n hΓ dL_does_236 rfl ?_
      refine qa_bipush (v := nI 7) hΓ dL_does_237 bp_7 ?_
      refine qa_ishr hΓ dL_does_239 ?_
      refine qa_iconst (v := nI 5) hΓ dL_does_240 ic_5 ?_
      refine qy_low hΓ dL_does_241 lk_L_39 (by decide) (by omega) (Nat.le_of_ble_eq_true rfl) (fun x_241 => ?_)
      refine qa_if_ne (tgt := 251) hΓ dL_does_244 (by decide) (fun _ => ?_) (fun _ => ?_)
      · refine qa_iconst (v := nI 0) hΓ dL_does_251 ic_0 ?_
        refine qy_stick hΓ dL_does_252 lk_L_63 hC hB hI (by omega) (Nat.le_of_ble_eq_true rfl) ⟨Nat.le_refl _, Nat.le_refl _⟩ _ _ (fun r M1 w1 hD hC1 => ?_)
        exact qr_i hR dL_does_255 ⟨r, M1, rfl, hD, hC1⟩
      · refine qa_iconst (v := nI 1) hΓ dL_does_247 ic_1 ?_
        refine qa_goto (tgt := 252) hΓ dL_does_248 (by decide) ?_
        refine qy_stick hΓ dL_does_252 lk_L_63 hC hB hI (by omega) (Nat.le_of_ble_eq_true rfl) ⟨Nat.le_refl _, Nat.le_refl _⟩ _ _ (fun r M1 w1 hD hC1 => ?_)
        exact qr_i hR dL_does_255 ⟨r, M1, rfl, hD, hC1⟩
    · refine qa_tabIn (off := 244) (tgt := 256) hΓ dL_does_12 (by decide +kernel) (by decide +kernel) (by decide +kernel) (by decide) ?_
      refine qa_aload_n hΓ dL_does_256 rfl ?_
      refine qa_iconst (v := nI 1) hΓ dL_does_257 ic_1 ?_
      refine qa_iload_n hΓ dL_does_258 rfl ?_
      refine qa_iconst (v := nI 4) hΓ dL_does_259 ic_4 ?_
      refine qa_ishr hΓ dL_does_260 ?_
      refine qa_bipush (v := nI 30) hΓ dL_does_261 bp_30 ?_
      refine qy_low hΓ dL_does_263 lk_L_39 (by decide) (by omega) (Nat.le_of_ble_eq_true rfl) (fun x_263 => ?_)
      refine qa_iadd hΓ dL_does_266 ?_
      refine qy_settle hΓ dL_does_267 lk_L_66 hC hB hI (by omega) (Nat.le_of_ble_eq_true rfl) ⟨Nat.le_refl _, Nat.le_refl _⟩ _ (fun r M1 w1 hD hC1 => ?_)
      exact qr_i hR dL_does_270 ⟨r, M1, rfl, hD, hC1⟩
    · refine qa_tabIn (off := 259) (tgt := 271) hΓ dL_does_12 (by decide +kernel) (by decide +kernel) (by decide +kernel) (by decide) ?_
      refine qa_aload_n hΓ dL_does_271 rfl ?_
      refine qa_iconst (v := nI 1) hΓ dL_does_272 ic_1 ?_
      refine qa_iload_n hΓ dL_does_273 rfl ?_
      refine qa_iconst (v := nI 4) hΓ dL_does_274 ic_4 ?_
      refine qa_ishr hΓ dL_does_275 ?_
      refine qa_bipush (v := nI 40) hΓ dL_does_276 bp_40 ?_
      refine qy_low hΓ dL_does_278 lk_L_39 (by decide) (by omega) (Nat.le_of_ble_eq_true rfl) (fun x_278 => ?_)
      refine qa_iadd hΓ dL_does_281 ?_
      refine qy_pass hΓ dL_does_282 lk_L_69 hC hB hI (by omega) (Nat.le_of_ble_eq_true rfl) ⟨Nat.le_refl _, Nat.le_refl _⟩ _ (fun r M1 w1 hD hC1 => ?_)
      exact qr_i hR dL_does_285 ⟨r, M1, rfl, hD, hC1⟩
  · refine qa_tabOut (tgt := 286) hΓ dL_does_12 (toInt_out hT (by decide) (by decide)) (by decide) ?_
    refine qa_aload_n hΓ dL_does_286 rfl ?_
    refine qy_step hΓ dL_does_287 lk_L_72 hC hB hI (by omega) (Nat.le_of_ble_eq_true rfl) ⟨Nat.le_refl _, Nat.le_refl _⟩ (fun r M1 w1 hD hC1 => ?_)
    exact qr_i hR dL_does_290 ⟨r, M1, rfl, hD, hC1⟩
