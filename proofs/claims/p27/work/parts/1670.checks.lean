/-! The law's checks: what the questions answer there -/
theorem re_7 {M : Bk} {B r : Nat} (hW : Wt (M 0) B) (hr : r < M 0 1) : reI M (nI r) (nI 7) = nI (cnd (M 0) r (onS (M 0))).toNat := by
  have h8 := hW.2.1
  unfold reI
  have e1 : nI (M 0 1) - nI 1 = nI (M 0 1 - 1) := nI_sub (by omega)
  rw [if_pos ⟨⟨nI_pos' (by omega), by rw [e1]; exact (nI_leI (by omega) (by omega)).mpr (by omega)⟩, nI_pos' (by decide), by decide⟩, tn_nI (by omega), tn_nI (by decide)]
  rfl
theorem ev_0 {M : Bk} {k : Nat} (hk : k < 2147483648) : evI M (nI k) (nI 0) = evR (M 0) k 0 := by
  unfold evI
  rw [if_pos ⟨nI_pos' hk, by decide, by decide⟩, tn_nI hk, tn_nI (by decide)]
theorem ou_at {M : Bk} {a b : Nat} (ha : a ≤ 1) (h1 : 1 ≤ b) (hb : b ≤ 200) : ouI M (nI a) (nI b) = nI (ndE (M 0) (decide (a = 1)) b) := by
  unfold ouI
  rw [if_pos ⟨⟨nI_pos' (by omega), (nI_leI (by omega) (by decide)).mpr ha⟩, (nI_leI (by decide) (by omega)).mpr h1, (nI_leI (by omega) (by decide)).mpr hb⟩, tn_nI (by omega), tn_nI (by omega)]
theorem cmp_rf (x : Int64) : lg_cmp x x = 0 := by simp [lg_cmp]
theorem fed_bit {M : Bk} {B r : Nat} (hW : Wt (M 0) B) (hC : CC (M 0)) (hr : r < M 0 1) : (cnV M 4 >>> r) &&& 1 = (cnd (M 0) r (onS (M 0))).toNat := by
  show (mk (stB (M 0) 4) (M 0 1) >>> r) &&& 1 = _
  rw [mk_sh _ hr]
  have h1 := hC r hr
  unfold stB
  rw [h1]
  cases cnd (M 0) r (onS (M 0)) <;> rfl
section
variable {Γ : Gm} {l : Launch} {y : MethodName} {cc : ByteArray} {mL d mc ms : Nat} {pc n : Nat} {L st : List AV} {cs : Nat × Nat} {w : Nat → AC} {idx : Nat} {M : Bk} {B : Nat}
theorem qy_tale (hΓ : Ok Γ l y cc mL d mc ms) (hd : decode cc pc = .ok (.invokestatic idx, 3)) (hlk : Cond.methodLink y.cls idx yL_tale ∈ wsL_law) (hC : CW M B n w) (hB : B < 800000000) (hdd : 5 ≤ d) (hl8 : st.length ≤ 4) (hcs : cs.1 ≤ mc ∧ cs.2 ≤ ms) (kk : ∀ w', CW M B n w' → Γ (pc + 3) L (aL (tl M) :: st) cs n w') : Γ pc L (aR 0 :: st) cs n w := by
  refine qa_callS hΓ hd hlk vw_L_tale (c_L_tale l (d - 1) (by omega) hC hB) (by omega) rfl rfl hl8 hcs (fun r n' w' h => h.1) (fun r w1 h => ?_)
  obtain ⟨-, rfl, hC1⟩ := h
  exact kk w1 hC1
theorem qy_does (hΓ : Ok Γ l y cc mL d mc ms) (hd : decode cc pc = .ok (.invokestatic idx, 3)) (hlk : Cond.methodLink y.cls idx yL_does ∈ wsL_law) (hC : CW M B n w) (hB : B < 800000000) (hI : Iv (M 0)) (hdd : 8 ≤ d) (hl8 : st.length ≤ 4) (hcs : cs.1 ≤ mc ∧ cs.2 ≤ ms) (v : Int32) (kk : ∀ r M' w', Dn M r M' → CW M' (B + 4100) n w' → Γ (pc + 3) L (aI r :: st) cs n w') : Γ pc L (aI v :: aR 0 :: st) cs n w := by
  refine qa_callS hΓ hd hlk vw_L_does (c_L_does l (d - 1) (by omega) hC hB hI v) (by omega) rfl rfl hl8 hcs (fun r n' w' h => h.1) (fun r w1 h => ?_)
  obtain ⟨-, rr, M1, rfl, hD, hC1⟩ := h
  exact kk rr M1 w1 hD hC1
end
theorem CW.up {M : Bk} {B C n : Nat} {w : Nat → AC} (h : CW M B n w) (hBC : B ≤ C) : CW M C n w := by
  obtain ⟨b, ol, p, g, z, R, q, c1, c2, hZ, k1, k2, k3, k4, k5, k6, k7, k8⟩ := h
  exact ⟨b, ol, p, g, z, R, q, c1, c2, hZ, k1, k2, k3, k4.mono hBC, k5, fun i hi => (k6 i hi).mono hBC, k7, k8⟩
theorem bp_26 : (Int8.ofInt (26)).toInt32 = nI 26 := by decide +kernel
theorem bp_44 : (Int8.ofInt (44)).toInt32 = nI 44 := by decide +kernel
theorem dec1 {k : Nat} (h : 0 < k) : nI k + Int32.ofInt (-1) = nI (k - 1) := by
  rw [← nI_sub (show 1 ≤ k from h), Int32.sub_eq_add_neg]
  rfl

set_option maxRecDepth 100000 in
set_option maxHeartbeats 4000000 in
/-- the checks of one round, from 120 on -/
theorem law_checks {Γ : Gm} {l : Launch} {yn yd : String} {L : Nat} {xs : Nat → Int32} (hO : OkL Γ l ⟨RL, yn, yd⟩ cL_law 10 9 600000 7302250 70 L xs) {cs : Nat × Nat} (hcs : cs.1 ≤ 600000 ∧ cs.2 ≤ 7302250) {e : Nat} {B : Nat} (hB : B < 800000000)
    (next : ∀ (M : Bk) (w : Nat → AC) (v4 v5 v7 v8 v9 : AV), CW M B 70 w → JV M → Γ 310 [aR KS, aR 0, aZ (M 5 0), aZ e, v4, v5, none, v7, v8, v9] [] cs 70 w) :
    ∀ (M : Bk) (w : Nat → AC) (v4 v5 : AV) (r7 : Int32) (v8 v9 : AV), CW M B 70 w → JV M → Γ 120 [aR KS, aR 0, aZ (M 5 0), aZ e, v4, v5, none, aI r7, v8, v9] [] cs 70 w := by
  have hΓ := hO.ok
  intro M w v4 v5 r7 v8 v9 hC hJ
  obtain ⟨hW, hCC, h6, -⟩ := hC.w
  have h8 := hW.2.1
  have hW2 : M 0 2 ≤ B := hW.2.2.1
  have hc2 := cn2_le hW _ (Nat.le_refl _)
  have e0 : cnI M (nI 0) = nI (M 0 1) := cn_at (k := 0) (by decide)
  have e1 : cnI M (nI 1) = nI (M 0 2) := cn_at (k := 1) (by decide)
  have e2 : cnI M (nI 2) = nI (cn2 (M 0) (M 0 1)) := cn_at (k := 2) (by decide)
  have e4 : cnI M (nI 4) = nI (cnV M 4) := cn_at (k := 4) (by decide)
  have e5 : cnI M (nI 5) = nI (mk (stB (M 0) 3) (M 0 1)) := cn_at (k := 5) (by decide)
  have e9 : cnI M (nI 9) = nI (M 5 0) := cn_at (k := 9) (by decide)
  have hm3 := mk_256 (stB (M 0) 3) h8
  have hm4 : cnV M 4 < 256 := mk_256 (stB (M 0) 4) h8
  -- a quiet bank
  have quiet : ∀ (w : Nat → AC) (v8 v9 : AV), CW M B 70 w → Γ 282 [aR KS, aR 0, aZ (M 5 0), aZ e, v4, v5, none, aI r7, v8, v9] [] cs 70 w := by
    intro w v8 v9 hC
    refine qa_aload_n hΓ dL_law_282 rfl ?_
    refine qa_iconst (v := nI 2) hΓ dL_law_283 ic_2 ?_
    refine qy_count hΓ dL_law_284 lk_L_12 hC hB (by omega) (Nat.le_of_ble_eq_true rfl) hcs _ (fun w hC => ?_)
    rw [e2]
    refine qz_if_ne (tgt := 310) hΓ dL_law_287 (by decide) (by omega) (fun _ => next M w _ _ _ _ _ hC hJ) (fun h0 => ?_)
    refine qa_aload_n hΓ dL_law_290 rfl ?_
    refine qa_iconst (v := nI 1) hΓ dL_law_291 ic_1 ?_
    refine qa_iconst (v := nI 5) hΓ dL_law_292 ic_5 ?_
    refine qy_out hΓ dL_law_293 lk_L_95 hC hB (by omega) (Nat.le_of_ble_eq_true rfl) hcs _ _ (fun w hC => ?_)
    rw [ou_at (by decide) (by decide) (by decide), quiet_nd hW h0]
    refine qa_sipush (v := nI 256) hΓ dL_law_296 sp_256 ?_
    refine qa_aload_n hΓ dL_law_299 rfl ?_
    refine qa_iconst (v := nI 5) hΓ dL_law_300 ic_5 ?_
    refine qy_count hΓ dL_law_301 lk_L_12 hC hB (by omega) (Nat.le_of_ble_eq_true rfl) hcs _ (fun w hC => ?_)
    rw [e5]
    refine qz_iadd hΓ dL_law_304 ?_
    exact qz_icmp_eq (tgt := 310) hΓ dL_law_305 (by decide) (by omega) (by omega) (fun _ => next M w _ _ _ _ _ hC hJ) (fun h => absurd rfl h)
  -- the events in their order
  have ends : ∀ (w : Nat → AC) (v8 v9 : AV), CW M B 70 w → Γ 238 [aR KS, aR 0, aZ (M 5 0), aZ e, v4, v5, none, aI r7, v8, v9] [] cs 70 w := by
    intro w v8 v9 hC
    refine qa_aload_n hΓ dL_law_238 rfl ?_
    refine qa_aload_n hΓ dL_law_239 rfl ?_
    refine qa_iconst (v := nI 2) hΓ dL_law_240 ic_2 ?_
    refine qy_count hΓ dL_law_241 lk_L_12 hC hB (by omega) (Nat.le_of_ble_eq_true rfl) hcs _ (fun w hC => ?_)
    rw [e2]
    refine qa_iconst (v := nI 0) hΓ dL_law_244 ic_0 ?_
    refine qy_event hΓ dL_law_245 lk_L_32 hC hB (by omega) (Nat.le_of_ble_eq_true rfl) hcs _ _ (fun w hC => ?_)
    rw [ev_0 (by omega), ev_end hW]
    refine qa_bipush (v := -9) hΓ dL_law_248 bp_m9 ?_
    refine qa_icmp_ne (tgt := 280) hΓ dL_law_250 (by decide) (fun h => absurd rfl h) (fun _ => ?_)
    refine qa_aload_n hΓ dL_law_253 rfl ?_
    refine qy_race hΓ dL_law_254 lk_L_92 hC hB (by omega) (Nat.le_of_ble_eq_true rfl) hcs (fun w hC => ?_)
    refine qa_iconst (v := nI 1) hΓ dL_law_257 ic_1 ?_
    have hrc : rcV (M 0) ≤ 1 := by
      unfold rcV
      split <;> omega
    refine qz_icmp_ne (tgt := 282) hΓ dL_law_258 (by decide) (by omega) (by decide) (fun _ => quiet w _ _ hC) (fun h1 => ?_)
    have hne : ¬ ndE (M 0) false 200 = ndE (M 0) true 200 := by
      intro q
      unfold rcV at h1
      rw [if_pos q] at h1
      omega
    have n1 := ndE_le hW false 200
    have n2 := ndE_le hW true 200
    refine qa_aload_n hΓ dL_law_261 rfl ?_
    refine qa_iconst (v := nI 0) hΓ dL_law_262 ic_0 ?_
    refine qa_sipush (v := nI 200) hΓ dL_law_263 sp_200 ?_
    refine qy_out hΓ dL_law_266 lk_L_95 hC hB (by omega) (Nat.le_of_ble_eq_true rfl) hcs _ _ (fun w hC => ?_)
    rw [ou_at (by decide) (by decide) (by decide)]
    refine qa_aload_n hΓ dL_law_269 rfl ?_
    refine qa_iconst (v := nI 1) hΓ dL_law_270 ic_1 ?_
    refine qa_sipush (v := nI 200) hΓ dL_law_271 sp_200 ?_
    refine qy_out hΓ dL_law_274 lk_L_95 hC hB (by omega) (Nat.le_of_ble_eq_true rfl) hcs _ _ (fun w hC => ?_)
    rw [ou_at (by decide) (by decide) (by decide)]
    exact qz_icmp_ne (tgt := 282) hΓ dL_law_277 (by decide) (by show ndE (M 0) false 200 < _; omega) (by show ndE (M 0) true 200 < _; omega) (fun _ => quiet w _ _ hC) (fun h => absurd h hne)
  have order : ∀ (m k t : Nat) (w : Nat → AC), k + m = cn2 (M 0) (M 0 1) → CW M B 70 w → t ≤ B + 20 → (k < cn2 (M 0) (M 0 1) → t ≤ evW (M 0) k) → Γ 199 [aR KS, aR 0, aZ (M 5 0), aZ e, v4, v5, none, aI r7, aZ t, aZ k] [] cs 70 w := by
    intro m
    induction m with
    | zero =>
      intro k t w hk hC ht hn
      refine qa_iload hΓ dL_law_199 rfl ?_
      refine qa_aload_n hΓ dL_law_201 rfl ?_
      refine qa_iconst (v := nI 2) hΓ dL_law_202 ic_2 ?_
      refine qy_count hΓ dL_law_203 lk_L_12 hC hB (by omega) (Nat.le_of_ble_eq_true rfl) hcs _ (fun w hC => ?_)
      rw [e2]
      exact qz_icmp_ge (tgt := 238) hΓ dL_law_206 (by decide) (by omega) (by omega) (fun _ => ends w _ _ hC) (fun h => absurd h (by omega))
    | succ m ih =>
      intro k t w hk hC ht hn
      have hkl : k < cn2 (M 0) (M 0 1) := by omega
      have hle := ev_le hW hkl
      refine qa_iload hΓ dL_law_199 rfl ?_
      refine qa_aload_n hΓ dL_law_201 rfl ?_
      refine qa_iconst (v := nI 2) hΓ dL_law_202 ic_2 ?_
      refine qy_count hΓ dL_law_203 lk_L_12 hC hB (by omega) (Nat.le_of_ble_eq_true rfl) hcs _ (fun w hC => ?_)
      rw [e2]
      refine qz_icmp_ge (tgt := 238) hΓ dL_law_206 (by decide) (by omega) (by omega) (fun h => absurd h (by omega)) (fun _ => ?_)
      refine qa_aload_n hΓ dL_law_209 rfl ?_
      refine qa_iload hΓ dL_law_210 rfl ?_
      refine qa_iconst (v := nI 0) hΓ dL_law_212 ic_0 ?_
      refine qy_event hΓ dL_law_213 lk_L_32 hC hB (by omega) (Nat.le_of_ble_eq_true rfl) hcs _ _ (fun w hC => ?_)
      rw [ev_0 (by omega), ev_val hW hkl]
      refine qa_iload hΓ dL_law_216 rfl ?_
      refine qz_icmp_ge (tgt := 223) hΓ dL_law_218 (by decide) (by omega) (by omega) (fun _ => ?_) (fun h => absurd (hn hkl) (by omega))
      refine qa_aload_n hΓ dL_law_223 rfl ?_
      refine qa_iload hΓ dL_law_224 rfl ?_
      refine qa_iconst (v := nI 0) hΓ dL_law_226 ic_0 ?_
      refine qy_event hΓ dL_law_227 lk_L_32 hC hB (by omega) (Nat.le_of_ble_eq_true rfl) hcs _ _ (fun w hC => ?_)
      rw [ev_0 (by omega), ev_val hW hkl]
      refine qa_istore hΓ dL_law_230 (by decide) ?_
      refine qz_iinc hΓ dL_law_232 ii_1 rfl (by decide) ?_
      refine qa_goto (tgt := 199) hΓ dL_law_235 (by decide) ?_
      exact ih (k + 1) (evW (M 0) k) w (by omega) hC hle (fun h => ev_mono hW h)
  -- the coils
  have coils : ∀ (m r : Nat) (w : Nat → AC), r + m = M 0 1 → CW M B 70 w → Γ 150 [aR KS, aR 0, aZ (M 5 0), aZ e, v4, v5, none, aI r7, aZ r, v9] [] cs 70 w := by
    intro m
    induction m with
    | zero =>
      intro r w hr hC
      refine qa_iload hΓ dL_law_150 rfl ?_
      refine qa_aload_n hΓ dL_law_152 rfl ?_
      refine qa_iconst (v := nI 0) hΓ dL_law_153 ic_0 ?_
      refine qy_count hΓ dL_law_154 lk_L_12 hC hB (by omega) (Nat.le_of_ble_eq_true rfl) hcs _ (fun w hC => ?_)
      rw [e0]
      refine qz_icmp_ge (tgt := 189) hΓ dL_law_157 (by decide) (by omega) (by omega) (fun _ => ?_) (fun h => absurd h (by omega))
      refine qa_aload_n hΓ dL_law_189 rfl ?_
      refine qa_iconst (v := nI 1) hΓ dL_law_190 ic_1 ?_
      refine qy_count hΓ dL_law_191 lk_L_12 hC hB (by omega) (Nat.le_of_ble_eq_true rfl) hcs _ (fun w hC => ?_)
      rw [e1]
      refine qa_istore hΓ dL_law_194 (by decide) ?_
      refine qa_iconst (v := nI 0) hΓ dL_law_196 ic_0 ?_
      refine qa_istore hΓ dL_law_197 (by decide) ?_
      exact order (cn2 (M 0) (M 0 1)) 0 (M 0 2) w (by omega) hC (by omega) (fun h => ev_ge hW hJ.1.2 h)
    | succ m ih =>
      intro r w hr hC
      have hrl : r < M 0 1 := by omega
      refine qa_iload hΓ dL_law_150 rfl ?_
      refine qa_aload_n hΓ dL_law_152 rfl ?_
      refine qa_iconst (v := nI 0) hΓ dL_law_153 ic_0 ?_
      refine qy_count hΓ dL_law_154 lk_L_12 hC hB (by omega) (Nat.le_of_ble_eq_true rfl) hcs _ (fun w hC => ?_)
      rw [e0]
      refine qz_icmp_ge (tgt := 189) hΓ dL_law_157 (by decide) (by omega) (by omega) (fun h => absurd h (by omega)) (fun _ => ?_)
      refine qa_aload_n hΓ dL_law_160 rfl ?_
      refine qa_iconst (v := nI 4) hΓ dL_law_161 ic_4 ?_
      refine qy_count hΓ dL_law_162 lk_L_12 hC hB (by omega) (Nat.le_of_ble_eq_true rfl) hcs _ (fun w hC => ?_)
      rw [e4]
      refine qa_iload hΓ dL_law_165 rfl ?_
      refine qz_ishr hΓ dL_law_167 (by omega) (by omega) ?_
      refine qa_iconst (v := nI 1) hΓ dL_law_168 ic_1 ?_
      refine qz_iand hΓ dL_law_169 ?_
      refine qa_aload_n hΓ dL_law_170 rfl ?_
      refine qa_iload hΓ dL_law_171 rfl ?_
      refine qa_bipush (v := nI 7) hΓ dL_law_173 bp_7 ?_
      refine qy_relay hΓ dL_law_175 lk_L_20 hC hB (by omega) (Nat.le_of_ble_eq_true rfl) hcs _ _ (fun w hC => ?_)
      rw [re_7 hW hrl, fed_bit hW hCC hrl]
      refine qa_icmp_eq (tgt := 183) hΓ dL_law_178 (by decide) (fun _ => ?_) (fun h => absurd rfl h)
      refine qz_iinc hΓ dL_law_183 ii_1 rfl (by decide) ?_
      refine qa_goto (tgt := 150) hΓ dL_law_186 (by decide) ?_
      exact ih (r + 1) w (by omega) hC
  refine qa_aload_n hΓ dL_law_120 rfl ?_
  refine qa_bipush (v := nI 9) hΓ dL_law_121 bp_9 ?_
  refine qy_count hΓ dL_law_123 lk_L_12 hC hB (by omega) (Nat.le_of_ble_eq_true rfl) hcs _ (fun w hC => ?_)
  rw [e9]
  refine qa_iload_n hΓ dL_law_126 rfl ?_
  refine qa_icmp_ne (tgt := 145) hΓ dL_law_127 (by decide) (fun h => absurd rfl h) (fun _ => ?_)
  refine qa_aload_n hΓ dL_law_130 rfl ?_
  refine qa_iconst (v := nI 2) hΓ dL_law_131 ic_2 ?_
  refine qy_count hΓ dL_law_132 lk_L_12 hC hB (by omega) (Nat.le_of_ble_eq_true rfl) hcs _ (fun w hC => ?_)
  rw [e2]
  refine qa_iconst (v := nI 2) hΓ dL_law_135 ic_2 ?_
  refine qa_aload_n hΓ dL_law_136 rfl ?_
  refine qa_iconst (v := nI 0) hΓ dL_law_137 ic_0 ?_
  refine qy_count hΓ dL_law_138 lk_L_12 hC hB (by omega) (Nat.le_of_ble_eq_true rfl) hcs _ (fun w hC => ?_)
  rw [e0]
  refine qz_imul hΓ dL_law_141 ?_
  refine qz_icmp_le (tgt := 147) hΓ dL_law_142 (by decide) (by omega) (by omega) (fun _ => ?_) (fun h => absurd hc2 (by omega))
  refine qa_iconst (v := nI 0) hΓ dL_law_147 ic_0 ?_
  refine qa_istore hΓ dL_law_148 (by decide) ?_
  exact coils (M 0 1) 0 w (by omega) hC
