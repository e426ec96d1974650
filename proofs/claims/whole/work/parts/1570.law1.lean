/-! The law: its script is an old row, at the place KS beyond the world's cells -/
abbrev KS : Nat := 1000000
/-- what the law's walk stands on, once the objects are made -/
def OkL (Γ : Gm) (l : Launch) (y : MethodName) (cc : ByteArray) (mL d mc ms L : Nat) (xs : Nat → Int32) : Prop :=
  ∃ (p : Program) (e : Env) (s : State) (m : MethodId) (args : Array Value) (below : List Frame) (meth : Method) (c : Code) (D : va_G) (cT : Nat → ClassId) (A : Nat → Prop) (Q : State → Prop) (ad0 : Nat → Nat) (R : Room),
    Γ = (fun pc L st cs n w => ∀ (ad : Nat → Nat) (H : Heap) (locs : List Loc) (ls : Array Slot), Ex 76 ad0 n ad → Rp D cT A s ad n w H locs → Lc ad mL L ls → W p l e R s m args below meth c H locs cs.1 cs.2 Q (F0 m pc ls (st.map (rv ad)))) ∧
    p.tables.exec = Jvm.exec ∧ c.code = cc ∧ c.maxLocals = mL ∧ s.vm.findClass y.cls = some m.cls ∧ meth.name = y.name ∧ (∀ w ∈ wsL_law, w.before args s = true) ∧ KK D cT s ∧ (∀ q : Nat, s.heap.size ≤ q → A q) ∧
    d ≤ R.frames ∧ 37 * d ≤ R.locals ∧ R.cells = mc ∧ R.slots = ms ∧ va_X (ad0 KS) L xs s s.heap ∧ ad0 KS < s.heap.size ∧ ¬ A (ad0 KS)
section
variable {Γ : Gm} {l : Launch} {y : MethodName} {cc : ByteArray} {mL d mc ms L : Nat} {xs : Nat → Int32} {pc : Nat} {Ls st : List AV} {cs : Nat × Nat} {w : Nat → AC}
theorem OkL.ok (h : OkL Γ l y cc mL d mc ms L xs) : Ok Γ l y cc mL d mc ms := by
  obtain ⟨p, e, s, m, args, below, meth, c, D, cT, A, Q, ad0, R, h1, h2, h3, h4, h5, h6, h7, h8, h9, h10, h11, h12, h13, _⟩ := h
  exact ⟨p, e, s, m, args, below, meth, c, D, cT, A, Q, 76, ad0, R, h1, h2, h3, h4, h5, h6, h7, h8, h9, h10, h11, h12, h13⟩
theorem qL_sld (h : OkL Γ l y cc mL d mc ms L xs) (hd : decode cc pc = .ok (.iaload, 1)) {j : Nat} (hj : j < L) (hL : L < 2147483648) (kk : Γ (pc + 1) Ls (aI (xs j) :: st) cs 76 w) : Γ pc Ls (aZ j :: aR KS :: st) cs 76 w := by
  obtain ⟨p, e, s, m, args, below, meth, c, D, cT, A, Q, ad0, R, rfl, hx, hb, hml, hown, hnm, hts, hK, hA, hRf, hRl, hRc, hRs, hX, hbl, hbA⟩ := h
  intro ad H locs ls hE hR hLc
  have e0 : ad = ad0 := hE.1 rfl
  subst e0
  refine va_sld hx hb hX hbl hbA hR.2.2 (vp_in_nI hj hL) hd ?_
  rw [nI_clamp (by omega)]
  exact kk ad H locs ls hE hR hLc
theorem qL_slen (h : OkL Γ l y cc mL d mc ms L xs) (hd : decode cc pc = .ok (.arraylength, 1)) (kk : Γ (pc + 1) Ls (aZ L :: st) cs 76 w) : Γ pc Ls (aR KS :: st) cs 76 w := by
  obtain ⟨p, e, s, m, args, below, meth, c, D, cT, A, Q, ad0, R, rfl, hx, hb, hml, hown, hnm, hts, hK, hA, hRf, hRl, hRc, hRs, hX, hbl, hbA⟩ := h
  intro ad H locs ls hE hR hLc
  have e0 : ad = ad0 := hE.1 rfl
  subst e0
  exact va_slen hx hb hX hbl hbA hR.2.2 hd (kk ad H locs ls hE hR hLc)
end
theorem neg5 {L : Nat} (h : L < 5) (j : Nat) (hj : j < 2147483648) : nI L - nI 5 < nI j := by
  have h0 : nI L - nI 5 < 0 := by
    rcases (show L = 0 ∨ L = 1 ∨ L = 2 ∨ L = 3 ∨ L = 4 by omega) with rfl | rfl | rfl | rfl | rfl <;> decide +kernel
  exact Int32.lt_of_lt_of_le h0 (nI_pos' hj)
theorem SX.mono {M : Bk} {B C : Nat} {b : Bk} {ol : Nat} {p : Nat → Bk} (h : SX M B b ol p) (hBC : B ≤ C) : SX M C b ol p := ⟨h.1, h.2.1, h.2.2.1, h.2.2.2.1.mono hBC, h.2.2.2.2.1, fun i hi => (h.2.2.2.2.2.1 i hi).mono hBC, h.2.2.2.2.2.2.1, h.2.2.2.2.2.2.2⟩
set_option maxRecDepth 100000 in
set_option maxHeartbeats 8000000 in
theorem law_loop {Γ : Gm} {l : Launch} {y : MethodName} {L : Nat} {xs : Nat → Int32} (hy : y.cls = RL) (hO : OkL Γ l y cL_law 4 10 600000 7302250 L xs) (hL : L ≤ 2560) (hend : ∀ (pc : Nat) (Ls : List AV) (w : Nat → AC), decode cL_law pc = .ok (.ireturn, 1) → Γ pc Ls [aI 1] (76, 2982) 76 w) : ∀ (m t : Nat) (w : Nat → AC) (M : Bk), t + m = 513 → CW M (4100 * t) 76 w → MdAt 76 w 70 M → Γ 18 [aR KS, aR 0, aR 70, aZ (5 * t)] [] (76, 2982) 76 w := by
  obtain ⟨yc, yn, yd⟩ := y
  have hy : yc = RL := hy
  subst hy
  have hΓ := hO.ok
  have hexit : ∀ (t : Nat) (w : Nat → AC), Γ 822 [aR KS, aR 0, aR 70, aZ (5 * t)] [] (76, 2982) 76 w := by
    intro t w
    refine qa_iconst (v := 1) hΓ dL_law_822 (by decide) ?_
    exact hend _ _ _ dL_law_823
  have hcmp : ∀ (t : Nat) (w : Nat → AC), 5 * t < 2147483648 → (5 * t + 5 ≤ L → Γ 26 [aR KS, aR 0, aR 70, aZ (5 * t)] [] (76, 2982) 76 w) → Γ 18 [aR KS, aR 0, aR 70, aZ (5 * t)] [] (76, 2982) 76 w := by
    intro t w ht kk
    refine qa_iload_n hΓ dL_law_18 rfl ?_
    refine qa_aload_n hΓ dL_law_19 rfl ?_
    refine qL_slen hO dL_law_20 ?_
    refine qa_iconst (v := nI 5) hΓ dL_law_21 ic_5 ?_
    rcases Nat.lt_or_ge L 5 with h5 | h5
    · refine qa_isub hΓ dL_law_22 ?_
      refine qa_icmp_gt (tgt := 822) hΓ dL_law_23 (by decide) (fun _ => hexit t w) (fun h => absurd (neg5 h5 (5 * t) ht) h)
    · refine qz_isub hΓ dL_law_22 h5 ?_
      refine qz_icmp_gt (tgt := 822) hΓ dL_law_23 (by decide) ht (by omega) (fun _ => hexit t w) (fun h => kk (by omega))
  intro m
  induction m with
  | zero =>
    intro t w M htm hC hM
    exact hcmp t w (by omega) (fun h => absurd h (by omega))
  | succ m ih =>
    intro t w M htm hC hM
    refine hcmp t w (by omega) (fun h5 => ?_)
    obtain ⟨b, ol, p, g, z, R, q, c1, c2, hZ, hX⟩ := hC
    obtain ⟨-, -, -, hW, hp6, -, hT60, hT256⟩ := id hX
    have hBd : 4100 * t < 800000000 := by omega
    have next : ∀ (w2 : Nat → AC) (M2 : Bk), CW M2 (4100 * t + 4100) 76 w2 → MdAt 76 w2 70 M2 → Γ 816 [aR KS, aR 0, aR 70, aZ (5 * t)] [] (76, 2982) 76 w2 := by
      intro w2 M2 hC2 hM2
      refine qz_iinc hΓ dL_law_816 ii_5 rfl (by decide) ?_
      refine qa_goto (tgt := 18) hΓ dL_law_819 (by decide) ?_
      refine ih (t + 1) w2 M2 (by omega) ?_ hM2
      rw [show 4100 * (t + 1) = 4100 * t + 4100 by omega]
      exact hC2
    refine qa_aload_n hΓ dL_law_26 rfl ?_
    refine qa_iload_n hΓ dL_law_27 rfl ?_
    refine qL_sld hO dL_law_28 (by omega) (by omega) ?_
    refine qa_bipush (v := nI 31) hΓ dL_law_29 bp_31 ?_
    refine qa_iand hΓ dL_law_31 ?_
    generalize xs (5 * t) &&& nI 31 = v
    by_cases hT : nI 0 ≤ v ∧ v ≤ nI 23
    · obtain ⟨j, hj1, hj2, rfl⟩ := rng (by decide) hT (by decide)
      rcases (show j = 0 ∨ j = 1 ∨ j = 2 ∨ j = 3 ∨ j = 4 ∨ j = 5 ∨ j = 6 ∨ j = 7 ∨ j = 8 ∨ j = 9 ∨ j = 10 ∨ j = 11 ∨ j = 12 ∨ j = 13 ∨ j = 14 ∨ j = 15 ∨ j = 16 ∨ j = 17 ∨ j = 18 ∨ j = 19 ∨ j = 20 ∨ j = 21 ∨ j = 22 ∨ j = 23 by omega) with rfl | rfl | rfl | rfl | rfl | rfl | rfl | rfl | rfl | rfl | rfl | rfl | rfl | rfl | rfl | rfl | rfl | rfl | rfl | rfl | rfl | rfl | rfl | rfl
      · refine qa_tabIn (off := 112) (tgt := 144) hΓ dL_law_32 (by decide +kernel) (by decide +kernel) (by decide +kernel) (by decide) ?_
        refine qa_aload_n hΓ dL_law_144 rfl ?_
        refine qa_aload_n hΓ dL_law_145 rfl ?_
        refine qa_iload_n hΓ dL_law_146 rfl ?_
        refine qa_iconst (v := nI 1) hΓ dL_law_147 ic_1 ?_
        refine qz_iadd hΓ dL_law_148 ?_
        refine qL_sld hO dL_law_149 (by omega) (by omega) ?_
        refine qa_aload_n hΓ dL_law_150 rfl ?_
        refine qa_iload_n hΓ dL_law_151 rfl ?_
        refine qa_iconst (v := nI 2) hΓ dL_law_152 ic_2 ?_
        refine qz_iadd hΓ dL_law_153 ?_
        refine qL_sld hO dL_law_154 (by omega) (by omega) ?_
        refine qa_aload_n hΓ dL_law_155 rfl ?_
        refine qa_iload_n hΓ dL_law_156 rfl ?_
        refine qa_iconst (v := nI 3) hΓ dL_law_157 ic_3 ?_
        refine qz_iadd hΓ dL_law_158 ?_
        refine qL_sld hO dL_law_159 (by omega) (by omega) ?_
        refine qa_callV hΓ dL_law_160 lk_L_13 vw_X5_addRelay (c_X5_addRelay l 9 (by decide) hZ hX hBd _ _ _) (by decide) rfl (by decide) hZ.o rfl rfl (Nat.le_of_ble_eq_true rfl) ⟨by decide, by decide⟩ (fun r n' w' h => h.1) (fun r w1 h => ?_)
        obtain ⟨-, rr, rfl, hF, hq⟩ := h
        have hM := hM.ofFr hF (by decide)
        show Γ 163 _ [aI rr] _ _ _
        refine qa_aload_n hΓ dL_law_163 rfl ?_
        refine qa_aload_n hΓ dL_law_164 rfl ?_
        refine qa_iload_n hΓ dL_law_165 rfl ?_
        refine qa_iconst (v := nI 1) hΓ dL_law_166 ic_1 ?_
        refine qz_iadd hΓ dL_law_167 ?_
        refine qL_sld hO dL_law_168 (by omega) (by omega) ?_
        refine qa_aload_n hΓ dL_law_169 rfl ?_
        refine qa_iload_n hΓ dL_law_170 rfl ?_
        refine qa_iconst (v := nI 2) hΓ dL_law_171 ic_2 ?_
        refine qz_iadd hΓ dL_law_172 ?_
        refine qL_sld hO dL_law_173 (by omega) (by omega) ?_
        refine qa_aload_n hΓ dL_law_174 rfl ?_
        refine qa_iload_n hΓ dL_law_175 rfl ?_
        refine qa_iconst (v := nI 3) hΓ dL_law_176 ic_3 ?_
        refine qz_iadd hΓ dL_law_177 ?_
        refine qL_sld hO dL_law_178 (by omega) (by omega) ?_
        refine qa_callV hΓ dL_law_179 lk_L_17 vw_X6_addRelay (c_X6_addRelay l 9 (by decide) hM hW (by omega) hp6 _ _ _) (by decide) rfl (by decide) hM.o rfl rfl (Nat.le_of_ble_eq_true rfl) ⟨by decide, by decide⟩ (fun r n' w' h => h.1) (fun r w2 h => ?_)
        obtain ⟨-, r2, M2, rfl, hM2, hF2, hsp⟩ := h
        obtain ⟨rfl, hCW2⟩ := hq _ _ hsp
        show Γ 182 _ [aI r2, aI r2] _ _ _
        refine qa_icmp_eq (tgt := 816) hΓ dL_law_182 (by decide) (fun _ => ?_) (fun h => absurd rfl h)
        exact next w2 _ (hCW2.fr hF2) hM2
      · refine qa_tabIn (off := 155) (tgt := 187) hΓ dL_law_32 (by decide +kernel) (by decide +kernel) (by decide +kernel) (by decide) ?_
        refine qa_aload_n hΓ dL_law_187 rfl ?_
        refine qa_aload_n hΓ dL_law_188 rfl ?_
        refine qa_iload_n hΓ dL_law_189 rfl ?_
        refine qa_iconst (v := nI 1) hΓ dL_law_190 ic_1 ?_
        refine qz_iadd hΓ dL_law_191 ?_
        refine qL_sld hO dL_law_192 (by omega) (by omega) ?_
        refine qa_aload_n hΓ dL_law_193 rfl ?_
        refine qa_iload_n hΓ dL_law_194 rfl ?_
        refine qa_iconst (v := nI 2) hΓ dL_law_195 ic_2 ?_
        refine qz_iadd hΓ dL_law_196 ?_
        refine qL_sld hO dL_law_197 (by omega) (by omega) ?_
        refine qa_aload_n hΓ dL_law_198 rfl ?_
        refine qa_iload_n hΓ dL_law_199 rfl ?_
        refine qa_iconst (v := nI 3) hΓ dL_law_200 ic_3 ?_
        refine qz_iadd hΓ dL_law_201 ?_
        refine qL_sld hO dL_law_202 (by omega) (by omega) ?_
        refine qa_aload_n hΓ dL_law_203 rfl ?_
        refine qa_iload_n hΓ dL_law_204 rfl ?_
        refine qa_iconst (v := nI 4) hΓ dL_law_205 ic_4 ?_
        refine qz_iadd hΓ dL_law_206 ?_
        refine qL_sld hO dL_law_207 (by omega) (by omega) ?_
        refine qa_callV hΓ dL_law_208 lk_L_18 vw_X5_setDelays (c_X5_setDelays l 9 (by decide) hZ hX hBd _ _ _ _) (by decide) rfl (by decide) hZ.o rfl rfl (Nat.le_of_ble_eq_true rfl) ⟨by decide, by decide⟩ (fun r n' w' h => h.1) (fun r w1 h => ?_)
        obtain ⟨-, rr, rfl, hF, hq⟩ := h
        have hM := hM.ofFr hF (by decide)
        show Γ 211 _ [aI rr] _ _ _
        refine qa_aload_n hΓ dL_law_211 rfl ?_
        refine qa_aload_n hΓ dL_law_212 rfl ?_
        refine qa_iload_n hΓ dL_law_213 rfl ?_
        refine qa_iconst (v := nI 1) hΓ dL_law_214 ic_1 ?_
        refine qz_iadd hΓ dL_law_215 ?_
        refine qL_sld hO dL_law_216 (by omega) (by omega) ?_
        refine qa_aload_n hΓ dL_law_217 rfl ?_
        refine qa_iload_n hΓ dL_law_218 rfl ?_
        refine qa_iconst (v := nI 2) hΓ dL_law_219 ic_2 ?_
        refine qz_iadd hΓ dL_law_220 ?_
        refine qL_sld hO dL_law_221 (by omega) (by omega) ?_
        refine qa_aload_n hΓ dL_law_222 rfl ?_
        refine qa_iload_n hΓ dL_law_223 rfl ?_
        refine qa_iconst (v := nI 3) hΓ dL_law_224 ic_3 ?_
        refine qz_iadd hΓ dL_law_225 ?_
        refine qL_sld hO dL_law_226 (by omega) (by omega) ?_
        refine qa_aload_n hΓ dL_law_227 rfl ?_
        refine qa_iload_n hΓ dL_law_228 rfl ?_
        refine qa_iconst (v := nI 4) hΓ dL_law_229 ic_4 ?_
        refine qz_iadd hΓ dL_law_230 ?_
        refine qL_sld hO dL_law_231 (by omega) (by omega) ?_
        refine qa_callV hΓ dL_law_232 lk_L_22 vw_X6_setDelays (c_X6_setDelays l 9 (by decide) hM hW (by omega) hp6 _ _ _ _) (by decide) rfl (by decide) hM.o rfl rfl (Nat.le_of_ble_eq_true rfl) ⟨by decide, by decide⟩ (fun r n' w' h => h.1) (fun r w2 h => ?_)
        obtain ⟨-, r2, M2, rfl, hM2, hF2, hsp⟩ := h
        obtain ⟨rfl, hCW2⟩ := hq _ _ hsp
        show Γ 235 _ [aI r2, aI r2] _ _ _
        refine qa_icmp_eq (tgt := 816) hΓ dL_law_235 (by decide) (fun _ => ?_) (fun h => absurd rfl h)
        exact next w2 _ (hCW2.fr hF2) hM2
      · refine qa_tabIn (off := 208) (tgt := 240) hΓ dL_law_32 (by decide +kernel) (by decide +kernel) (by decide +kernel) (by decide) ?_
        refine qa_aload_n hΓ dL_law_240 rfl ?_
        refine qa_aload_n hΓ dL_law_241 rfl ?_
        refine qa_iload_n hΓ dL_law_242 rfl ?_
        refine qa_iconst (v := nI 1) hΓ dL_law_243 ic_1 ?_
        refine qz_iadd hΓ dL_law_244 ?_
        refine qL_sld hO dL_law_245 (by omega) (by omega) ?_
        refine qa_aload_n hΓ dL_law_246 rfl ?_
        refine qa_iload_n hΓ dL_law_247 rfl ?_
        refine qa_iconst (v := nI 2) hΓ dL_law_248 ic_2 ?_
        refine qz_iadd hΓ dL_law_249 ?_
        refine qL_sld hO dL_law_250 (by omega) (by omega) ?_
        refine qa_aload_n hΓ dL_law_251 rfl ?_
        refine qa_iload_n hΓ dL_law_252 rfl ?_
        refine qa_iconst (v := nI 3) hΓ dL_law_253 ic_3 ?_
        refine qz_iadd hΓ dL_law_254 ?_
        refine qL_sld hO dL_law_255 (by omega) (by omega) ?_
        refine qa_aload_n hΓ dL_law_256 rfl ?_
        refine qa_iload_n hΓ dL_law_257 rfl ?_
        refine qa_iconst (v := nI 4) hΓ dL_law_258 ic_4 ?_
        refine qz_iadd hΓ dL_law_259 ?_
        refine qL_sld hO dL_law_260 (by omega) (by omega) ?_
        refine qa_callV hΓ dL_law_261 lk_L_23 vw_X5_setCondition (c_X5_setCondition l 9 (by decide) hZ hX hBd _ _ _ _) (by decide) rfl (by decide) hZ.o rfl rfl (Nat.le_of_ble_eq_true rfl) ⟨by decide, by decide⟩ (fun r n' w' h => h.1) (fun r w1 h => ?_)
        obtain ⟨-, rr, rfl, hF, hq⟩ := h
        have hM := hM.ofFr hF (by decide)
        show Γ 264 _ [aI rr] _ _ _
        refine qa_aload_n hΓ dL_law_264 rfl ?_
        refine qa_aload_n hΓ dL_law_265 rfl ?_
        refine qa_iload_n hΓ dL_law_266 rfl ?_
        refine qa_iconst (v := nI 1) hΓ dL_law_267 ic_1 ?_
        refine qz_iadd hΓ dL_law_268 ?_
        refine qL_sld hO dL_law_269 (by omega) (by omega) ?_
        refine qa_aload_n hΓ dL_law_270 rfl ?_
        refine qa_iload_n hΓ dL_law_271 rfl ?_
        refine qa_iconst (v := nI 2) hΓ dL_law_272 ic_2 ?_
        refine qz_iadd hΓ dL_law_273 ?_
        refine qL_sld hO dL_law_274 (by omega) (by omega) ?_
        refine qa_aload_n hΓ dL_law_275 rfl ?_
        refine qa_iload_n hΓ dL_law_276 rfl ?_
        refine qa_iconst (v := nI 3) hΓ dL_law_277 ic_3 ?_
        refine qz_iadd hΓ dL_law_278 ?_
        refine qL_sld hO dL_law_279 (by omega) (by omega) ?_
        refine qa_aload_n hΓ dL_law_280 rfl ?_
        refine qa_iload_n hΓ dL_law_281 rfl ?_
        refine qa_iconst (v := nI 4) hΓ dL_law_282 ic_4 ?_
        refine qz_iadd hΓ dL_law_283 ?_
        refine qL_sld hO dL_law_284 (by omega) (by omega) ?_
        refine qa_callV hΓ dL_law_285 lk_L_26 vw_X6_setCondition (c_X6_setCondition l 9 (by decide) hM hW (by omega) hp6 _ _ _ _) (by decide) rfl (by decide) hM.o rfl rfl (Nat.le_of_ble_eq_true rfl) ⟨by decide, by decide⟩ (fun r n' w' h => h.1) (fun r w2 h => ?_)
        obtain ⟨-, r2, M2, rfl, hM2, hF2, hsp⟩ := h
        obtain ⟨rfl, hCW2⟩ := hq _ _ hsp
        show Γ 288 _ [aI r2, aI r2] _ _ _
        refine qa_icmp_eq (tgt := 816) hΓ dL_law_288 (by decide) (fun _ => ?_) (fun h => absurd rfl h)
        exact next w2 _ (hCW2.fr hF2) hM2
      · refine qa_tabIn (off := 261) (tgt := 293) hΓ dL_law_32 (by decide +kernel) (by decide +kernel) (by decide +kernel) (by decide) ?_
        refine qa_aload_n hΓ dL_law_293 rfl ?_
        refine qa_aload_n hΓ dL_law_294 rfl ?_
        refine qa_iload_n hΓ dL_law_295 rfl ?_
        refine qa_iconst (v := nI 1) hΓ dL_law_296 ic_1 ?_
        refine qz_iadd hΓ dL_law_297 ?_
        refine qL_sld hO dL_law_298 (by omega) (by omega) ?_
        refine qa_aload_n hΓ dL_law_299 rfl ?_
        refine qa_iload_n hΓ dL_law_300 rfl ?_
        refine qa_iconst (v := nI 2) hΓ dL_law_301 ic_2 ?_
        refine qz_iadd hΓ dL_law_302 ?_
        refine qL_sld hO dL_law_303 (by omega) (by omega) ?_
        refine qa_callV hΓ dL_law_304 lk_L_27 vw_X5_removeBranch (c_X5_removeBranch l 9 (by decide) hZ hX hBd _ _) (by decide) rfl (by decide) hZ.o rfl rfl (Nat.le_of_ble_eq_true rfl) ⟨by decide, by decide⟩ (fun r n' w' h => h.1) (fun r w1 h => ?_)
        obtain ⟨-, rr, rfl, hF, hq⟩ := h
        have hM := hM.ofFr hF (by decide)
        show Γ 307 _ [aI rr] _ _ _
        refine qa_aload_n hΓ dL_law_307 rfl ?_
        refine qa_aload_n hΓ dL_law_308 rfl ?_
        refine qa_iload_n hΓ dL_law_309 rfl ?_
        refine qa_iconst (v := nI 1) hΓ dL_law_310 ic_1 ?_
        refine qz_iadd hΓ dL_law_311 ?_
        refine qL_sld hO dL_law_312 (by omega) (by omega) ?_
        refine qa_aload_n hΓ dL_law_313 rfl ?_
        refine qa_iload_n hΓ dL_law_314 rfl ?_
        refine qa_iconst (v := nI 2) hΓ dL_law_315 ic_2 ?_
        refine qz_iadd hΓ dL_law_316 ?_
        refine qL_sld hO dL_law_317 (by omega) (by omega) ?_
        refine qa_callV hΓ dL_law_318 lk_L_31 vw_X6_removeBranch (c_X6_removeBranch l 9 (by decide) hM hW (by omega) hp6 _ _) (by decide) rfl (by decide) hM.o rfl rfl (Nat.le_of_ble_eq_true rfl) ⟨by decide, by decide⟩ (fun r n' w' h => h.1) (fun r w2 h => ?_)
        obtain ⟨-, r2, M2, rfl, hM2, hF2, hsp⟩ := h
        obtain ⟨rfl, hCW2⟩ := hq _ _ hsp
        show Γ 321 _ [aI r2, aI r2] _ _ _
        refine qa_icmp_eq (tgt := 816) hΓ dL_law_321 (by decide) (fun _ => ?_) (fun h => absurd rfl h)
        exact next w2 _ (hCW2.fr hF2) hM2
      · refine qa_tabIn (off := 294) (tgt := 326) hΓ dL_law_32 (by decide +kernel) (by decide +kernel) (by decide +kernel) (by decide) ?_
        refine qa_aload_n hΓ dL_law_326 rfl ?_
        refine qa_aload_n hΓ dL_law_327 rfl ?_
        refine qa_iload_n hΓ dL_law_328 rfl ?_
        refine qa_iconst (v := nI 1) hΓ dL_law_329 ic_1 ?_
        refine qz_iadd hΓ dL_law_330 ?_
        refine qL_sld hO dL_law_331 (by omega) (by omega) ?_
        refine qa_callV hΓ dL_law_332 lk_L_32 vw_X5_appendCharacter (c_X5_appendCharacter l 9 (by decide) hZ hX hBd _) (by decide) rfl (by decide) hZ.o rfl rfl (Nat.le_of_ble_eq_true rfl) ⟨by decide, by decide⟩ (fun r n' w' h => h.1) (fun r w1 h => ?_)
        obtain ⟨-, rr, rfl, hF, hq⟩ := h
        have hM := hM.ofFr hF (by decide)
        show Γ 335 _ [aI rr] _ _ _
        refine qa_aload_n hΓ dL_law_335 rfl ?_
        refine qa_aload_n hΓ dL_law_336 rfl ?_
        refine qa_iload_n hΓ dL_law_337 rfl ?_
        refine qa_iconst (v := nI 1) hΓ dL_law_338 ic_1 ?_
        refine qz_iadd hΓ dL_law_339 ?_
        refine qL_sld hO dL_law_340 (by omega) (by omega) ?_
        refine qa_callV hΓ dL_law_341 lk_L_36 vw_X6_appendCharacter (c_X6_appendCharacter l 9 (by decide) hM hT60 _) (by decide) rfl (by decide) hM.o rfl rfl (Nat.le_of_ble_eq_true rfl) ⟨by decide, by decide⟩ (fun r n' w' h => h.1) (fun r w2 h => ?_)
        obtain ⟨-, r2, M2, rfl, hM2, hF2, hsp⟩ := h
        obtain ⟨rfl, hCW2⟩ := hq _ _ hsp
        show Γ 344 _ [aI r2, aI r2] _ _ _
        refine qa_icmp_eq (tgt := 816) hΓ dL_law_344 (by decide) (fun _ => ?_) (fun h => absurd rfl h)
        exact next w2 _ (hCW2.fr hF2) hM2
      · refine qa_tabIn (off := 317) (tgt := 349) hΓ dL_law_32 (by decide +kernel) (by decide +kernel) (by decide +kernel) (by decide) ?_
        refine qa_aload_n hΓ dL_law_349 rfl ?_
        refine qa_callV hΓ dL_law_350 lk_L_37 vw_X5_clearText (c_X5_clearText l 9 hZ hX hBd) (by decide) rfl (by decide) hZ.o rfl rfl (Nat.le_of_ble_eq_true rfl) ⟨by decide, by decide⟩ (fun r n' w' h => h.1) (fun r w1 h => ?_)
        obtain ⟨-, rr, rfl, hF, hq⟩ := h
        have hM := hM.ofFr hF (by decide)
        show Γ 353 _ [aI rr] _ _ _
        refine qa_aload_n hΓ dL_law_353 rfl ?_
        refine qa_callV hΓ dL_law_354 lk_L_41 vw_X6_clearText (c_X6_clearText l 9 hM ) (by decide) rfl (by decide) hM.o rfl rfl (Nat.le_of_ble_eq_true rfl) ⟨by decide, by decide⟩ (fun r n' w' h => h.1) (fun r w2 h => ?_)
        obtain ⟨-, r2, M2, rfl, hM2, hF2, hsp⟩ := h
        obtain ⟨rfl, hCW2⟩ := hq _ _ hsp
        show Γ 357 _ [aI r2, aI r2] _ _ _
        refine qa_icmp_eq (tgt := 816) hΓ dL_law_357 (by decide) (fun _ => ?_) (fun h => absurd rfl h)
        exact next w2 _ (hCW2.fr hF2) hM2
      · refine qa_tabIn (off := 330) (tgt := 362) hΓ dL_law_32 (by decide +kernel) (by decide +kernel) (by decide +kernel) (by decide) ?_
        refine qa_aload_n hΓ dL_law_362 rfl ?_
        refine qa_aload_n hΓ dL_law_363 rfl ?_
        refine qa_iload_n hΓ dL_law_364 rfl ?_
        refine qa_iconst (v := nI 1) hΓ dL_law_365 ic_1 ?_
        refine qz_iadd hΓ dL_law_366 ?_
        refine qL_sld hO dL_law_367 (by omega) (by omega) ?_
        refine qa_callV hΓ dL_law_368 lk_L_42 vw_X5_load (c_X5_load l 9 (by decide) hZ hX hBd _) (by decide) rfl (by decide) hZ.o rfl rfl (Nat.le_of_ble_eq_true rfl) ⟨by decide, by decide⟩ (fun r n' w' h => h.1) (fun r w1 h => ?_)
        obtain ⟨-, rr, rfl, hF, hq⟩ := h
        have hM := hM.ofFr hF (by decide)
        show Γ 371 _ [aI rr] _ _ _
        refine qa_aload_n hΓ dL_law_371 rfl ?_
        refine qa_aload_n hΓ dL_law_372 rfl ?_
        refine qa_iload_n hΓ dL_law_373 rfl ?_
        refine qa_iconst (v := nI 1) hΓ dL_law_374 ic_1 ?_
        refine qz_iadd hΓ dL_law_375 ?_
        refine qL_sld hO dL_law_376 (by omega) (by omega) ?_
        refine qa_callV hΓ dL_law_377 lk_L_45 vw_X6_load (c_X6_load l 9 (by decide) hM hW (by omega) hp6 hT256 hT60 g _) (by decide) rfl (by decide) hM.o rfl rfl (Nat.le_of_ble_eq_true rfl) ⟨by decide, by decide⟩ (fun r n' w' h => h.1) (fun r w2 h => ?_)
        obtain ⟨-, r2, M2, rfl, hM2, hF2, hsp⟩ := h
        obtain ⟨rfl, hCW2⟩ := hq _ _ hsp
        show Γ 380 _ [aI r2, aI r2] _ _ _
        refine qa_icmp_eq (tgt := 816) hΓ dL_law_380 (by decide) (fun _ => ?_) (fun h => absurd rfl h)
        exact next w2 _ (hCW2.fr hF2) hM2
      · refine qa_tabIn (off := 353) (tgt := 385) hΓ dL_law_32 (by decide +kernel) (by decide +kernel) (by decide +kernel) (by decide) ?_
        refine qa_aload_n hΓ dL_law_385 rfl ?_
        refine qa_aload_n hΓ dL_law_386 rfl ?_
        refine qa_iload_n hΓ dL_law_387 rfl ?_
        refine qa_iconst (v := nI 1) hΓ dL_law_388 ic_1 ?_
        refine qz_iadd hΓ dL_law_389 ?_
        refine qL_sld hO dL_law_390 (by omega) (by omega) ?_
        refine qa_aload_n hΓ dL_law_391 rfl ?_
        refine qa_iload_n hΓ dL_law_392 rfl ?_
        refine qa_iconst (v := nI 2) hΓ dL_law_393 ic_2 ?_
        refine qz_iadd hΓ dL_law_394 ?_
        refine qL_sld hO dL_law_395 (by omega) (by omega) ?_
        refine qa_callV hΓ dL_law_396 lk_L_46 vw_X5_press (c_X5_press l 9 (by decide) hZ hX hBd _ _) (by decide) rfl (by decide) hZ.o rfl rfl (Nat.le_of_ble_eq_true rfl) ⟨by decide, by decide⟩ (fun r n' w' h => h.1) (fun r w1 h => ?_)
        obtain ⟨-, rr, rfl, hF, hq⟩ := h
        have hM := hM.ofFr hF (by decide)
        show Γ 399 _ [aI rr] _ _ _
        refine qa_aload_n hΓ dL_law_399 rfl ?_
        refine qa_aload_n hΓ dL_law_400 rfl ?_
        refine qa_iload_n hΓ dL_law_401 rfl ?_
        refine qa_iconst (v := nI 1) hΓ dL_law_402 ic_1 ?_
        refine qz_iadd hΓ dL_law_403 ?_
        refine qL_sld hO dL_law_404 (by omega) (by omega) ?_
        refine qa_aload_n hΓ dL_law_405 rfl ?_
        refine qa_iload_n hΓ dL_law_406 rfl ?_
        refine qa_iconst (v := nI 2) hΓ dL_law_407 ic_2 ?_
        refine qz_iadd hΓ dL_law_408 ?_
        refine qL_sld hO dL_law_409 (by omega) (by omega) ?_
        refine qa_callV hΓ dL_law_410 lk_L_49 vw_X6_press (c_X6_press l 9 (by decide) hM hW (by omega) hp6 _ _) (by decide) rfl (by decide) hM.o rfl rfl (Nat.le_of_ble_eq_true rfl) ⟨by decide, by decide⟩ (fun r n' w' h => h.1) (fun r w2 h => ?_)
        obtain ⟨-, r2, M2, rfl, hM2, hF2, hsp⟩ := h
        obtain ⟨rfl, hCW2⟩ := hq _ _ hsp
        show Γ 413 _ [aI r2, aI r2] _ _ _
        refine qa_icmp_eq (tgt := 816) hΓ dL_law_413 (by decide) (fun _ => ?_) (fun h => absurd rfl h)
        exact next w2 _ (hCW2.fr hF2) hM2
      · refine qa_tabIn (off := 386) (tgt := 418) hΓ dL_law_32 (by decide +kernel) (by decide +kernel) (by decide +kernel) (by decide) ?_
        refine qa_aload_n hΓ dL_law_418 rfl ?_
        refine qa_aload_n hΓ dL_law_419 rfl ?_
        refine qa_iload_n hΓ dL_law_420 rfl ?_
        refine qa_iconst (v := nI 1) hΓ dL_law_421 ic_1 ?_
        refine qz_iadd hΓ dL_law_422 ?_
        refine qL_sld hO dL_law_423 (by omega) (by omega) ?_
        refine qa_aload_n hΓ dL_law_424 rfl ?_
        refine qa_iload_n hΓ dL_law_425 rfl ?_
        refine qa_iconst (v := nI 2) hΓ dL_law_426 ic_2 ?_
        refine qz_iadd hΓ dL_law_427 ?_
        refine qL_sld hO dL_law_428 (by omega) (by omega) ?_
        refine qa_callV hΓ dL_law_429 lk_L_50 vw_X5_setFault (c_X5_setFault l 9 (by decide) hZ hX hBd _ _) (by decide) rfl (by decide) hZ.o rfl rfl (Nat.le_of_ble_eq_true rfl) ⟨by decide, by decide⟩ (fun r n' w' h => h.1) (fun r w1 h => ?_)
        obtain ⟨-, rr, rfl, hF, hq⟩ := h
        have hM := hM.ofFr hF (by decide)
        show Γ 432 _ [aI rr] _ _ _
        refine qa_aload_n hΓ dL_law_432 rfl ?_
        refine qa_aload_n hΓ dL_law_433 rfl ?_
        refine qa_iload_n hΓ dL_law_434 rfl ?_
        refine qa_iconst (v := nI 1) hΓ dL_law_435 ic_1 ?_
        refine qz_iadd hΓ dL_law_436 ?_
        refine qL_sld hO dL_law_437 (by omega) (by omega) ?_
        refine qa_aload_n hΓ dL_law_438 rfl ?_
        refine qa_iload_n hΓ dL_law_439 rfl ?_
        refine qa_iconst (v := nI 2) hΓ dL_law_440 ic_2 ?_
        refine qz_iadd hΓ dL_law_441 ?_
        refine qL_sld hO dL_law_442 (by omega) (by omega) ?_
        refine qa_callV hΓ dL_law_443 lk_L_53 vw_X6_setFault (c_X6_setFault l 9 (by decide) hM hW (by omega) hp6 _ _) (by decide) rfl (by decide) hM.o rfl rfl (Nat.le_of_ble_eq_true rfl) ⟨by decide, by decide⟩ (fun r n' w' h => h.1) (fun r w2 h => ?_)
        obtain ⟨-, r2, M2, rfl, hM2, hF2, hsp⟩ := h
        obtain ⟨rfl, hCW2⟩ := hq _ _ hsp
        show Γ 446 _ [aI r2, aI r2] _ _ _
        refine qa_icmp_eq (tgt := 816) hΓ dL_law_446 (by decide) (fun _ => ?_) (fun h => absurd rfl h)
        exact next w2 _ (hCW2.fr hF2) hM2
      · refine qa_tabIn (off := 419) (tgt := 451) hΓ dL_law_32 (by decide +kernel) (by decide +kernel) (by decide +kernel) (by decide) ?_
        refine qa_aload_n hΓ dL_law_451 rfl ?_
        refine qa_aload_n hΓ dL_law_452 rfl ?_
        refine qa_iload_n hΓ dL_law_453 rfl ?_
        refine qa_iconst (v := nI 1) hΓ dL_law_454 ic_1 ?_
        refine qz_iadd hΓ dL_law_455 ?_
        refine qL_sld hO dL_law_456 (by omega) (by omega) ?_
        refine qa_aload_n hΓ dL_law_457 rfl ?_
        refine qa_iload_n hΓ dL_law_458 rfl ?_
        refine qa_iconst (v := nI 2) hΓ dL_law_459 ic_2 ?_
        refine qz_iadd hΓ dL_law_460 ?_
        refine qL_sld hO dL_law_461 (by omega) (by omega) ?_
        refine qa_callV hΓ dL_law_462 lk_L_54 vw_X5_stick (c_X5_stick l 9 (by decide) hZ hX hBd _ _) (by decide) rfl (by decide) hZ.o rfl rfl (Nat.le_of_ble_eq_true rfl) ⟨by decide, by decide⟩ (fun r n' w' h => h.1) (fun r w1 h => ?_)
        obtain ⟨-, rr, rfl, hF, hq⟩ := h
        have hM := hM.ofFr hF (by decide)
        show Γ 465 _ [aI rr] _ _ _
        refine qa_aload_n hΓ dL_law_465 rfl ?_
        refine qa_aload_n hΓ dL_law_466 rfl ?_
        refine qa_iload_n hΓ dL_law_467 rfl ?_
        refine qa_iconst (v := nI 1) hΓ dL_law_468 ic_1 ?_
        refine qz_iadd hΓ dL_law_469 ?_
        refine qL_sld hO dL_law_470 (by omega) (by omega) ?_
        refine qa_aload_n hΓ dL_law_471 rfl ?_
        refine qa_iload_n hΓ dL_law_472 rfl ?_
        refine qa_iconst (v := nI 2) hΓ dL_law_473 ic_2 ?_
        refine qz_iadd hΓ dL_law_474 ?_
        refine qL_sld hO dL_law_475 (by omega) (by omega) ?_
        refine qa_callV hΓ dL_law_476 lk_L_57 vw_X6_stick (c_X6_stick l 9 (by decide) hM hW (by omega) hp6 _ _) (by decide) rfl (by decide) hM.o rfl rfl (Nat.le_of_ble_eq_true rfl) ⟨by decide, by decide⟩ (fun r n' w' h => h.1) (fun r w2 h => ?_)
        obtain ⟨-, r2, M2, rfl, hM2, hF2, hsp⟩ := h
        obtain ⟨rfl, hCW2⟩ := hq _ _ hsp
        show Γ 479 _ [aI r2, aI r2] _ _ _
        refine qa_icmp_eq (tgt := 816) hΓ dL_law_479 (by decide) (fun _ => ?_) (fun h => absurd rfl h)
        exact next w2 _ (hCW2.fr hF2) hM2
      · refine qa_tabIn (off := 452) (tgt := 484) hΓ dL_law_32 (by decide +kernel) (by decide +kernel) (by decide +kernel) (by decide) ?_
        refine qa_aload_n hΓ dL_law_484 rfl ?_
        refine qa_callV hΓ dL_law_485 lk_L_58 vw_X5_step (c_X5_step l 9 (by decide) hZ hX hBd) (by decide) rfl (by decide) hZ.o rfl rfl (Nat.le_of_ble_eq_true rfl) ⟨by decide, by decide⟩ (fun r n' w' h => h.1) (fun r w1 h => ?_)
        obtain ⟨-, rr, rfl, hF, hq⟩ := h
        have hM := hM.ofFr hF (by decide)
        show Γ 488 _ [aI rr] _ _ _
        refine qa_aload_n hΓ dL_law_488 rfl ?_
        refine qa_callV hΓ dL_law_489 lk_L_61 vw_X6_step (c_X6_step l 9 (by decide) hM hW (by omega) hp6) (by decide) rfl (by decide) hM.o rfl rfl (Nat.le_of_ble_eq_true rfl) ⟨by decide, by decide⟩ (fun r n' w' h => h.1) (fun r w2 h => ?_)
        obtain ⟨-, r2, M2, rfl, hM2, hF2, hsp⟩ := h
        obtain ⟨rfl, hCW2⟩ := hq _ _ hsp
        show Γ 492 _ [aI r2, aI r2] _ _ _
        refine qa_icmp_eq (tgt := 816) hΓ dL_law_492 (by decide) (fun _ => ?_) (fun h => absurd rfl h)
        exact next w2 _ (hCW2.fr hF2) hM2
      · refine qa_tabIn (off := 465) (tgt := 497) hΓ dL_law_32 (by decide +kernel) (by decide +kernel) (by decide +kernel) (by decide) ?_
        refine qa_aload_n hΓ dL_law_497 rfl ?_
        refine qa_aload_n hΓ dL_law_498 rfl ?_
        refine qa_iload_n hΓ dL_law_499 rfl ?_
        refine qa_iconst (v := nI 1) hΓ dL_law_500 ic_1 ?_
        refine qz_iadd hΓ dL_law_501 ?_
        refine qL_sld hO dL_law_502 (by omega) (by omega) ?_
        refine qa_callV hΓ dL_law_503 lk_L_62 vw_X5_settle (c_X5_settle l 9 (by decide) hZ hX hBd _) (by decide) rfl (by decide) hZ.o rfl rfl (Nat.le_of_ble_eq_true rfl) ⟨by decide, by decide⟩ (fun r n' w' h => h.1) (fun r w1 h => ?_)
        obtain ⟨-, rr, rfl, hF, hq⟩ := h
        have hM := hM.ofFr hF (by decide)
        show Γ 506 _ [aI rr] _ _ _
        refine qa_aload_n hΓ dL_law_506 rfl ?_
        refine qa_aload_n hΓ dL_law_507 rfl ?_
        refine qa_iload_n hΓ dL_law_508 rfl ?_
        refine qa_iconst (v := nI 1) hΓ dL_law_509 ic_1 ?_
        refine qz_iadd hΓ dL_law_510 ?_
        refine qL_sld hO dL_law_511 (by omega) (by omega) ?_
        refine qa_callV hΓ dL_law_512 lk_L_65 vw_X6_settle (c_X6_settle l 9 (by decide) hM hW (by omega) hp6 _) (by decide) rfl (by decide) hM.o rfl rfl (Nat.le_of_ble_eq_true rfl) ⟨by decide, by decide⟩ (fun r n' w' h => h.1) (fun r w2 h => ?_)
        obtain ⟨-, r2, M2, rfl, hM2, hF2, hsp⟩ := h
        obtain ⟨rfl, hCW2⟩ := hq _ _ hsp
        show Γ 515 _ [aI r2, aI r2] _ _ _
        refine qa_icmp_eq (tgt := 816) hΓ dL_law_515 (by decide) (fun _ => ?_) (fun h => absurd rfl h)
        exact next w2 _ (hCW2.fr hF2) hM2
      · refine qa_tabIn (off := 488) (tgt := 520) hΓ dL_law_32 (by decide +kernel) (by decide +kernel) (by decide +kernel) (by decide) ?_
        refine qa_aload_n hΓ dL_law_520 rfl ?_
        refine qa_aload_n hΓ dL_law_521 rfl ?_
        refine qa_iload_n hΓ dL_law_522 rfl ?_
        refine qa_iconst (v := nI 1) hΓ dL_law_523 ic_1 ?_
        refine qz_iadd hΓ dL_law_524 ?_
        refine qL_sld hO dL_law_525 (by omega) (by omega) ?_
        refine qa_callV hΓ dL_law_526 lk_L_66 vw_X5_pass (c_X5_pass l 9 (by decide) hZ hX hBd _) (by decide) rfl (by decide) hZ.o rfl rfl (Nat.le_of_ble_eq_true rfl) ⟨by decide, by decide⟩ (fun r n' w' h => h.1) (fun r w1 h => ?_)
        obtain ⟨-, rr, rfl, hF, hq⟩ := h
        have hM := hM.ofFr hF (by decide)
        show Γ 529 _ [aI rr] _ _ _
        refine qa_aload_n hΓ dL_law_529 rfl ?_
        refine qa_aload_n hΓ dL_law_530 rfl ?_
        refine qa_iload_n hΓ dL_law_531 rfl ?_
        refine qa_iconst (v := nI 1) hΓ dL_law_532 ic_1 ?_
        refine qz_iadd hΓ dL_law_533 ?_
        refine qL_sld hO dL_law_534 (by omega) (by omega) ?_
        refine qa_callV hΓ dL_law_535 lk_L_69 vw_X6_pass (c_X6_pass l 9 (by decide) hM hW (by omega) hp6 _) (by decide) rfl (by decide) hM.o rfl rfl (Nat.le_of_ble_eq_true rfl) ⟨by decide, by decide⟩ (fun r n' w' h => h.1) (fun r w2 h => ?_)
        obtain ⟨-, r2, M2, rfl, hM2, hF2, hsp⟩ := h
        obtain ⟨rfl, hCW2⟩ := hq _ _ hsp
        show Γ 538 _ [aI r2, aI r2] _ _ _
        refine qa_icmp_eq (tgt := 816) hΓ dL_law_538 (by decide) (fun _ => ?_) (fun h => absurd rfl h)
        exact next w2 _ (hCW2.fr hF2) hM2
      · refine qa_tabIn (off := 511) (tgt := 543) hΓ dL_law_32 (by decide +kernel) (by decide +kernel) (by decide +kernel) (by decide) ?_
        refine qa_aload_n hΓ dL_law_543 rfl ?_
        refine qa_aload_n hΓ dL_law_544 rfl ?_
        refine qa_iload_n hΓ dL_law_545 rfl ?_
        refine qa_iconst (v := nI 1) hΓ dL_law_546 ic_1 ?_
        refine qz_iadd hΓ dL_law_547 ?_
        refine qL_sld hO dL_law_548 (by omega) (by omega) ?_
        refine qa_callV hΓ dL_law_549 lk_L_70 vw_X5_count (c_X5_count l 9 (by decide) hZ hX hBd _) (by decide) rfl (by decide) hZ.o rfl rfl (Nat.le_of_ble_eq_true rfl) ⟨by decide, by decide⟩ (fun r n' w' h => h.1) (fun r w1 h => ?_)
        obtain ⟨-, rr, rfl, hF, hq⟩ := h
        have hM := hM.ofFr hF (by decide)
        show Γ 552 _ [aI rr] _ _ _
        refine qa_aload_n hΓ dL_law_552 rfl ?_
        refine qa_aload_n hΓ dL_law_553 rfl ?_
        refine qa_iload_n hΓ dL_law_554 rfl ?_
        refine qa_iconst (v := nI 1) hΓ dL_law_555 ic_1 ?_
        refine qz_iadd hΓ dL_law_556 ?_
        refine qL_sld hO dL_law_557 (by omega) (by omega) ?_
        refine qa_callV hΓ dL_law_558 lk_L_73 vw_X6_count (c_X6_count l 9 (by decide) hM hW (by omega) _) (by decide) rfl (by decide) hM.o rfl rfl (Nat.le_of_ble_eq_true rfl) ⟨by decide, by decide⟩ (fun r n' w' h => h.1) (fun r w2 h => ?_)
        obtain ⟨-, r2, M2, rfl, hM2, hF2, hsp⟩ := h
        obtain ⟨rfl, hCW2⟩ := hq _ _ hsp
        show Γ 561 _ [aI r2, aI r2] _ _ _
        refine qa_icmp_eq (tgt := 816) hΓ dL_law_561 (by decide) (fun _ => ?_) (fun h => absurd rfl h)
        exact next w2 _ (hCW2.fr hF2) hM2
      · refine qa_tabIn (off := 534) (tgt := 566) hΓ dL_law_32 (by decide +kernel) (by decide +kernel) (by decide +kernel) (by decide) ?_
        refine qa_aload_n hΓ dL_law_566 rfl ?_
        refine qa_aload_n hΓ dL_law_567 rfl ?_
        refine qa_iload_n hΓ dL_law_568 rfl ?_
        refine qa_iconst (v := nI 1) hΓ dL_law_569 ic_1 ?_
        refine qz_iadd hΓ dL_law_570 ?_
        refine qL_sld hO dL_law_571 (by omega) (by omega) ?_
        refine qa_aload_n hΓ dL_law_572 rfl ?_
        refine qa_iload_n hΓ dL_law_573 rfl ?_
        refine qa_iconst (v := nI 2) hΓ dL_law_574 ic_2 ?_
        refine qz_iadd hΓ dL_law_575 ?_
        refine qL_sld hO dL_law_576 (by omega) (by omega) ?_
        refine qa_callV hΓ dL_law_577 lk_L_74 vw_X5_relay (c_X5_relay l 9 (by decide) hZ hX hBd _ _) (by decide) rfl (by decide) hZ.o rfl rfl (Nat.le_of_ble_eq_true rfl) ⟨by decide, by decide⟩ (fun r n' w' h => h.1) (fun r w1 h => ?_)
        obtain ⟨-, rr, rfl, hF, hq⟩ := h
        have hM := hM.ofFr hF (by decide)
        show Γ 580 _ [aI rr] _ _ _
        refine qa_aload_n hΓ dL_law_580 rfl ?_
        refine qa_aload_n hΓ dL_law_581 rfl ?_
        refine qa_iload_n hΓ dL_law_582 rfl ?_
        refine qa_iconst (v := nI 1) hΓ dL_law_583 ic_1 ?_
        refine qz_iadd hΓ dL_law_584 ?_
        refine qL_sld hO dL_law_585 (by omega) (by omega) ?_
        refine qa_aload_n hΓ dL_law_586 rfl ?_
        refine qa_iload_n hΓ dL_law_587 rfl ?_
        refine qa_iconst (v := nI 2) hΓ dL_law_588 ic_2 ?_
        refine qz_iadd hΓ dL_law_589 ?_
        refine qL_sld hO dL_law_590 (by omega) (by omega) ?_
        refine qa_callV hΓ dL_law_591 lk_L_77 vw_X6_relay (c_X6_relay l 9 (by decide) hM hW (by omega) _ _) (by decide) rfl (by decide) hM.o rfl rfl (Nat.le_of_ble_eq_true rfl) ⟨by decide, by decide⟩ (fun r n' w' h => h.1) (fun r w2 h => ?_)
        obtain ⟨-, r2, M2, rfl, hM2, hF2, hsp⟩ := h
        obtain ⟨rfl, hCW2⟩ := hq _ _ hsp
        show Γ 594 _ [aI r2, aI r2] _ _ _
        refine qa_icmp_eq (tgt := 816) hΓ dL_law_594 (by decide) (fun _ => ?_) (fun h => absurd rfl h)
        exact next w2 _ (hCW2.fr hF2) hM2
      · refine qa_tabIn (off := 567) (tgt := 599) hΓ dL_law_32 (by decide +kernel) (by decide +kernel) (by decide +kernel) (by decide) ?_
        refine qa_aload_n hΓ dL_law_599 rfl ?_
        refine qa_aload_n hΓ dL_law_600 rfl ?_
        refine qa_iload_n hΓ dL_law_601 rfl ?_
        refine qa_iconst (v := nI 1) hΓ dL_law_602 ic_1 ?_
        refine qz_iadd hΓ dL_law_603 ?_
        refine qL_sld hO dL_law_604 (by omega) (by omega) ?_
        refine qa_aload_n hΓ dL_law_605 rfl ?_
        refine qa_iload_n hΓ dL_law_606 rfl ?_
        refine qa_iconst (v := nI 2) hΓ dL_law_607 ic_2 ?_
        refine qz_iadd hΓ dL_law_608 ?_
        refine qL_sld hO dL_law_609 (by omega) (by omega) ?_
        refine qa_aload_n hΓ dL_law_610 rfl ?_
        refine qa_iload_n hΓ dL_law_611 rfl ?_
        refine qa_iconst (v := nI 3) hΓ dL_law_612 ic_3 ?_
        refine qz_iadd hΓ dL_law_613 ?_
        refine qL_sld hO dL_law_614 (by omega) (by omega) ?_
        refine qa_callV hΓ dL_law_615 lk_L_78 vw_X5_condition (c_X5_condition l 9 (by decide) hZ hX hBd _ _ _) (by decide) rfl (by decide) hZ.o rfl rfl (Nat.le_of_ble_eq_true rfl) ⟨by decide, by decide⟩ (fun r n' w' h => h.1) (fun r w1 h => ?_)
        obtain ⟨-, rr, rfl, hF, hq⟩ := h
        have hM := hM.ofFr hF (by decide)
        show Γ 618 _ [aI rr] _ _ _
        refine qa_aload_n hΓ dL_law_618 rfl ?_
        refine qa_aload_n hΓ dL_law_619 rfl ?_
        refine qa_iload_n hΓ dL_law_620 rfl ?_
        refine qa_iconst (v := nI 1) hΓ dL_law_621 ic_1 ?_
        refine qz_iadd hΓ dL_law_622 ?_
        refine qL_sld hO dL_law_623 (by omega) (by omega) ?_
        refine qa_aload_n hΓ dL_law_624 rfl ?_
        refine qa_iload_n hΓ dL_law_625 rfl ?_
        refine qa_iconst (v := nI 2) hΓ dL_law_626 ic_2 ?_
        refine qz_iadd hΓ dL_law_627 ?_
        refine qL_sld hO dL_law_628 (by omega) (by omega) ?_
        refine qa_aload_n hΓ dL_law_629 rfl ?_
        refine qa_iload_n hΓ dL_law_630 rfl ?_
        refine qa_iconst (v := nI 3) hΓ dL_law_631 ic_3 ?_
        refine qz_iadd hΓ dL_law_632 ?_
        refine qL_sld hO dL_law_633 (by omega) (by omega) ?_
        refine qa_callV hΓ dL_law_634 lk_L_81 vw_X6_condition (c_X6_condition l 9 (by decide) hM hW (by omega) _ _ _) (by decide) rfl (by decide) hM.o rfl rfl (Nat.le_of_ble_eq_true rfl) ⟨by decide, by decide⟩ (fun r n' w' h => h.1) (fun r w2 h => ?_)
        obtain ⟨-, r2, M2, rfl, hM2, hF2, hsp⟩ := h
        obtain ⟨rfl, hCW2⟩ := hq _ _ hsp
        show Γ 637 _ [aI r2, aI r2] _ _ _
        refine qa_icmp_eq (tgt := 816) hΓ dL_law_637 (by decide) (fun _ => ?_) (fun h => absurd rfl h)
        exact next w2 _ (hCW2.fr hF2) hM2
      · refine qa_tabIn (off := 610) (tgt := 642) hΓ dL_law_32 (by decide +kernel) (by decide +kernel) (by decide +kernel) (by decide) ?_
        refine qa_aload_n hΓ dL_law_642 rfl ?_
        refine qa_aload_n hΓ dL_law_643 rfl ?_
        refine qa_iload_n hΓ dL_law_644 rfl ?_
        refine qa_iconst (v := nI 1) hΓ dL_law_645 ic_1 ?_
        refine qz_iadd hΓ dL_law_646 ?_
        refine qL_sld hO dL_law_647 (by omega) (by omega) ?_
        refine qa_aload_n hΓ dL_law_648 rfl ?_
        refine qa_iload_n hΓ dL_law_649 rfl ?_
        refine qa_iconst (v := nI 2) hΓ dL_law_650 ic_2 ?_
        refine qz_iadd hΓ dL_law_651 ?_
        refine qL_sld hO dL_law_652 (by omega) (by omega) ?_
        refine qa_callV hΓ dL_law_653 lk_L_82 vw_X5_event (c_X5_event l 9 (by decide) hZ hX hBd _ _) (by decide) rfl (by decide) hZ.o rfl rfl (Nat.le_of_ble_eq_true rfl) ⟨by decide, by decide⟩ (fun r n' w' h => h.1) (fun r w1 h => ?_)
        obtain ⟨-, rr, rfl, hF, hq⟩ := h
        have hM := hM.ofFr hF (by decide)
        show Γ 656 _ [aI rr] _ _ _
        refine qa_aload_n hΓ dL_law_656 rfl ?_
        refine qa_aload_n hΓ dL_law_657 rfl ?_
        refine qa_iload_n hΓ dL_law_658 rfl ?_
        refine qa_iconst (v := nI 1) hΓ dL_law_659 ic_1 ?_
        refine qz_iadd hΓ dL_law_660 ?_
        refine qL_sld hO dL_law_661 (by omega) (by omega) ?_
        refine qa_aload_n hΓ dL_law_662 rfl ?_
        refine qa_iload_n hΓ dL_law_663 rfl ?_
        refine qa_iconst (v := nI 2) hΓ dL_law_664 ic_2 ?_
        refine qz_iadd hΓ dL_law_665 ?_
        refine qL_sld hO dL_law_666 (by omega) (by omega) ?_
        refine qa_callV hΓ dL_law_667 lk_L_85 vw_X6_event (c_X6_event l 9 (by decide) hM hW (by omega) _ _) (by decide) rfl (by decide) hM.o rfl rfl (Nat.le_of_ble_eq_true rfl) ⟨by decide, by decide⟩ (fun r n' w' h => h.1) (fun r w2 h => ?_)
        obtain ⟨-, r2, M2, rfl, hM2, hF2, hsp⟩ := h
        obtain ⟨rfl, hCW2⟩ := hq _ _ hsp
        show Γ 670 _ [aI r2, aI r2] _ _ _
        refine qa_icmp_eq (tgt := 816) hΓ dL_law_670 (by decide) (fun _ => ?_) (fun h => absurd rfl h)
        exact next w2 _ (hCW2.fr hF2) hM2
      · refine qa_tabIn (off := 643) (tgt := 675) hΓ dL_law_32 (by decide +kernel) (by decide +kernel) (by decide +kernel) (by decide) ?_
        refine qa_aload_n hΓ dL_law_675 rfl ?_
        refine qa_aload_n hΓ dL_law_676 rfl ?_
        refine qa_iload_n hΓ dL_law_677 rfl ?_
        refine qa_iconst (v := nI 1) hΓ dL_law_678 ic_1 ?_
        refine qz_iadd hΓ dL_law_679 ?_
        refine qL_sld hO dL_law_680 (by omega) (by omega) ?_
        refine qa_aload_n hΓ dL_law_681 rfl ?_
        refine qa_iload_n hΓ dL_law_682 rfl ?_
        refine qa_iconst (v := nI 2) hΓ dL_law_683 ic_2 ?_
        refine qz_iadd hΓ dL_law_684 ?_
        refine qL_sld hO dL_law_685 (by omega) (by omega) ?_
        refine qa_callV hΓ dL_law_686 lk_L_86 vw_X5_outcome (c_X5_outcome l 9 (by decide) hZ hX hBd _ _) (by decide) rfl (by decide) hZ.o rfl rfl (Nat.le_of_ble_eq_true rfl) ⟨by decide, by decide⟩ (fun r n' w' h => h.1) (fun r w1 h => ?_)
        obtain ⟨-, rr, rfl, hF, hq⟩ := h
        have hM := hM.ofFr hF (by decide)
        show Γ 689 _ [aI rr] _ _ _
        refine qa_aload_n hΓ dL_law_689 rfl ?_
        refine qa_aload_n hΓ dL_law_690 rfl ?_
        refine qa_iload_n hΓ dL_law_691 rfl ?_
        refine qa_iconst (v := nI 1) hΓ dL_law_692 ic_1 ?_
        refine qz_iadd hΓ dL_law_693 ?_
        refine qL_sld hO dL_law_694 (by omega) (by omega) ?_
        refine qa_aload_n hΓ dL_law_695 rfl ?_
        refine qa_iload_n hΓ dL_law_696 rfl ?_
        refine qa_iconst (v := nI 2) hΓ dL_law_697 ic_2 ?_
        refine qz_iadd hΓ dL_law_698 ?_
        refine qL_sld hO dL_law_699 (by omega) (by omega) ?_
        refine qa_callV hΓ dL_law_700 lk_L_89 vw_X6_outcome (c_X6_outcome l 9 (by decide) hM hW (by omega) _ _) (by decide) rfl (by decide) hM.o rfl rfl (Nat.le_of_ble_eq_true rfl) ⟨by decide, by decide⟩ (fun r n' w' h => h.1) (fun r w2 h => ?_)
        obtain ⟨-, r2, M2, rfl, hM2, hF2, hsp⟩ := h
        obtain ⟨rfl, hCW2⟩ := hq _ _ hsp
        show Γ 703 _ [aI r2, aI r2] _ _ _
        refine qa_icmp_eq (tgt := 816) hΓ dL_law_703 (by decide) (fun _ => ?_) (fun h => absurd rfl h)
        exact next w2 _ (hCW2.fr hF2) hM2
      · refine qa_tabIn (off := 676) (tgt := 708) hΓ dL_law_32 (by decide +kernel) (by decide +kernel) (by decide +kernel) (by decide) ?_
        refine qa_aload_n hΓ dL_law_708 rfl ?_
        refine qa_callV hΓ dL_law_709 lk_L_90 vw_X5_isRace (c_X5_isRace l 9 (by decide) hZ hX hBd) (by decide) rfl (by decide) hZ.o rfl rfl (Nat.le_of_ble_eq_true rfl) ⟨by decide, by decide⟩ (fun r n' w' h => h.1) (fun r w1 h => ?_)
        obtain ⟨-, rr, rfl, hF, hq⟩ := h
        have hM := hM.ofFr hF (by decide)
        show Γ 712 _ [aI rr] _ _ _
        refine qa_aload_n hΓ dL_law_712 rfl ?_
        refine qa_callV hΓ dL_law_713 lk_L_93 vw_X6_isRace (c_X6_isRace l 9 (by decide) hM hW (by omega)) (by decide) rfl (by decide) hM.o rfl rfl (Nat.le_of_ble_eq_true rfl) ⟨by decide, by decide⟩ (fun r n' w' h => h.1) (fun r w2 h => ?_)
        obtain ⟨-, r2, M2, rfl, hM2, hF2, hsp⟩ := h
        obtain ⟨rfl, hCW2⟩ := hq _ _ hsp
        show Γ 716 _ [aI r2, aI r2] _ _ _
        refine qa_icmp_eq (tgt := 816) hΓ dL_law_716 (by decide) (fun _ => ?_) (fun h => absurd rfl h)
        exact next w2 _ (hCW2.fr hF2) hM2
      · refine qa_tabIn (off := 689) (tgt := 721) hΓ dL_law_32 (by decide +kernel) (by decide +kernel) (by decide +kernel) (by decide) ?_
        refine qa_aload_n hΓ dL_law_721 rfl ?_
        refine qa_aload_n hΓ dL_law_722 rfl ?_
        refine qa_iload_n hΓ dL_law_723 rfl ?_
        refine qa_iconst (v := nI 1) hΓ dL_law_724 ic_1 ?_
        refine qz_iadd hΓ dL_law_725 ?_
        refine qL_sld hO dL_law_726 (by omega) (by omega) ?_
        refine qa_callV hΓ dL_law_727 lk_L_94 vw_X5_raceBy (c_X5_raceBy l 9 (by decide) hZ hX hBd _) (by decide) rfl (by decide) hZ.o rfl rfl (Nat.le_of_ble_eq_true rfl) ⟨by decide, by decide⟩ (fun r n' w' h => h.1) (fun r w1 h => ?_)
        obtain ⟨-, rr, rfl, hF, hq⟩ := h
        have hM := hM.ofFr hF (by decide)
        show Γ 730 _ [aI rr] _ _ _
        refine qa_aload_n hΓ dL_law_730 rfl ?_
        refine qa_aload_n hΓ dL_law_731 rfl ?_
        refine qa_iload_n hΓ dL_law_732 rfl ?_
        refine qa_iconst (v := nI 1) hΓ dL_law_733 ic_1 ?_
        refine qz_iadd hΓ dL_law_734 ?_
        refine qL_sld hO dL_law_735 (by omega) (by omega) ?_
        refine qa_callV hΓ dL_law_736 lk_L_97 vw_X6_raceBy (c_X6_raceBy l 9 (by decide) hM hW (by omega) _) (by decide) rfl (by decide) hM.o rfl rfl (Nat.le_of_ble_eq_true rfl) ⟨by decide, by decide⟩ (fun r n' w' h => h.1) (fun r w2 h => ?_)
        obtain ⟨-, r2, M2, rfl, hM2, hF2, hsp⟩ := h
        obtain ⟨rfl, hCW2⟩ := hq _ _ hsp
        show Γ 739 _ [aI r2, aI r2] _ _ _
        refine qa_icmp_eq (tgt := 816) hΓ dL_law_739 (by decide) (fun _ => ?_) (fun h => absurd rfl h)
        exact next w2 _ (hCW2.fr hF2) hM2
      · refine qa_tabIn (off := 712) (tgt := 744) hΓ dL_law_32 (by decide +kernel) (by decide +kernel) (by decide +kernel) (by decide) ?_
        refine qa_aload_n hΓ dL_law_744 rfl ?_
        refine qa_aload_n hΓ dL_law_745 rfl ?_
        refine qa_iload_n hΓ dL_law_746 rfl ?_
        refine qa_iconst (v := nI 1) hΓ dL_law_747 ic_1 ?_
        refine qz_iadd hΓ dL_law_748 ?_
        refine qL_sld hO dL_law_749 (by omega) (by omega) ?_
        refine qa_callV hΓ dL_law_750 lk_L_98 vw_X5_hazards (c_X5_hazards l 9 (by decide) hZ hX hBd _) (by decide) rfl (by decide) hZ.o rfl rfl (Nat.le_of_ble_eq_true rfl) ⟨by decide, by decide⟩ (fun r n' w' h => h.1) (fun r w1 h => ?_)
        obtain ⟨-, rr, rfl, hF, hq⟩ := h
        have hM := hM.ofFr hF (by decide)
        show Γ 753 _ [aI rr] _ _ _
        refine qa_aload_n hΓ dL_law_753 rfl ?_
        refine qa_aload_n hΓ dL_law_754 rfl ?_
        refine qa_iload_n hΓ dL_law_755 rfl ?_
        refine qa_iconst (v := nI 1) hΓ dL_law_756 ic_1 ?_
        refine qz_iadd hΓ dL_law_757 ?_
        refine qL_sld hO dL_law_758 (by omega) (by omega) ?_
        refine qa_callV hΓ dL_law_759 lk_L_101 vw_X6_hazards (c_X6_hazards l 9 (by decide) hM hW (by omega) _) (by decide) rfl (by decide) hM.o rfl rfl (Nat.le_of_ble_eq_true rfl) ⟨by decide, by decide⟩ (fun r n' w' h => h.1) (fun r w2 h => ?_)
        obtain ⟨-, r2, M2, rfl, hM2, hF2, hsp⟩ := h
        obtain ⟨rfl, hCW2⟩ := hq _ _ hsp
        show Γ 762 _ [aI r2, aI r2] _ _ _
        refine qa_icmp_eq (tgt := 816) hΓ dL_law_762 (by decide) (fun _ => ?_) (fun h => absurd rfl h)
        exact next w2 _ (hCW2.fr hF2) hM2
      · refine qa_tabIn (off := 735) (tgt := 767) hΓ dL_law_32 (by decide +kernel) (by decide +kernel) (by decide +kernel) (by decide) ?_
        refine qa_aload_n hΓ dL_law_767 rfl ?_
        refine qa_callV hΓ dL_law_768 lk_L_102 vw_X5_stableStates (c_X5_stableStates l 9 (by decide) hZ hX hBd) (by decide) rfl (by decide) hZ.o rfl rfl (Nat.le_of_ble_eq_true rfl) ⟨by decide, by decide⟩ (fun r n' w' h => h.1) (fun r w1 h => ?_)
        obtain ⟨-, rr, rfl, hF, hq⟩ := h
        have hM := hM.ofFr hF (by decide)
        show Γ 771 _ [aI rr] _ _ _
        refine qa_aload_n hΓ dL_law_771 rfl ?_
        refine qa_callV hΓ dL_law_772 lk_L_105 vw_X6_stableStates (c_X6_stableStates l 9 (by decide) hM hW (by omega)) (by decide) rfl (by decide) hM.o rfl rfl (Nat.le_of_ble_eq_true rfl) ⟨by decide, by decide⟩ (fun r n' w' h => h.1) (fun r w2 h => ?_)
        obtain ⟨-, r2, M2, rfl, hM2, hF2, hsp⟩ := h
        obtain ⟨rfl, hCW2⟩ := hq _ _ hsp
        show Γ 775 _ [aI r2, aI r2] _ _ _
        refine qa_icmp_eq (tgt := 816) hΓ dL_law_775 (by decide) (fun _ => ?_) (fun h => absurd rfl h)
        exact next w2 _ (hCW2.fr hF2) hM2
      · refine qa_tabIn (off := 748) (tgt := 780) hΓ dL_law_32 (by decide +kernel) (by decide +kernel) (by decide +kernel) (by decide) ?_
        refine qa_aload_n hΓ dL_law_780 rfl ?_
        refine qa_aload_n hΓ dL_law_781 rfl ?_
        refine qa_iload_n hΓ dL_law_782 rfl ?_
        refine qa_iconst (v := nI 1) hΓ dL_law_783 ic_1 ?_
        refine qz_iadd hΓ dL_law_784 ?_
        refine qL_sld hO dL_law_785 (by omega) (by omega) ?_
        refine qa_callV hΓ dL_law_786 lk_L_106 vw_X5_explain (c_X5_explain l 9 (by decide) hZ hX hBd _) (by decide) rfl (by decide) hZ.o rfl rfl (Nat.le_of_ble_eq_true rfl) ⟨by decide, by decide⟩ (fun r n' w' h => h.1) (fun r w1 h => ?_)
        obtain ⟨-, rr, rfl, hF, hq⟩ := h
        have hM := hM.ofFr hF (by decide)
        show Γ 789 _ [aI rr] _ _ _
        refine qa_aload_n hΓ dL_law_789 rfl ?_
        refine qa_aload_n hΓ dL_law_790 rfl ?_
        refine qa_iload_n hΓ dL_law_791 rfl ?_
        refine qa_iconst (v := nI 1) hΓ dL_law_792 ic_1 ?_
        refine qz_iadd hΓ dL_law_793 ?_
        refine qL_sld hO dL_law_794 (by omega) (by omega) ?_
        refine qa_callV hΓ dL_law_795 lk_L_109 vw_X6_explain (c_X6_explain l 9 (by decide) hM hW (by omega) _) (by decide) rfl (by decide) hM.o rfl rfl (Nat.le_of_ble_eq_true rfl) ⟨by decide, by decide⟩ (fun r n' w' h => h.1) (fun r w2 h => ?_)
        obtain ⟨-, r2, M2, rfl, hM2, hF2, hsp⟩ := h
        obtain ⟨rfl, hCW2⟩ := hq _ _ hsp
        show Γ 798 _ [aI r2, aI r2] _ _ _
        refine qa_icmp_eq (tgt := 816) hΓ dL_law_798 (by decide) (fun _ => ?_) (fun h => absurd rfl h)
        exact next w2 _ (hCW2.fr hF2) hM2
      · refine qa_tabIn (off := 771) (tgt := 803) hΓ dL_law_32 (by decide +kernel) (by decide +kernel) (by decide +kernel) (by decide) ?_
        refine qa_aload_n hΓ dL_law_803 rfl ?_
        refine qa_callV hΓ dL_law_804 lk_L_110 vw_X5_undo (c_X5_undo l 9 (by decide) hZ hX hBd) (by decide) rfl (by decide) hZ.o rfl rfl (Nat.le_of_ble_eq_true rfl) ⟨by decide, by decide⟩ (fun r n' w' h => h.1) (fun r w1 h => ?_)
        obtain ⟨-, rr, rfl, hF, hq⟩ := h
        have hM := hM.ofFr hF (by decide)
        show Γ 807 _ [aI rr] _ _ _
        refine qa_aload_n hΓ dL_law_807 rfl ?_
        refine qa_callV hΓ dL_law_808 lk_L_113 vw_X6_undo (c_X6_undo l 9 hM hp6) (by decide) rfl (by decide) hM.o rfl rfl (Nat.le_of_ble_eq_true rfl) ⟨by decide, by decide⟩ (fun r n' w' h => h.1) (fun r w2 h => ?_)
        obtain ⟨-, rfl, hM2, hF2⟩ := h
        obtain ⟨e2, hCW2⟩ := hq _ _ (⟨rfl, rfl⟩ : spUndo M _ (unM M))
        show Γ 811 _ [aI _, aI rr] _ _ _
        rw [e2]
        have hM2 : MdAt 76 w2 70 (unM M) := hM2
        refine qa_icmp_eq (tgt := 816) hΓ dL_law_811 (by decide) (fun _ => ?_) (fun h => absurd rfl h)
        exact next w2 _ (hCW2.fr hF2) hM2
    · refine qa_tabOut (tgt := 816) hΓ dL_law_32 (toInt_out hT (by decide) (by decide)) (by decide) ?_
      exact next w M ⟨b, ol, p, g, z, R, q, c1, c2, hZ, hX.mono (by omega)⟩ hM
