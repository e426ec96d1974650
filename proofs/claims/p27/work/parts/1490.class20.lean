/-! The class: the whole world of its cells, and how it stands for the model -/
abbrev rbObj : AC := cObj 4 [aR 1, aR 8, aR 52, aR 54, aR 56, aR 63]
def WX (n : Nat) (w : Nat → AC) (b : Bk) (ol sz : Nat) (p : Nat → Bk) (T : Nat → Nat) (N : Nat) (g : Nat → Nat) (z R q : Nat) (c1 c2 : Bk) : Prop := w 0 = rbObj ∧ BkAt n w 1 b ∧ PaAt n w ol sz p ∧ XtAt n w 52 T N ∧ RdAt n w 54 g z R q ∧ BkAt n w 56 c1 ∧ BkAt n w 63 c2 ∧ ∀ j, j < 6 → g j < 4294967296
section
variable {n : Nat} {w w' : Nat → AC} {b b' : Bk} {ol sz : Nat} {p p' : Nat → Bk} {T : Nat → Nat} {N : Nat} {g : Nat → Nat} {z R q : Nat} {c1 c2 : Bk} (h : WX n w b ol sz p T N g z R q c1 c2)
theorem WX.o (h : WX n w b ol sz p T N g z R q c1 c2) : w 0 = rbObj := h.1
theorem WX.lt (h : WX n w b ol sz p T N g z R q c1 c2) : 0 < n := by have := h.2.1.1; omega
theorem WX.now (h : WX n w b ol sz p T N g z R q c1 c2) : BkAt n w 1 b := h.2.1
theorem WX.past (h : WX n w b ol sz p T N g z R q c1 c2) : PaAt n w ol sz p := h.2.2.1
theorem WX.text (h : WX n w b ol sz p T N g z R q c1 c2) : XtAt n w 52 T N := h.2.2.2.1
theorem WX.rdr (h : WX n w b ol sz p T N g z R q c1 c2) : RdAt n w 54 g z R q := h.2.2.2.2.1
theorem WX.chg (h : WX n w b ol sz p T N g z R q c1 c2) : BkAt n w 56 c1 := h.2.2.2.2.2.1
theorem WX.tri (h : WX n w b ol sz p T N g z R q c1 c2) : BkAt n w 63 c2 := h.2.2.2.2.2.2.1
theorem WX.gl (h : WX n w b ol sz p T N g z R q c1 c2) : ∀ j, j < 6 → g j < 4294967296 := h.2.2.2.2.2.2.2
theorem WX.putB (h : WX n w b ol sz p T N g z R q c1 c2) (hB : BkAt n w' 1 b') (hF : Fr 1 7 w w') : WX n w' b' ol sz p T N g z R q c1 c2 := ⟨(hF 0 (by omega)).trans h.o, hB, h.past.ofFr hF (by omega), h.text.ofFr hF (by omega), h.rdr.ofFr hF (by omega), h.chg.ofFr hF (by omega), h.tri.ofFr hF (by omega), h.gl⟩
theorem WX.putP {ol' sz' : Nat} (h : WX n w b ol sz p T N g z R q c1 c2) (hP : PaAt n w' ol' sz' p') (hF : Fr 8 44 w w') : WX n w' b ol' sz' p' T N g z R q c1 c2 := ⟨(hF 0 (by omega)).trans h.o, h.now.ofFr hF (by omega), hP, h.text.ofFr hF (by omega), h.rdr.ofFr hF (by omega), h.chg.ofFr hF (by omega), h.tri.ofFr hF (by omega), h.gl⟩
theorem WX.putBP {ol' sz' : Nat} (h : WX n w b ol sz p T N g z R q c1 c2) (hB : BkAt n w' 1 b') (hP : PaAt n w' ol' sz' p') (hF : Fr 1 51 w w') : WX n w' b' ol' sz' p' T N g z R q c1 c2 := ⟨(hF 0 (by omega)).trans h.o, hB, hP, h.text.ofFr hF (by omega), h.rdr.ofFr hF (by omega), h.chg.ofFr hF (by omega), h.tri.ofFr hF (by omega), h.gl⟩
theorem WX.putX {T' : Nat → Nat} {N' : Nat} (h : WX n w b ol sz p T N g z R q c1 c2) (hB : XtAt n w' 52 T' N') (hF : Fr 52 2 w w') : WX n w' b ol sz p T' N' g z R q c1 c2 := ⟨(hF 0 (by omega)).trans h.o, h.now.ofFr hF (by omega), h.past.ofFr hF (by omega), hB, h.rdr.ofFr hF (by omega), h.chg.ofFr hF (by omega), h.tri.ofFr hF (by omega), h.gl⟩
theorem WX.putR {g' : Nat → Nat} {z' R' q' : Nat} (h : WX n w b ol sz p T N g z R q c1 c2) (hB : RdAt n w' 54 g' z' R' q') (hg : ∀ j, j < 6 → g' j < 4294967296) (hF : Fr 54 2 w w') : WX n w' b ol sz p T N g' z' R' q' c1 c2 := ⟨(hF 0 (by omega)).trans h.o, h.now.ofFr hF (by omega), h.past.ofFr hF (by omega), h.text.ofFr hF (by omega), hB, h.chg.ofFr hF (by omega), h.tri.ofFr hF (by omega), hg⟩
theorem WX.putC (h : WX n w b ol sz p T N g z R q c1 c2) (hB : BkAt n w' 56 b') (hF : Fr 56 7 w w') : WX n w' b ol sz p T N g z R q b' c2 := ⟨(hF 0 (by omega)).trans h.o, h.now.ofFr hF (by omega), h.past.ofFr hF (by omega), h.text.ofFr hF (by omega), h.rdr.ofFr hF (by omega), hB, h.tri.ofFr hF (by omega), h.gl⟩
theorem WX.putT (h : WX n w b ol sz p T N g z R q c1 c2) (hB : BkAt n w' 63 b') (hF : Fr 63 7 w w') : WX n w' b ol sz p T N g z R q c1 b' := ⟨(hF 0 (by omega)).trans h.o, h.now.ofFr hF (by omega), h.past.ofFr hF (by omega), h.text.ofFr hF (by omega), h.rdr.ofFr hF (by omega), h.chg.ofFr hF (by omega), hB, h.gl⟩
theorem WX.ofFr (h : WX n w b ol sz p T N g z R q c1 c2) {j m : Nat} (hF : Fr j m w w') (hj : 70 ≤ j) : WX n w' b ol sz p T N g z R q c1 c2 := ⟨(hF 0 (by omega)).trans h.o, h.now.ofFr hF (by omega), h.past.ofFr hF (by omega), h.text.ofFr hF (by omega), h.rdr.ofFr hF (by omega), h.chg.ofFr hF (by omega), h.tri.ofFr hF (by omega), h.gl⟩
end
/-- a bank that stands for a row -/
def Gd (s : Nat → Nat) (b : Bk) (B : Nat) : Prop := RepC s b ∧ SeC s ∧ CC s ∧ Wt s B
theorem Gd.mono {s : Nat → Nat} {b : Bk} {B C : Nat} (h : Gd s b B) (hBC : B ≤ C) : Gd s b C := ⟨h.1, h.2.1, h.2.2.1, h.2.2.2.mono hBC⟩
def SX (M : Bk) (B : Nat) (b : Bk) (ol : Nat) (p : Nat → Bk) : Prop := RepC (M 0) b ∧ SeC (M 0) ∧ CC (M 0) ∧ Wt (M 0) B ∧ M 5 0 ≤ 6 ∧ (∀ i, i < M 5 0 → Gd (pst M i) (p ((ol + i) % 6)) B) ∧ M 5 1 ≤ 60 ∧ ∀ j, M 4 j < 256
def CW (M : Bk) (B n : Nat) (w : Nat → AC) : Prop := ∃ b ol p g z R q c1 c2, WX n w b ol (M 5 0) p (M 4) (M 5 1) g z R q c1 c2 ∧ SX M B b ol p
def QC (sp : Int32 → Bk → Prop) (B n : Nat) (w : Nat → AC) : Option AV → (Nat → AC) → Prop := fun r w' => ∃ rr, r = some (aI rr) ∧ Fr 0 70 w w' ∧ ∀ r2 M', sp r2 M' → r2 = rr ∧ CW M' B n w'
section
variable {n : Nat} {w : Nat → AC} {M M' : Bk} {B : Nat} {b b' : Bk} {ol ol' : Nat} {p p' : Nat → Bk} {N : Nat} {g : Nat → Nat} {z R q : Nat} {c1 c2 : Bk}
theorem CW.sm (hX : SX M B b ol p) (hZ : WX n w b ol (M 5 0) p (M 4) (M 5 1) g z R q c1 c2) (h : Sm M M') : CW M' (B + 4100) n w := by
  obtain ⟨h0, h1, h2, h3, h4⟩ := h
  obtain ⟨k1, k2, k3, k4, k5, k6, k7, k8⟩ := hX
  refine ⟨b, ol, p, g, z, R, q, c1, c2, by rw [h2, h3, h4]; exact hZ, ?_⟩
  unfold SX
  rw [h0, h2, h3, h4]
  refine ⟨k1, k2, k3, k4.mono (by omega), k5, fun i hi => ?_, k7, k8⟩
  have e : pst M' i = pst M i := by unfold pst; rw [h1]
  rw [e]
  exact (k6 i hi).mono (by omega)
theorem CW.tx {T : Nat → Nat} (hX : SX M B b ol p) (hZ : WX n w b ol (M 5 0) p T N g z R q c1 c2) (hT : ∀ j, T j < 256) (hN : N ≤ 60) (h0 : M' 0 = M 0) (h1 : M' 1 = M 1) (h2 : M' 5 0 = M 5 0) (h3 : M' 4 = T) (h4 : M' 5 1 = N) : CW M' (B + 4100) n w := by
  obtain ⟨k1, k2, k3, k4, k5, k6, k7, k8⟩ := hX
  refine ⟨b, ol, p, g, z, R, q, c1, c2, by rw [h2, h3, h4]; exact hZ, ?_⟩
  unfold SX
  rw [h0, h2, h3, h4]
  refine ⟨k1, k2, k3, k4.mono (by omega), k5, fun i hi => ?_, hN, hT⟩
  have e : pst M' i = pst M i := by unfold pst; rw [h1]
  rw [e]
  exact (k6 i hi).mono (by omega)
theorem CW.nt {s : Nat → Nat} (hX : SX M B b ol p) (hZ : WX n w b' ol' (z5 (M 5 0) + 1) p' (M 4) N g z R q c1 c2) (hs1 : ∀ i, i < z5 (M 5 0) → p' ((ol' + i) % 6) = p ((ol + (if M 5 0 = 6 then i + 1 else i)) % 6)) (hs2 : SamB (p' ((ol' + z5 (M 5 0)) % 6)) b) (hR : RepC s b') (hS : SeC s) (hC : CC s) (hW : Wt s (B + 4100)) (hN : N ≤ 60) (hn : Nt M M') (h0 : M' 0 = s) (h4 : M' 4 = M 4) (h5 : M' 5 1 = N) : CW M' (B + 4100) n w := by
  obtain ⟨k1, k2, k3, k4, k5, k6, k7, k8⟩ := hX
  obtain ⟨n1, n2, n3⟩ := hn
  have e5 : p5 M = z5 (M 5 0) := rfl
  rw [e5] at n1 n2 n3
  refine ⟨b', ol', p', g, z, R, q, c1, c2, by rw [n1, h4, h5]; exact hZ, ?_⟩
  unfold SX
  rw [h0, n1, h4, h5]
  have hz : z5 (M 5 0) ≤ 5 ∧ (M 5 0 = 6 → z5 (M 5 0) = 5) ∧ (M 5 0 ≠ 6 → z5 (M 5 0) = M 5 0) := by unfold z5; split <;> omega
  refine ⟨hR, hS, hC, hW, by omega, fun i hi => ?_, hN, k8⟩
  by_cases e : i < z5 (M 5 0)
  · rw [n2 i e, hs1 i e]
    by_cases e6 : M 5 0 = 6
    · rw [if_pos e6]
      exact (k6 _ (by have := hz.2.1 e6; omega)).mono (by omega)
    · rw [if_neg e6]
      exact (k6 _ (by have := hz.2.2 e6; omega)).mono (by omega)
  · have ei : i = z5 (M 5 0) := by omega
    subst ei
    rw [n3]
    exact ⟨k1.of hs2.1 hs2.2, k2, k3, k4.mono (by omega)⟩
theorem CW.op {s : Nat → Nat} (hX : SX M B b ol p) (hZ : WX n w b' ol' (z5 (M 5 0) + 1) p' (M 4) (M 5 1) g z R q c1 c2) (hs1 : ∀ i, i < z5 (M 5 0) → p' ((ol' + i) % 6) = p ((ol + (if M 5 0 = 6 then i + 1 else i)) % 6)) (hs2 : SamB (p' ((ol' + z5 (M 5 0)) % 6)) b) (hR : RepC s b') (hS : SeC s) (hC : CC s) (hW : Wt s (B + 4100)) (h : Op M s M') : CW M' (B + 4100) n w := CW.nt hX hZ hs1 hs2 hR hS hC hW hX.2.2.2.2.2.2.1 h.1 h.2.1 h.2.2.1 h.2.2.2
end
/-- the coils have been looked at -/
theorem onS_gen {s s' : Nat → Nat} (h0 : s' 0 = s 0) (h1 : s' 1 = s 1) (hc : ∀ q x, x < 25 → (x = 3 ∨ x = 5 ∨ x = 6) → vv s' q x = vv s q x) : onS s' = onS s := by
  unfold onS
  rw [h0, h1, mk_congr (q := clB s) (fun i _ => by unfold clB; rw [hc i 6 (by decide) (by decide), hc i 3 (by decide) (by decide), hc i 5 (by decide) (by decide)])]
theorem CC.gen {s s' : Nat → Nat} (h : CC s) (h6 : ∀ q, q < s 1 → vv s q 12 ≤ 6) (h0 : s' 0 = s 0) (h1 : s' 1 = s 1) (hc : ∀ q x, x < 25 → (x = 3 ∨ x = 4 ∨ x = 5 ∨ x = 6 ∨ 12 ≤ x) → vv s' q x = vv s q x) : CC s' := by
  intro q hq
  rw [h1] at hq
  rw [hc q 4 (by decide) (by decide), onS_gen h0 h1 (fun q x hx h => hc q x hx (by omega)), h q hq, cnd_congr (s := s) (t := s') (h6 q hq) (fun x h1 h2 => (hc q x h2 (by omega)).symm)]
theorem CC.col {s : Nat → Nat} {B r x v : Nat} (h : CC s) (hW : Wt s B) (hx : x < 25) (hc : x = 0 ∨ x = 1 ∨ x = 2 ∨ x = 7) : CC (upN s (ix r x) v) := h.gen (fun q hq => hW.m6 hq) (hd_up _ _ _ _ (by decide)) (hd_up _ _ _ _ (by decide)) (fun q y hy h2 => vv_oth _ _ _ _ _ _ hx hy (Or.inr (by omega)))
theorem CC.time {s : Nat → Nat} {B v : Nat} (h : CC s) (hW : Wt s B) : CC (upN s 2 v) := h.gen (fun q hq => hW.m6 hq) (upN_ne _ _ _ (by decide)) (upN_ne _ _ _ (by decide)) (fun q y hy h2 => vv_hd _ _ _ _ _ (by decide))
theorem Wt.sd {s : Nat → Nat} {B r a b c : Nat} (h : Wt s B) (ha : a ≤ 20) (hb : b ≤ 20) (hc : c ≤ 5) : Wt (sdS s r a b c) B := ((h.up (by decide) (by simpa [bdF] using ha)).up (by decide) (by simpa [bdF] using hb)).up (by decide) (by simpa [bdF] using hc)
theorem CC.sd {s : Nat → Nat} {B r a b c : Nat} (h : CC s) (hW : Wt s B) (ha : a ≤ 20) (hb : b ≤ 20) : CC (sdS s r a b c) := ((h.col hW (by decide) (by decide)).col (hW.up (by decide) (by simpa [bdF] using ha)) (by decide) (by decide)).col ((hW.up (by decide) (by simpa [bdF] using ha)).up (by decide) (by simpa [bdF] using hb)) (by decide) (by decide)
theorem Wt.add {s : Nat → Nat} {B a b c : Nat} (h : Wt s B) (h7 : s 1 < 8) (ha : a ≤ 20) (hb : b ≤ 20) (hc : c ≤ 5) : Wt (addS s a b c) B := by
  refine ⟨by rw [addS_hd _ _ _ _ (by decide), if_neg (by decide)]; exact h.1, by rw [addS_hd _ _ _ _ (by decide), if_pos rfl]; omega, by rw [addS_hd _ _ _ _ (by decide), if_neg (by decide)]; exact h.2.2.1, fun r hr x hx => ?_⟩
  rw [addS_hd _ _ _ _ (by decide), if_pos rfl] at hr
  rw [addS_v _ _ _ _ _ _ hx]
  by_cases e : r = s 1
  · rw [if_pos e]
    unfold bdF
    repeat' split
    all_goals omega
  · rw [if_neg e]
    exact h.2.2.2 r (by omega) x hx
theorem CC.add {s : Nat → Nat} {B a b c : Nat} (h : CC s) (hW : Wt s B) : CC (addS s a b c) := by
  have hv : ∀ q x, q < s 1 → x < 25 → vv (addS s a b c) q x = vv s q x := fun q x hq hx => by rw [addS_v _ _ _ _ _ _ hx, if_neg (by omega)]
  have e1 : addS s a b c 1 = s 1 + 1 := by rw [addS_hd _ _ _ _ (by decide), if_pos rfl]
  have e0 : addS s a b c 0 = s 0 := by rw [addS_hd _ _ _ _ (by decide), if_neg (by decide)]
  have hn : ∀ x, x < 25 → 3 ≤ x → vv (addS s a b c) (s 1) x = 0 := fun x hx h3 => by rw [addS_v _ _ _ _ _ _ hx, if_pos rfl, if_neg (by omega), if_neg (by omega), if_neg (by omega)]
  have hon : onS (addS s a b c) = onS s := by
    unfold onS
    rw [e0, e1]
    have e2 : mk (clB (addS s a b c)) (s 1 + 1) = mk (clB s) (s 1) := by
      show mk (clB (addS s a b c)) (s 1) ||| (if clB (addS s a b c) (s 1) then 1 <<< s 1 else 0) = _
      have e3 : clB (addS s a b c) (s 1) = false := by
        unfold clB
        rw [hn 6 (by decide) (by decide), hn 3 (by decide) (by decide)]
        rfl
      rw [e3, mk_congr (q := clB s) (fun i hi => by unfold clB; rw [hv i 6 hi (by decide), hv i 3 hi (by decide), hv i 5 hi (by decide)])]
      simp
    rw [e2]
  intro q hq
  rw [e1] at hq
  rw [hon]
  by_cases e : q = s 1
  · subst e
    rw [hn 4 (by decide) (by decide)]
    unfold cnd
    rw [hn 12 (by decide) (by decide)]
    rfl
  · rw [hv q 4 (by omega) (by decide), h q (by omega), cnd_congr (s := s) (t := addS s a b c) (hW.m6 (by omega)) (fun x h1 h2 => (hv q x (by omega) h2).symm)]
theorem CC.hap {s : Nat → Nat} {B e : Nat} (hW : Wt s B) (he : e < 4 * s 1) : CC (hap s e) := CC_lks (Wt.hp1 hW he)
theorem CC.stl {rev : Bool} : ∀ {m : Nat} {s : Nat → Nat} {B : Nat}, CC s → Wt s B → CC (stl s rev m).2
  | 0, s, B, h, _ => h
  | m + 1, s, B, h, hW => by
    cases ho : nx s rev with
    | none => rw [stl_none _ ho]; exact h
    | some e =>
      rw [stl_some _ ho]
      exact CC.stl (CC.hap hW (nx_lt ho)) (hW.hap (nx_lt ho))
theorem CC.psL {en : Nat} : ∀ {m : Nat} {s : Nat → Nat} {B : Nat}, CC s → Wt s B → CC (psL en s m).2
  | 0, s, B, h, _ => h
  | m + 1, s, B, h, hW => by
    unfold Jvm.Pilot.@@N@@.psL
    split
    · exact h
    · rename_i e ho
      split
      · exact CC.psL (CC.hap hW (nx_lt ho)) (hW.hap (nx_lt ho))
      · exact h
theorem CC.stk {s : Nat → Nat} {B r v : Nat} (h : CC s) (hW : Wt s B) : CC (upN s (ix r 7) v) := h.col hW (by decide) (by decide)
theorem qB_putN {Γ : Gm} {l : Launch} {y : MethodName} {cc : ByteArray} {mL d mc ms pc n k idx x : Nat} {L st : List AV} {cs : Nat × Nat} {w : Nat → AC} {b : Bk} (hΓ : Ok Γ l y cc mL d mc ms) (i : Nat) (hd : decode cc pc = .ok (.putfield idx, 3)) (hf : FLN y.cls idx 0 (i + 6) false .int) (hi : i < 9) (hB : BkAt n w k b) (kk : ∀ w', BkAt n w' k (bset b 6 i x) → Fr k 7 w w' → Γ (pc + 3) L st cs n w') : Γ pc L (aZ x :: aR k :: st) cs n w := by
  refine qa_putN hΓ hd hf hB.lt hB.o (by simp; omega) ?_
  rw [bk_set k b i x hi]
  obtain ⟨h1, h2⟩ := hB.setO (bset b 6 i x) (bset6 b i x)
  exact kk _ h1 h2
theorem qX_putN {Γ : Gm} {l : Launch} {y : MethodName} {cc : ByteArray} {mL d mc ms pc n k idx x N : Nat} {L st : List AV} {cs : Nat × Nat} {w : Nat → AC} {T : Nat → Nat} (hΓ : Ok Γ l y cc mL d mc ms) (hd : decode cc pc = .ok (.putfield idx, 3)) (hf : FLN y.cls idx 3 1 false .int) (hX : XtAt n w k T N) (kk : ∀ w', XtAt n w' k T x → Fr k 2 w w' → Γ (pc + 3) L st cs n w') : Γ pc L (aZ x :: aR k :: st) cs n w := by
  refine qa_putN hΓ hd hf hX.lt hX.o (by simp) ?_
  obtain ⟨h1, h2⟩ := hX.setL (x := x)
  exact kk _ h1 h2
