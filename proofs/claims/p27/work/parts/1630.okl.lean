/-! The law's script is an old row, at the place KS beyond the world's cells -/
abbrev KS : Nat := 1000000
/-- what a walk stands on that may read the script -/
def OkL (Γ : Gm) (l : Launch) (y : MethodName) (cc : ByteArray) (mL d mc ms n0 L : Nat) (xs : Nat → Int32) : Prop :=
  ∃ (p : Program) (e : Env) (s : State) (m : MethodId) (args : Array Value) (below : List Frame) (meth : Method) (c : Code) (D : va_G) (cT : Nat → ClassId) (A : Nat → Prop) (Q : State → Prop) (ad0 : Nat → Nat) (R : Room),
    Γ = (fun pc L st cs n w => ∀ (ad : Nat → Nat) (H : Heap) (locs : List Loc) (ls : Array Slot), Ex n0 ad0 n ad → Rp D cT A s ad n w H locs → Lc ad mL L ls → W p l e R s m args below meth c H locs cs.1 cs.2 Q (F0 m pc ls (st.map (rv ad)))) ∧
    p.tables.exec = Jvm.exec ∧ c.code = cc ∧ c.maxLocals = mL ∧ s.vm.findClass y.cls = some m.cls ∧ meth.name = y.name ∧ (∀ w ∈ wsL_law, w.before args s = true) ∧ KK D cT s ∧ (∀ q : Nat, s.heap.size ≤ q → A q) ∧
    d ≤ R.frames ∧ 37 * d ≤ R.locals ∧ R.cells = mc ∧ R.slots = ms ∧ va_X (ad0 KS) L xs s s.heap ∧ ad0 KS < s.heap.size ∧ ¬ A (ad0 KS)
section
variable {Γ : Gm} {l : Launch} {y : MethodName} {cc : ByteArray} {mL d mc ms n L : Nat} {xs : Nat → Int32} {pc : Nat} {Ls st : List AV} {cs : Nat × Nat} {w : Nat → AC}
theorem OkL.ok (h : OkL Γ l y cc mL d mc ms n L xs) : Ok Γ l y cc mL d mc ms := by
  obtain ⟨p, e, s, m, args, below, meth, c, D, cT, A, Q, ad0, R, h1, h2, h3, h4, h5, h6, h7, h8, h9, h10, h11, h12, h13, _⟩ := h
  exact ⟨p, e, s, m, args, below, meth, c, D, cT, A, Q, n, ad0, R, h1, h2, h3, h4, h5, h6, h7, h8, h9, h10, h11, h12, h13⟩
theorem qL_sld (h : OkL Γ l y cc mL d mc ms n L xs) (hd : decode cc pc = .ok (.iaload, 1)) {j : Nat} (hj : j < L) (hL : L < 2147483648) (kk : Γ (pc + 1) Ls (aI (xs j) :: st) cs n w) : Γ pc Ls (aZ j :: aR KS :: st) cs n w := by
  obtain ⟨p, e, s, m, args, below, meth, c, D, cT, A, Q, ad0, R, rfl, hx, hb, hml, hown, hnm, hts, hK, hA, hRf, hRl, hRc, hRs, hX, hbl, hbA⟩ := h
  intro ad H locs ls hE hR hLc
  have e0 : ad = ad0 := hE.1 rfl
  subst e0
  refine va_sld hx hb hX hbl hbA hR.2.2 (vp_in_nI hj hL) hd ?_
  rw [nI_clamp (by omega)]
  exact kk ad H locs ls hE hR hLc
theorem qL_slen (h : OkL Γ l y cc mL d mc ms n L xs) (hd : decode cc pc = .ok (.arraylength, 1)) (kk : Γ (pc + 1) Ls (aZ L :: st) cs n w) : Γ pc Ls (aR KS :: st) cs n w := by
  obtain ⟨p, e, s, m, args, below, meth, c, D, cT, A, Q, ad0, R, rfl, hx, hb, hml, hown, hnm, hts, hK, hA, hRf, hRl, hRc, hRs, hX, hbl, hbA⟩ := h
  intro ad H locs ls hE hR hLc
  have e0 : ad = ad0 := hE.1 rfl
  subst e0
  exact va_slen hx hb hX hbl hbA hR.2.2 hd (kk ad H locs ls hE hR hLc)
end
/-- the world at a call that may read the script -/
def PcX (D : va_G) (cT : Nat → ClassId) (ad : Nat → Nat) (sz : Nat) (as : List AV) (n : Nat) (w : Nat → AC) (L : Nat) (xs : Nat → Int32) : Array Value → State → Prop := fun a U => PcW D cT ad sz as n w a U ∧ va_X (ad KS) L xs U U.heap ∧ ad KS < sz ∧ ∀ k, k < n → ad k ≠ ad KS
theorem PcX.blind {D : va_G} {cT : Nat → ClassId} {ad : Nat → Nat} {sz : Nat} {as : List AV} {n : Nat} {w : Nat → AC} {L : Nat} {xs : Nat → Int32} : FrameBlind (PcX D cT ad sz as n w L xs) := by
  intro a U g mk h
  obtain ⟨h1, h2, h3, h4⟩ := h
  exact ⟨PcW.blind _ _ _ _ h1, va_X.moved (u := U) (U := U.calling g mk a) (Vm.Alike.refl _) h2, h3, h4⟩
/-- a contract of a method that may read the script -/
def SpX (l : Launch) (y : MethodName) (cc : ByteArray) (mL : Nat) (ret : Option FieldType) (d : Nat) (as : List AV) (n : Nat) (w : Nat → AC) (L : Nat) (xs : Nat → Int32) (Qa : Option AV → (Nat → AC) → Prop) : Prop :=
  ∀ (D : va_G) (cT : Nat → ClassId) (ad : Nat → Nat) (sz : Nat), Met l y (Cond.code y cc mL ret :: wsL_law) (rmd d 0 0) (PcX D cT ad sz as n w L xs) (QcW D cT ad sz n w (Nz n Qa)) 0 0 (va_A (wsW cT ad n w) sz)
theorem SpX.of {l : Launch} {y : MethodName} {cc : ByteArray} {mL : Nat} {ret : Option FieldType} {d : Nat} {as : List AV} {n : Nat} {w : Nat → AC} {L : Nat} {xs : Nat → Int32} {Qa : Option AV → (Nat → AC) → Prop} (hy : plainFor y = true) (hlen : as.length ≤ mL)
    (body : ∀ Γ : Gm, OkL Γ l y cc mL d 0 0 n L xs → Rt Γ cc ret 0 0 (Nz n Qa) → Γ 0 (as ++ List.replicate (mL - as.length) none) [] (0, 0) n w) (hnl : as.all nl = true := by rfl) : SpX l y cc mL ret d as n w L xs Qa := by
  intro D cT ad sz
  refine va_MetF (cc := cc) (maxL := mL) (ret := ret) hy rfl ?_
  intro p e s m args below meth c s₁ B hml hv
  obtain ⟨⟨rfl, hsz, hP, hK, hD0⟩, hX, hKl, hKn⟩ := hv
  have hx := B.exec
  have hb := B.bytes
  have hr := B.returns
  have hts := atoms_spec (ws := Cond.code y cc mL ret :: wsL_law) B.pre
  have hown : s.vm.findClass y.cls = some m.cls := findClass_of_methodNamed B.named
  have hlocks := B.notSynchronized
  have hin : meth.name = y.name := (name_of_methodNamed B.named B.method).1
  subst hsz
  have hD := hD0.self (sz := s.heap.size)
  have hts' : ∀ w ∈ wsL_law, w.before (as.map (rv ad)).toArray s = true := fun w hw => hts w (List.mem_cons_of_mem _ hw)
  have hKA : ¬ va_A (wsW cT ad n w) s.heap.size (ad KS) := by
    rintro (⟨k, e, h⟩ | h)
    · have hk : k < n := by
        rcases Nat.lt_or_ge k n with q | q
        · exact q
        · unfold wsW at h
          rw [List.getElem?_eq_none (by simp; omega)] at h
          cases h
      rw [wsW_get hk] at h
      exact hKn k hk (congrArg Prod.fst (Option.some.inj h))
    · omega
  have key := body (fun pc L st cs n' w' => ∀ (ad' : Nat → Nat) (H : Heap) (locs : List Loc) (ls : Array Slot), Ex n ad n' ad' → Rp D cT (va_A (wsW cT ad n w) s.heap.size) s ad' n' w' H locs → Lc ad' mL L ls → W p l e (headSpec (Cond.code y cc mL ret :: wsL_law) (rmd d 0 0)).room s m (as.map (rv ad)).toArray below meth c H locs cs.1 cs.2 (MQ below (QcW D cT ad s.heap.size n w (Nz n Qa)) (as.map (rv ad)).toArray s 0 0 (va_A (wsW cT ad n w) s.heap.size)) (F0 m pc ls (st.map (rv ad'))))
    ⟨p, e, s, m, _, below, meth, c, D, cT, _, _, ad, _, rfl, hx, hb, hml, hown, hin, hts', hK, fun q h => Or.inr h, Nat.le_refl _, Nat.le_refl _, rfl, rfl, hX, hKl, hKA⟩ ⟨?_, ?_, ?_, ?_⟩
  · rw [lg_entry_eq]
    exact key ad s.heap [] _ Ex.rf ⟨hP, hD, va_S.rf⟩ (Lc.entry ad as hlen hnl)
  · intro pc L x cs n' w' hd ⟨ty, hty, hn⟩ hc1 hc2 hq ad' H locs ls hE hR hL
    obtain ⟨hP1, hD1, hS1⟩ := hR
    refine W.widen hc1 hc2 ?_
    exact W.zret (v := x) (ty := ty) hx hb (by rw [hr]; exact hty) hn (fun t ht hW => ⟨⟨some (aI x), ad', n', w', rfl, hq, hE, by rw [ht]; exact hP1, hD1⟩, hS1.F ht⟩) hS1.2.2 hd
  · intro pc L cs n' w' hd hret hc1 hc2 hq ad' H locs ls hE hR hL
    obtain ⟨hP1, hD1, hS1⟩ := hR
    refine W.widen hc1 hc2 ?_
    exact W.vret hx hb (by rw [hr]; exact hret) (fun t ht hW => ⟨⟨none, ad', n', w', rfl, hq, hE, by rw [ht]; exact hP1, hD1⟩, hS1.F ht⟩) hS1.2.2 hd
  · intro pc L v cs n' w' hd ⟨C, hret⟩ hc1 hc2 hq ad' H locs ls hE hR hL
    obtain ⟨hP1, hD1, hS1⟩ := hR
    refine W.widen hc1 hc2 ?_
    exact W.aret (v := rv ad' (some (.inr v))) (rt := .object C) hx hb (by rw [hr]; exact hret) (Or.inl ⟨C, rfl⟩) (by cases v with | none => exact Or.inl rfl | some k => exact Or.inr ⟨ad' k, rfl⟩) (fun t ht hW => ⟨⟨some (some (.inr v)), ad', n', w', rfl, hq, hE, by rw [ht]; exact hP1, hD1⟩, hS1.F ht⟩) hS1.2.2 hd
  · intro pc L x cs n' w' hd hret hc1 hc2 hq ad' H locs ls hE hR hL
    obtain ⟨hP1, hD1, hS1⟩ := hR
    refine W.widen hc1 hc2 ?_
    exact W.lret (v := x) hx hb (by rw [hr]; exact hret) (fun t ht hW => ⟨⟨some (aL x), ad', n', w', rfl, hq, hE, by rw [ht]; exact hP1, hD1⟩, hS1.F ht⟩) hS1.2.2 hd
section
variable {Γ : Gm} {l : Launch} {y : MethodName} {cc : ByteArray} {mL d mc ms : Nat} {pc n : Nat} {L st : List AV} {cs : Nat × Nat} {w : Nat → AC}
variable {idx mz np d' : Nat} {z : MethodName} {cz : ByteArray} {rz : Option FieldType} {as st0 : List AV} {Qa : Option AV → (Nat → AC) → Prop} {N : Nat} {xs : Nat → Int32}
theorem qX_callS (hΓ : OkL Γ l y cc mL d mc ms n N xs) (hd : decode cc pc = .ok (.invokestatic idx, 3)) (hlk : Cond.methodLink y.cls idx z ∈ wsL_law) (hz : SW z cz mz rz np) (hS : SpX l z cz mz rz d' as n w N xs Qa) (hdd : d' + 1 ≤ d) (hnp : as.length = np) (hst : st0 = as.reverse ++ st) (hl8 : st.length ≤ 4) (hcs : cs.1 ≤ mc ∧ cs.2 ≤ ms) (kk : ∀ r w', Qa r w' → Γ (pc + 3) L (r.toList ++ st) cs n w') : Γ pc L st0 cs n w := by
  obtain ⟨p, e, s, m, args, below, meth, c, D, cT, A, Q, ad0, R, rfl, hx, hb, hml, hown, hnm, hts, hK, hA, hRf, hRl, hRc, hRs, hX, hbl, hbA⟩ := hΓ
  intro ad H locs ls hE hR hL
  have e0 : ad = ad0 := hE.1 rfl
  subst e0
  obtain ⟨⟨z1, z2, z3, z4⟩, z5⟩ := id hz
  subst hst
  have hKn : ∀ k, k < n → ad k ≠ ad KS := fun k hk q => hbA (by rw [← q]; exact hR.2.1.2 k _ (wsW_get hk))
  refine va_callW (A := A) (va_runS (As := as.map (rv ad)) (rest := st.map (rv ad)) ⟨hx, hb, hml, hown, hts⟩ (hS D cT ad H.size) ⟨callB_of np hts hz.1.gi rfl rfl rfl (hts _ z1) (hts _ hlk) z4 ⟨by show d' + 1 ≤ _; omega, by show 8 + (mz + 11) + 37 * d' ≤ _; omega⟩, hts _ z5⟩ ⟨PcX.blind, fun U hU hW => ⟨⟨rfl, by rw [hU], by rw [hU]; exact hR.1, KK.warm hW hK, hR.2.1.weaken (fun _ _ _ _ => trivial)⟩, by rw [hU]; exact va_X.moved hW.alike (hX.kept (hR.2.2.2.1 _ hbl hbA)), Nat.lt_of_lt_of_le hbl hR.2.2.1, hKn⟩⟩ rfl (by rw [List.length_map]; exact hnp) hL.1 (by show List.map (rv ad) _ = _; rw [List.map_append, List.map_reverse]) (lv_room (Nat.le_trans (rv_sum ad st) (by omega))) hd ⟨by rw [hRc]; exact hcs.1, by rw [hRs]; exact hcs.2⟩) hR.2.2 (vaA_in hR.2.1 hR.2.2 hA) (vaA_in hR.2.1 hR.2.2 hA) (fun r ad' n' w' H1 locs1 q1 q2 q3 => ?_)
  obtain ⟨e1, q1⟩ := q1
  subst e1
  have e2 := q2.1 rfl
  subst e2
  have h9 := kk r w' q1 ad' H1 locs1 ls (hE.tr q2) q3 hL
  cases r with
  | none => exact h9
  | some v => exact h9
end

