/-- a method that may be called: its words -/
def MW (z : MethodName) (cz : ByteArray) (mz : Nat) (rz : Option FieldType) (np : Nat) : Prop := Cond.initialized z.cls ∈ wsL_law ∧ Cond.code z cz mz rz ∈ wsL_law ∧ mz ≤ 18 ∧ (z.cls ≠ "java/lang/invoke/MethodHandle" ∧ z.cls ≠ "java/lang/invoke/VarHandle" ∧ (parseMethodDescriptor z.desc).map (fun d => d.parameters.length) = some np)
def VW (z : MethodName) (cz : ByteArray) (mz : Nat) (rz : Option FieldType) (np : Nat) : Prop := MW z cz mz rz np ∧ Cond.instanceMethod z ∈ wsL_law ∧ Cond.selects z.cls z z ∈ wsL_law
def SW (z : MethodName) (cz : ByteArray) (mz : Nat) (rz : Option FieldType) (np : Nat) : Prop := MW z cz mz rz np ∧ Cond.static z ∈ wsL_law
def IW (z : MethodName) (cz : ByteArray) (mz : Nat) (np : Nat) : Prop := MW z cz mz none np ∧ Cond.instanceMethod z ∈ wsL_law ∧ z.name = "<init>"
theorem MW.gi {z : MethodName} {cz : ByteArray} {mz : Nat} {rz : Option FieldType} {np : Nat} (h : MW z cz mz rz np) : GoodIn wsL_law (Cond.code z cz mz rz :: wsL_law) := by
  intro w hw
  rcases List.mem_cons.mp hw with rfl | hw
  · exact ⟨h.2.1, good_of_word (wsL_law_gd _ h.2.1)⟩
  · exact wsL_GI w hw
theorem PcW.blind {D : va_G} {cT : Nat → ClassId} {ad : Nat → Nat} {sz : Nat} {as : List AV} {n : Nat} {w : Nat → AC} : FrameBlind (PcW D cT ad sz as n w) := by
  intro a U g mk h
  obtain ⟨h1, h2, h3, h4, h5⟩ := h
  exact ⟨h1, h2, h3, KK.same (u := U) (U := U.calling g mk a) rfl h4, h5⟩
def okV (n : Nat) (v : AV) : Prop := ∀ k, v = aR k → k < n
theorem okV_I (n : Nat) (x : Int32) : okV n (aI x) := fun k h => by cases h
theorem okV_N (n : Nat) : okV n aN := fun k h => by cases h
theorem okV_0 (n : Nat) : okV n none := fun k h => by cases h
theorem okV_R {n k : Nat} (h : k < n) : okV n (aR k) := fun j e => by cases e; exact h
theorem rv_ok {n : Nat} {ad ad' : Nat → Nat} {v : AV} (h : okV n v) (ha : ∀ j, j < n → ad' j = ad j) : rv ad' v = rv ad v := by
  rcases v with _ | (x | x) | _ | k
  · rfl
  · rfl
  · rfl
  · rfl
  · show Value.ref (ad' k) = Value.ref (ad k)
    rw [ha k (h k rfl)]
theorem rvs_ok {n : Nat} {ad ad' : Nat → Nat} (ha : ∀ j, j < n → ad' j = ad j) : ∀ {st : List AV}, (∀ v ∈ st, okV n v) → st.map (rv ad') = st.map (rv ad)
  | [], _ => rfl
  | v :: st, h => by
    rw [List.map_cons, List.map_cons, rv_ok (h v List.mem_cons_self) ha, rvs_ok ha (fun u hu => h u (List.mem_cons_of_mem _ hu))]
theorem lg_mem {L : List AV} {i : Nat} {x : (Int32 ⊕ Int64) ⊕ Option Nat} (h : lg L i = some x) : some x ∈ L := by
  have hl := lg_lt h
  unfold lg at h
  rw [List.getD_eq_getElem?_getD, List.getElem?_eq_getElem hl] at h
  rw [← h]
  exact List.getElem_mem hl
theorem Lc.moved {n : Nat} {ad ad' : Nat → Nat} {mL : Nat} {L : List AV} {ls : Array Slot} (h : Lc ad mL L ls) (hok : ∀ v ∈ L, okV n v) (ha : ∀ j, j < n → ad' j = ad j) : Lc ad' mL L ls :=
  ⟨h.1, h.2.1, fun i x hx => by rw [rv_ok (hok _ (lg_mem hx)) ha]; exact h.2.2 i x hx⟩
def okC (n : Nat) : AC → Prop
  | .inl _ => True
  | .inr (.inl (_, f)) => ∀ j i, f j = some i → i < n
  | .inr (.inr (_, fs)) => ∀ v ∈ fs, okV n v
theorem rc_ok {n : Nat} {cT : Nat → ClassId} {ad ad' : Nat → Nat} {c : AC} (h : okC n c) (ha : ∀ j, j < n → ad' j = ad j) : rc cT ad' c = rc cT ad c := by
  rcases c with ⟨t, m, f⟩ | ⟨m, f⟩ | ⟨ci, fs⟩
  · rfl
  · show (Sum.inl (cT 3, m, Sum.inr (Sum.inr (Sum.inr (Sum.inr fun j => (f j).map ad')))) : va_E) = Sum.inl (cT 3, m, Sum.inr (Sum.inr (Sum.inr (Sum.inr fun j => (f j).map ad))))
    have e : (fun j => (f j).map ad') = fun j => (f j).map ad := by
      funext j
      cases hj : f j with
      | none => rfl
      | some i => show some (ad' i) = some (ad i); rw [ha i (h j i hj)]
    rw [e]
  · show (Sum.inr (ci, fs.map (rv ad')) : va_E) = Sum.inr (ci, fs.map (rv ad))
    rw [rvs_ok ha h]
def clW (n : Nat) (w : Nat → AC) : Prop := ∀ k, k < n → okC n (w k)
theorem okV.mono {n m : Nat} {v : AV} (h : okV n v) (hm : n ≤ m) : okV m v := fun k e => Nat.lt_of_lt_of_le (h k e) hm
theorem okC.mono {n m : Nat} {c : AC} (h : okC n c) (hm : n ≤ m) : okC m c := by
  rcases c with ⟨t, q, f⟩ | ⟨q, f⟩ | ⟨ci, fs⟩
  · exact trivial
  · exact fun j i e => Nat.lt_of_lt_of_le (h j i e) hm
  · exact fun v hv => (h v hv).mono hm
theorem clW.up {n : Nat} {w : Nat → AC} {k : Nat} {c : AC} (h : clW n w) (hc : okC n c) : clW n (upw w k c) := by
  intro j hj
  by_cases e : j = k
  · subst e
    rw [upw_self]
    exact hc
  · rw [upw_ne _ _ _ e]
    exact h j hj
theorem clW.push {n : Nat} {w : Nat → AC} {c : AC} (h : clW n w) (hc : okC (n + 1) c) : clW (n + 1) (upw w n c) := by
  intro j hj
  by_cases e : j = n
  · subst e
    rw [upw_self]
    exact hc
  · rw [upw_ne _ _ _ e]
    exact (h j (by omega)).mono (by omega)
section
variable {p : Program} {l : Launch} {e : Env} {R : Room} {s : State} {m : MethodId} {args : Array Value} {below : List Frame} {meth : Method} {c : Code} {H : Heap} {locs : List Loc} {cells slots : Nat} {Q : State → Prop} {pc : Nat} {ls : Array Slot} {rest st0 : List Value}
theorem va_callW {D : va_G} {cT : Nat → ClassId} {A : Nat → Prop} {ad : Nat → Nat} {n : Nat} {w : Nat → AC} {Qa : Option AV → Nat → (Nat → AC) → Prop} {a : Array Value} {mc ms : Nat} {free : Addr → Prop} (hr : va_Run p l e R s m args below meth c H locs cells slots mc ms (F0 m pc ls st0) rest (QcW D cT ad H.size n w Qa a) free) (hS : va_S A s.heap H locs) (hA : ∀ q, va_A (wsW cT ad n w) H.size q → A q) (hf : ∀ q, free q → A q)
    (kk : ∀ (r : Option AV) (ad' : Nat → Nat) (n' : Nat) (w' : Nat → AC) (H1 : Heap) (locs1 : List Loc), Qa r n' w' → Ex n ad n' ad' → Rp D cT A s ad' n' w' H1 locs1 → W p l e R s m args below meth c H1 locs1 (cells + mc) (slots + ms) Q (F0 m (pc + 3) ls ((r.map (rv ad')).toList ++ rest))) : W p l e R s m args below meth c H locs cells slots Q (F0 m pc ls st0) := by
  intro T hT X
  obtain ⟨v, st₀, t, T', L, h0, X', hL, e1, e2, ⟨⟨r, ad', n', w', hv, hq, hex, hP', hD'⟩, hz, hk⟩, st⟩ := hr T hT X
  cases hv
  rw [h0] at hz hk
  obtain ⟨t2, a1, b1⟩ := kk r ad' n' w' T'.heap (locs ++ L) hq hex ⟨by rw [e1]; exact hP', hD'.weaken (fun _ q _ h => hA q.1 h), Nat.le_trans hS.1 (by rw [e1]; exact hz), fun q h1 h2 => by rw [e1, hk q (Nat.lt_of_lt_of_le h1 hS.1) (fun z => h2 (hA q z))]; exact hS.2.1 q h1 h2, fun q hq => by
      rcases List.mem_append.mp hq with h | h
      · exact hS.2.2 q h
      · exact hf _ (hL q h)⟩ T' rfl X'
  exact ⟨t2, st t2 a1, b1⟩
theorem vaA_in {cT : Nat → ClassId} {A : Nat → Prop} {ad : Nat → Nat} {n : Nat} {w : Nat → AC} {H0 : Heap} (hD : va_D A (wsW cT ad n w)) (hS : va_S A H0 H locs) (hA : ∀ q : Nat, H0.size ≤ q → A q) : ∀ q, va_A (wsW cT ad n w) H.size q → A q := by
  intro q h
  rcases h with ⟨k, e, h⟩ | h
  · exact hD.2 k _ h
  · exact hA q (Nat.le_trans hS.1 h)
end
section
variable {Γ : Gm} {l : Launch} {y : MethodName} {cc : ByteArray} {mL d mc ms : Nat} {pc n : Nat} {L st : List AV} {cs : Nat × Nat} {w : Nat → AC}
variable {idx mz np d' mc' ms' k0 : Nat} {z : MethodName} {cz : ByteArray} {rz : Option FieldType} {as st0 : List AV} {Qa : Option AV → Nat → (Nat → AC) → Prop}
theorem qa_callV (hΓ : Ok Γ l y cc mL d mc ms) (hd : decode cc pc = .ok (.invokevirtual idx, 3)) (hlk : Cond.methodLink y.cls idx z ∈ wsL_law) (hz : VW z cz mz rz np) (hS : Sp l z cz mz rz d' 0 0 (aR k0 :: as) n w Qa) (hdd : d' + 1 ≤ d) (hnp : as.length = np) {ci : Nat} {fs : List AV} {T : u_T} {N : Nat} (hk : k0 < n) (hw : w k0 = cObj ci fs) (hc : vwCl[ci]? = some (z.cls, T, N)) (hst : st0 = as.reverse ++ aR k0 :: st) (hl8 : st.length ≤ 4) (hcs : cs.1 ≤ mc ∧ cs.2 ≤ ms) (hq : ∀ r n' w', Qa r n' w' → n' = n) (kk : ∀ r w', Qa r n w' → Γ (pc + 3) L (r.toList ++ st) cs n w') : Γ pc L st0 cs n w := by
  obtain ⟨p, e, s, m, args, below, meth, c, D, cT, A, Q, n0, ad0, R, rfl, hx, hb, hml, hown, hnm, hts, hK, hA, hRf, hRl, hRc, hRs⟩ := hΓ
  intro ad H locs ls hE hR hL
  have he := wsW_get (cT := cT) (ad := ad) (w := w) hk
  rw [hw] at he
  obtain ⟨⟨z1, z2, z3, z4⟩, z5, z6⟩ := id hz
  subst hst
  refine va_callW (A := A) (va_runV (As := as.map (rv ad)) (rest := st.map (rv ad)) ⟨hx, hb, hml, hown, hts⟩ (hS D cT ad H.size) ⟨callB_of np hts hz.1.gi rfl rfl rfl (hts _ z1) (hts _ hlk) z4 ⟨by show d' + 1 ≤ _; omega, by show 8 + (mz + 11) + 37 * d' ≤ _; omega⟩, hts _ z5, hts _ z6⟩ ⟨PcW.blind, va_recv hK.1 hR.1 (ci := ci) (q0 := k0) hc he, fun U hU hW => ⟨rfl, by rw [hU], by rw [hU]; exact hR.1, KK.warm hW hK, hR.2.1.weaken (fun _ _ _ _ => trivial)⟩⟩ rfl (by rw [List.length_map]; exact hnp) hL.1 (by show List.map (rv ad) _ = _; rw [List.map_append, List.map_reverse]; rfl) (lv_room (Nat.le_trans (rv_sum ad st) (by omega))) hd ⟨by rw [hRc]; exact hcs.1, by rw [hRs]; exact hcs.2⟩) hR.2.2 (vaA_in hR.2.1 hR.2.2 hA) (vaA_in hR.2.1 hR.2.2 hA) (fun r ad' n' w' H1 locs1 q1 q2 q3 => ?_)
  have e := hq r n' w' q1
  subst e
  have e2 := q2.1 rfl
  subst e2
  have h9 := kk r w' q1 ad' H1 locs1 ls (hE.tr q2) q3 hL
  cases r with
  | none => exact h9
  | some v => exact h9
theorem qa_callS (hΓ : Ok Γ l y cc mL d mc ms) (hd : decode cc pc = .ok (.invokestatic idx, 3)) (hlk : Cond.methodLink y.cls idx z ∈ wsL_law) (hz : SW z cz mz rz np) (hS : Sp l z cz mz rz d' 0 0 as n w Qa) (hdd : d' + 1 ≤ d) (hnp : as.length = np) (hst : st0 = as.reverse ++ st) (hl8 : st.length ≤ 4) (hcs : cs.1 ≤ mc ∧ cs.2 ≤ ms) (hq : ∀ r n' w', Qa r n' w' → n' = n) (kk : ∀ r w', Qa r n w' → Γ (pc + 3) L (r.toList ++ st) cs n w') : Γ pc L st0 cs n w := by
  obtain ⟨p, e, s, m, args, below, meth, c, D, cT, A, Q, n0, ad0, R, rfl, hx, hb, hml, hown, hnm, hts, hK, hA, hRf, hRl, hRc, hRs⟩ := hΓ
  intro ad H locs ls hE hR hL
  obtain ⟨⟨z1, z2, z3, z4⟩, z5⟩ := id hz
  subst hst
  refine va_callW (A := A) (va_runS (As := as.map (rv ad)) (rest := st.map (rv ad)) ⟨hx, hb, hml, hown, hts⟩ (hS D cT ad H.size) ⟨callB_of np hts hz.1.gi rfl rfl rfl (hts _ z1) (hts _ hlk) z4 ⟨by show d' + 1 ≤ _; omega, by show 8 + (mz + 11) + 37 * d' ≤ _; omega⟩, hts _ z5⟩ ⟨PcW.blind, fun U hU hW => ⟨rfl, by rw [hU], by rw [hU]; exact hR.1, KK.warm hW hK, hR.2.1.weaken (fun _ _ _ _ => trivial)⟩⟩ rfl (by rw [List.length_map]; exact hnp) hL.1 (by show List.map (rv ad) _ = _; rw [List.map_append, List.map_reverse]) (lv_room (Nat.le_trans (rv_sum ad st) (by omega))) hd ⟨by rw [hRc]; exact hcs.1, by rw [hRs]; exact hcs.2⟩) hR.2.2 (vaA_in hR.2.1 hR.2.2 hA) (vaA_in hR.2.1 hR.2.2 hA) (fun r ad' n' w' H1 locs1 q1 q2 q3 => ?_)
  have e := hq r n' w' q1
  subst e
  have e2 := q2.1 rfl
  subst e2
  have h9 := kk r w' q1 ad' H1 locs1 ls (hE.tr q2) q3 hL
  cases r with
  | none => exact h9
  | some v => exact h9
theorem qa_callN (hΓ : Ok Γ l y cc mL d mc ms) (hd : decode cc pc = .ok (.invokestatic idx, 3)) (hlk : (y.cls, idx, z) ∈ nestG) (hz : SW z cz mz rz np) (hS : Sp l z cz mz rz d' 0 0 as n w Qa) (hdd : d' + 1 ≤ d) (hnp : as.length = np) (hst : st0 = as.reverse ++ st) (hl8 : st.length ≤ 4) (hcs : cs.1 ≤ mc ∧ cs.2 ≤ ms) (hq : ∀ r n' w', Qa r n' w' → n' = n) (kk : ∀ r w', Qa r n w' → Γ (pc + 3) L (r.toList ++ st) cs n w') : Γ pc L st0 cs n w := by
  obtain ⟨p, e, s, m, args, below, meth, c, D, cT, A, Q, n0, ad0, R, rfl, hx, hb, hml, hown, hnm, hts, hK, hA, hRf, hRl, hRc, hRs⟩ := hΓ
  intro ad H locs ls hE hR hL
  obtain ⟨⟨z1, z2, z3, z4⟩, z5⟩ := id hz
  subst hst
  refine va_callW (A := A) (va_runSN (As := as.map (rv ad)) (rest := st.map (rv ad)) ⟨hx, hb, hml, hown, hts⟩ (hS D cT ad H.size) ⟨va_cnB np hts hz.1.gi rfl rfl rfl (hK.2.2.1 _ hlk) (hts _ z1) z4 ⟨by show d' + 1 ≤ _; omega, by show 8 + (mz + 11) + 37 * d' ≤ _; omega⟩, hts _ z5, trivial⟩ ⟨PcW.blind, fun U hU hW => ⟨rfl, by rw [hU], by rw [hU]; exact hR.1, KK.warm hW hK, hR.2.1.weaken (fun _ _ _ _ => trivial)⟩⟩ rfl (by rw [List.length_map]; exact hnp) hL.1 (by show List.map (rv ad) _ = _; rw [List.map_append, List.map_reverse]) (lv_room (Nat.le_trans (rv_sum ad st) (by omega))) hd ⟨by rw [hRc]; exact hcs.1, by rw [hRs]; exact hcs.2⟩) hR.2.2 (vaA_in hR.2.1 hR.2.2 hA) (vaA_in hR.2.1 hR.2.2 hA) (fun r ad' n' w' H1 locs1 q1 q2 q3 => ?_)
  have e := hq r n' w' q1
  subst e
  have e2 := q2.1 rfl
  subst e2
  have h9 := kk r w' q1 ad' H1 locs1 ls (hE.tr q2) q3 hL
  cases r with
  | none => exact h9
  | some v => exact h9
theorem qa_callI (hΓ : Ok Γ l y cc mL d mc ms) (hd : decode cc pc = .ok (.invokespecial idx, 3)) (hlk : Cond.methodLink y.cls idx z ∈ wsL_law) (hz : IW z cz mz np) (hS : Sp l z cz mz none d' mc' ms' (aR k0 :: as) n w Qa) (hdd : d' + 1 ≤ d) (hnp : as.length = np) (hst : st0 = as.reverse ++ aR k0 :: st) (hl8 : st.length ≤ 4) (hcs : cs.1 + mc' ≤ mc ∧ cs.2 + ms' ≤ ms) (hq : ∀ r n' w', Qa r n' w' → r = none) (hokL : ∀ v ∈ L, okV n v) (hokS : ∀ v ∈ st, okV n v) (kk : ∀ n' w', n ≤ n' → Qa none n' w' → Γ (pc + 3) L st (cs.1 + mc', cs.2 + ms') n' w') : Γ pc L st0 cs n w := by
  obtain ⟨p, e, s, m, args, below, meth, c, D, cT, A, Q, n0, ad0, R, rfl, hx, hb, hml, hown, hnm, hts, hK, hA, hRf, hRl, hRc, hRs⟩ := hΓ
  intro ad H locs ls hE hR hL
  obtain ⟨⟨z1, z2, z3, z4⟩, z5, z6⟩ := id hz
  subst hst
  refine va_callW (A := A) (va_runI (As := as.map (rv ad)) (b := ad k0) (rest := st.map (rv ad)) ⟨hx, hb, hml, hown, hts⟩ (hS D cT ad H.size) ⟨callB_of np hts hz.1.gi rfl rfl rfl (hts _ z1) (hts _ hlk) z4 ⟨by show d' + 1 ≤ _; omega, by show 8 + (mz + 11) + 37 * d' ≤ _; omega⟩, z6, hts _ z5⟩ ⟨PcW.blind, fun U hU hW => ⟨rfl, by rw [hU], by rw [hU]; exact hR.1, KK.warm hW hK, hR.2.1.weaken (fun _ _ _ _ => trivial)⟩⟩ rfl (by rw [List.length_map]; exact hnp) hL.1 (by show List.map (rv ad) _ = _; rw [List.map_append, List.map_reverse]; rfl) (lv_room (Nat.le_trans (rv_sum ad st) (by omega))) hd ⟨by rw [hRc]; exact hcs.1, by rw [hRs]; exact hcs.2⟩) hR.2.2 (vaA_in hR.2.1 hR.2.2 hA) (vaA_in hR.2.1 hR.2.2 hA) (fun r ad' n' w' H1 locs1 q1 q2 q3 => ?_)
  have e := hq r n' w' q1
  subst e
  have h9 := kk n' w' q2.2.1 q1 ad' H1 locs1 ls (hE.tr q2) q3 (hL.moved hokL q2.2.2)
  rw [rvs_ok q2.2.2 hokS] at h9
  exact h9
theorem qa_callIN (hΓ : Ok Γ l y cc mL d mc ms) (hd : decode cc pc = .ok (.invokespecial idx, 3)) (hlk : (y.cls, idx, z) ∈ nestG) (hz : IW z cz mz np) (hS : Sp l z cz mz none d' mc' ms' (aR k0 :: as) n w Qa) (hdd : d' + 1 ≤ d) (hnp : as.length = np) (hst : st0 = as.reverse ++ aR k0 :: st) (hl8 : st.length ≤ 4) (hcs : cs.1 + mc' ≤ mc ∧ cs.2 + ms' ≤ ms) (hq : ∀ r n' w', Qa r n' w' → r = none) (hokL : ∀ v ∈ L, okV n v) (hokS : ∀ v ∈ st, okV n v) (kk : ∀ n' w', n ≤ n' → Qa none n' w' → Γ (pc + 3) L st (cs.1 + mc', cs.2 + ms') n' w') : Γ pc L st0 cs n w := by
  obtain ⟨p, e, s, m, args, below, meth, c, D, cT, A, Q, n0, ad0, R, rfl, hx, hb, hml, hown, hnm, hts, hK, hA, hRf, hRl, hRc, hRs⟩ := hΓ
  intro ad H locs ls hE hR hL
  obtain ⟨⟨z1, z2, z3, z4⟩, z5, z6⟩ := id hz
  subst hst
  refine va_callW (A := A) (va_runIN (As := as.map (rv ad)) (b := ad k0) (rest := st.map (rv ad)) ⟨hx, hb, hml, hown, hts⟩ (hS D cT ad H.size) ⟨va_cnB np hts hz.1.gi rfl rfl rfl (hK.2.2.1 _ hlk) (hts _ z1) z4 ⟨by show d' + 1 ≤ _; omega, by show 8 + (mz + 11) + 37 * d' ≤ _; omega⟩, z6, hts _ z5⟩ ⟨PcW.blind, fun U hU hW => ⟨rfl, by rw [hU], by rw [hU]; exact hR.1, KK.warm hW hK, hR.2.1.weaken (fun _ _ _ _ => trivial)⟩⟩ rfl (by rw [List.length_map]; exact hnp) hL.1 (by show List.map (rv ad) _ = _; rw [List.map_append, List.map_reverse]; rfl) (lv_room (Nat.le_trans (rv_sum ad st) (by omega))) hd ⟨by rw [hRc]; exact hcs.1, by rw [hRs]; exact hcs.2⟩) hR.2.2 (vaA_in hR.2.1 hR.2.2 hA) (vaA_in hR.2.1 hR.2.2 hA) (fun r ad' n' w' H1 locs1 q1 q2 q3 => ?_)
  have e := hq r n' w' q1
  subst e
  have h9 := kk n' w' q2.2.1 q1 ad' H1 locs1 ls (hE.tr q2) q3 (hL.moved hokL q2.2.2)
  rw [rvs_ok q2.2.2 hokS] at h9
  exact h9
end
