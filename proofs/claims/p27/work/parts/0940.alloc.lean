theorem arr_int : Cond.arrayClass .int ∈ wsL_law := List.mem_of_getElem? (i := 31) (by decide +kernel)
theorem arr_char : Cond.arrayClass .char ∈ wsL_law := List.mem_of_getElem? (i := 49) (by decide +kernel)
theorem obj_ins : Cond.instanceMethod Lib.objectInit ∈ wsL_law := List.mem_of_getElem? (i := 7) (by decide +kernel)
theorem obj_cod : Cond.code Lib.objectInit ⟨#[0xb1]⟩ 1 none ∈ wsL_law := List.mem_of_getElem? (i := 8) (by decide +kernel)
def adN (ad : Nat → Nat) (n q : Nat) : Nat → Nat := fun j => if j = n then q else ad j
theorem adN_lt {ad : Nat → Nat} {n q : Nat} : ∀ j, j < n → adN ad n q j = ad j := fun j hj => by
  unfold adN
  rw [if_neg (by omega)]
theorem Ex.push {n0 n q : Nat} {ad0 ad : Nat → Nat} (h : Ex n0 ad0 n ad) : Ex n0 ad0 (n + 1) (adN ad n q) := by
  obtain ⟨h1, h2, h3⟩ := h
  exact ⟨fun e => by omega, by omega, fun j hj => (adN_lt j (by omega)).trans (h3 j hj)⟩
theorem wsW_new {cT : Nat → ClassId} {ad : Nat → Nat} {n q : Nat} {w : Nat → AC} {c : AC} (hc : clW n w) (hi : ∀ a b : Nat → Nat, rc cT a c = rc cT b c) : wsW cT ad n w ++ [(q, rc cT ad c)] = wsW cT (adN ad n q) (n + 1) (upw w n c) := by
  rw [← wsW_push (ad := ad) (ad' := adN ad n q) (q := q) c (by simp [adN]) adN_lt (fun k hk => rc_ok (hc k hk) adN_lt), hi ad (adN ad n q)]
/-- a class that may be made: its words, and the fields of a new object -/
def CLK (own : String) (idx ci : Nat) (N : Nat) (fs : List AV) : Prop := ∃ (C : String) (T : u_T) (ty0 : Nat → FieldType), vwCl[ci]? = some (C, T, N) ∧ (∀ w ∈ u_ws C T N, w ∈ wsL_law) ∧ (∀ j, j < N → parseFieldDescriptor (T j).2.2.1 = some (ty0 j)) ∧ Cond.classLink own idx C ∈ wsL_law ∧ Cond.instantiable C N ∈ wsL_law ∧ Cond.initialized C ∈ wsL_law ∧ (∀ (ad : Nat → Nat) (j : Nat), j < N → defaultValue (ty0 j) = vp_V (fs.map (rv ad)) j) ∧ (∀ a b : Nat → Nat, fs.map (rv a) = fs.map (rv b))
theorem same_cls {D : va_G} {cT : Nat → ClassId} {s : State} (hK : KK D cT s) (t : Nat) {ty : FieldType} (ht : (tysG cT)[t]? = some (cT t, ty)) {cA : ClassId} (h2 : va_K D vwCl (tysG cT ++ [(cA, ty)]) s) : cA = cT t := by
  have h1 := (hK.1.2 t _ ht).2
  have h3 := (h2.2 4 (cA, ty) (by simp [tysG])).2
  have key : ∀ c, va_RA s c ty → s.vm.findClass ("[" ++ ty.toString) = some c := by
    intro c hc
    cases ty with
    | object C => obtain ⟨_, _, _, _, _, h⟩ := hc; exact h
    | _ => exact hc
  exact Option.some.inj ((key _ h3).symm.trans (key _ h1))
section
variable {Γ : Gm} {l : Launch} {y : MethodName} {cc : ByteArray} {mL d mc ms : Nat} {pc n : Nat} {L st : List AV} {cs : Nat × Nat} {w : Nat → AC}
theorem qa_new (hΓ : Ok Γ l y cc mL d mc ms) {idx ci N : Nat} {fs : List AV} (hd : decode cc pc = .ok (.new idx, 3)) (hc : CLK y.cls idx ci N fs) (hcs : cs.1 + 1 ≤ mc ∧ cs.2 + N ≤ ms) (hw : clW n w) (hokL : ∀ v ∈ L, okV n v) (hokS : ∀ v ∈ st, okV n v) (kk : Γ (pc + 3) L (aR n :: st) (cs.1 + 1, cs.2 + N) (n + 1) (upw w n (cObj ci fs))) : Γ pc L st cs n w := by
  obtain ⟨p, e, s, m, args, below, meth, c, D, cT, A, Q, n0, ad0, R, rfl, hx, hb, hml, hown, hnm, hts, hK, hA, hRf, hRl, hRc, hRs⟩ := hΓ
  intro ad H locs ls hE hR hL
  obtain ⟨C, T, ty0, f1, f2, f3, f4, f5, f6, f7, f8⟩ := hc
  refine va_new (fs := fs.map (rv ad)) (C := C) (T := T) (N := N) hx hb hts f2 ty0 f3 hown (hts _ f4) (hts _ f5) (hts _ f6) hK.1 hR.1 hR.2.1 hR.2.2 hA f1 (f7 ad) (by rw [hRc]; exact hcs.1) (by rw [hRs]; exact hcs.2) hd (fun q H1 g1 g2 g3 => ?_)
  have e := wsW_new (cT := cT) (ad := ad) (q := q) (c := cObj ci fs) hw (fun a b => by show (Sum.inr (ci, fs.map (rv a)) : va_E) = Sum.inr (ci, fs.map (rv b)); rw [f8 a b])
  have h9 := kk (adN ad n q) H1 locs ls hE.push ⟨e ▸ g1, e ▸ g2, g3⟩ (hL.moved hokL adN_lt)
  rw [List.map_cons, rvs_ok adN_lt hokS, show rv (adN ad n q) (aR n) = Value.ref q by simp [rv, adN]] at h9
  exact h9
theorem qa_newa_int (hΓ : Ok Γ l y cc mL d mc ms) {N : Nat} {v : Int32} (hd : decode cc pc = .ok (.newarray .int, 2)) (hv : v = nI N) (hN : N < 1000000) (hcs : cs.1 + 1 ≤ mc ∧ cs.2 + N ≤ ms) (hw : clW n w) (hokL : ∀ v ∈ L, okV n v) (hokS : ∀ v ∈ st, okV n v) (kk : Γ (pc + 2) L (aR n :: st) (cs.1 + 1, cs.2 + N) (n + 1) (upw w n (cArr 0 N (fun _ => 0)))) : Γ pc L (aI v :: st) cs n w := by
  obtain ⟨p, e, s, m, args, below, meth, c, D, cT, A, Q, n0, ad0, R, rfl, hx, hb, hml, hown, hnm, hts, hK, hA, hRf, hRl, hRc, hRs⟩ := hΓ
  intro ad H locs ls hE hR hL
  subst hv
  refine va_newa (atype := .int) (ty := .int) (a0 := (N, .inl (fun _ => 0))) hx hb (hts _ arr_int) rfl hK.1 hR.1 hR.2.1 hR.2.2 hA (fun _ => rfl) (nI_pos (by omega)) (nI_clamp (by omega)) (Nat.le_trans (Nat.mul_le_mul_left N (show componentBytes .int ≤ 8 by decide)) (by omega)) (by rw [hRc]; exact hcs.1) (by rw [hRs]; exact hcs.2) hd (fun q cA H1 g0 g1 g2 g3 => ?_)
  have ec := same_cls hK 0 (ty_int cT) g0
  subst ec
  have e := wsW_new (cT := cT) (ad := ad) (q := q) (c := cArr 0 N (fun _ => 0)) hw (fun _ _ => rfl)
  have h9 := kk (adN ad n q) H1 locs ls hE.push ⟨e ▸ g1, e ▸ g2, g3⟩ (hL.moved hokL adN_lt)
  rw [List.map_cons, rvs_ok adN_lt hokS, show rv (adN ad n q) (aR n) = Value.ref q by simp [rv, adN]] at h9
  exact h9
theorem qa_newa_char (hΓ : Ok Γ l y cc mL d mc ms) {N : Nat} {v : Int32} (hd : decode cc pc = .ok (.newarray .char, 2)) (hv : v = nI N) (hN : N < 1000000) (hcs : cs.1 + 1 ≤ mc ∧ cs.2 + N ≤ ms) (hw : clW n w) (hokL : ∀ v ∈ L, okV n v) (hokS : ∀ v ∈ st, okV n v) (kk : Γ (pc + 2) L (aR n :: st) (cs.1 + 1, cs.2 + N) (n + 1) (upw w n (cArr 2 N (fun _ => 0)))) : Γ pc L (aI v :: st) cs n w := by
  obtain ⟨p, e, s, m, args, below, meth, c, D, cT, A, Q, n0, ad0, R, rfl, hx, hb, hml, hown, hnm, hts, hK, hA, hRf, hRl, hRc, hRs⟩ := hΓ
  intro ad H locs ls hE hR hL
  subst hv
  refine va_newa (atype := .char) (ty := .char) (a0 := (N, .inl (fun _ => 0))) hx hb (hts _ arr_char) rfl hK.1 hR.1 hR.2.1 hR.2.2 hA (fun _ => rfl) (nI_pos (by omega)) (nI_clamp (by omega)) (Nat.le_trans (Nat.mul_le_mul_left N (show componentBytes .char ≤ 8 by decide)) (by omega)) (by rw [hRc]; exact hcs.1) (by rw [hRs]; exact hcs.2) hd (fun q cA H1 g0 g1 g2 g3 => ?_)
  have ec := same_cls hK 2 (ty_char cT) g0
  subst ec
  have e := wsW_new (cT := cT) (ad := ad) (q := q) (c := cArr 2 N (fun _ => 0)) hw (fun _ _ => rfl)
  have h9 := kk (adN ad n q) H1 locs ls hE.push ⟨e ▸ g1, e ▸ g2, g3⟩ (hL.moved hokL adN_lt)
  rw [List.map_cons, rvs_ok adN_lt hokS, show rv (adN ad n q) (aR n) = Value.ref q by simp [rv, adN]] at h9
  exact h9
theorem qa_newq (hΓ : Ok Γ l y cc mL d mc ms) {idx N : Nat} {v : Int32} (hd : decode cc pc = .ok (.anewarray idx, 3)) (hc : Cond.classLink y.cls idx "RelayBank$Bank" ∈ wsL_law) (hv : v = nI N) (hN : N < 1000000) (hcs : cs.1 + 1 ≤ mc ∧ cs.2 + N ≤ ms) (hw : clW n w) (hokL : ∀ v ∈ L, okV n v) (hokS : ∀ v ∈ st, okV n v) (kk : Γ (pc + 3) L (aR n :: st) (cs.1 + 1, cs.2 + N) (n + 1) (upw w n (cRef N (fun _ => none)))) : Γ pc L (aI v :: st) cs n w := by
  obtain ⟨p, e, s, m, args, below, meth, c, D, cT, A, Q, n0, ad0, R, rfl, hx, hb, hml, hown, hnm, hts, hK, hA, hRf, hRl, hRc, hRs⟩ := hΓ
  intro ad H locs ls hE hR hL
  subst hv
  refine va_newq (C := "RelayBank$Bank") hx hb hown (hts _ hc) hK.2.1 hK.1 hR.1 hR.2.1 hR.2.2 hA (nI_pos (by omega)) (nI_clamp (by omega)) (by omega) (by rw [hRc]; exact hcs.1) (by rw [hRs]; exact hcs.2) hd (fun q cA H1 g0 g1 g2 g3 => ?_)
  have ec := same_cls hK 3 (ty_ref cT) g0
  subst ec
  have e := wsW_new (cT := cT) (ad := ad) (q := q) (c := cRef N (fun _ => none)) hw (fun _ _ => rfl)
  have h9 := kk (adN ad n q) H1 locs ls hE.push ⟨e ▸ g1, e ▸ g2, g3⟩ (hL.moved hokL adN_lt)
  rw [List.map_cons, rvs_ok adN_lt hokS, show rv (adN ad n q) (aR n) = Value.ref q by simp [rv, adN]] at h9
  exact h9
theorem qa_objInit (hΓ : Ok Γ l y cc mL d mc ms) {idx k0 : Nat} (hd : decode cc pc = .ok (.invokespecial idx, 3)) (hlk : Cond.methodLink y.cls idx Lib.objectInit ∈ wsL_law) (hdd : 1 ≤ d) (hl8 : st.length ≤ 4) (kk : Γ (pc + 3) L st cs n w) : Γ pc L (aR k0 :: st) cs n w := by
  obtain ⟨p, e, s, m, args, below, meth, c, D, cT, A, Q, n0, ad0, R, rfl, hx, hb, hml, hown, hnm, hts, hK, hA, hRf, hRl, hRc, hRs⟩ := hΓ
  intro ad H locs ls hE hR hL
  refine W.objInit hx hb hown (hts _ hlk) (hts _ obj_ins) (hts _ obj_cod) rfl (by rw [hml]; exact hL.1) rfl hd (by omega) (by
    have h1 := rv_sum ad st
    have h2 := lv_room (m := m) (pc := pc) (ls := ls) (rest := st.map (rv ad)) (st := st.map (rv ad)) (by omega)
    show 2 * 0 + ((st.map (rv ad)).map fun v => v.category).sum + 12 ≤ R.locals
    omega) ?_
  exact kk ad H locs ls hE hR hL
end
