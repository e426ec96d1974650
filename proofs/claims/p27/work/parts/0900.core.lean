/-! An abstract machine: values and cells without addresses, a world of n cells as a function. A walk of one method is a predicate Γ of the place, the locals, the stack, the room used, and the world: 'from here the method ends as it must'. Each row below turns Γ at an instruction into Γ at the next one. -/
abbrev AV : Type := Option ((Int32 ⊕ Int64) ⊕ Option Nat)
abbrev aI (x : Int32) : AV := some (.inl (.inl x))
/-- a long: one value on the stack; in the locals its second place holds nothing that is known -/
abbrev aL (x : Int64) : AV := some (.inl (.inr x))
abbrev aR (k : Nat) : AV := some (.inr (some k))
abbrev aN : AV := some (.inr none)
def rv (ad : Nat → Nat) : AV → Value
  | some (.inl (.inl x)) => .int x
  | some (.inl (.inr x)) => .long x
  | some (.inr (some k)) => .ref (ad k)
  | some (.inr none) => .null
  | none => .null
abbrev AC : Type := (Nat × Nat × (Nat → Int32)) ⊕ ((Nat × (Nat → Option Nat)) ⊕ (Nat × List AV))
abbrev cArr (t n : Nat) (f : Nat → Int32) : AC := .inl (t, n, f)
abbrev cRef (n : Nat) (f : Nat → Option Nat) : AC := .inr (.inl (n, f))
abbrev cObj (ci : Nat) (fs : List AV) : AC := .inr (.inr (ci, fs))
def rc (cT : Nat → ClassId) (ad : Nat → Nat) : AC → va_E
  | .inl (t, n, f) => .inl (cT t, n, .inl f)
  | .inr (.inl (n, f)) => .inl (cT 3, n, .inr (.inr (.inr (.inr (fun j => (f j).map ad)))))
  | .inr (.inr (ci, fs)) => .inr (ci, fs.map (rv ad))
/-- no long -/
def nl : AV → Bool
  | some (.inl (.inr _)) => false
  | _ => true
theorem rv_cat (ad : Nat → Nat) (v : AV) (h : nl v = true) : (rv ad v).category = 1 := by
  rcases v with _ | (x | x) | _ | k
  · rfl
  · rfl
  · cases h
  · rfl
  · rfl
theorem rv_cat2 (ad : Nat → Nat) (v : AV) : (rv ad v).category ≤ 2 := by
  rcases v with _ | (x | x) | _ | k <;> exact Nat.le_of_ble_eq_true rfl
theorem rv_sum (ad : Nat → Nat) : ∀ st : List AV, ((st.map (rv ad)).map fun v => v.category).sum ≤ 2 * st.length
  | [] => by simp
  | v :: st => by
    have h := rv_sum ad st
    have h2 := rv_cat2 ad v
    simp only [List.map_cons, List.sum_cons, List.length_cons] at h ⊢
    omega
def tysG (cT : Nat → ClassId) : List (ClassId × FieldType) := [(cT 0, .int), (cT 2, .char), (cT 2, .char), (cT 3, .object "RelayBank$Bank")]
def wsW (cT : Nat → ClassId) (ad : Nat → Nat) (n : Nat) (w : Nat → AC) : va_W := (List.range n).map fun k => (ad k, rc cT ad (w k))
def upw (w : Nat → AC) (k : Nat) (c : AC) : Nat → AC := fun j => if j = k then c else w j
theorem upw_self (w : Nat → AC) (k : Nat) (c : AC) : upw w k c k = c := by simp [upw]
theorem upw_ne (w : Nat → AC) (k : Nat) (c : AC) {j : Nat} (h : j ≠ k) : upw w k c j = w j := by simp [upw, h]
theorem wsW_get {cT : Nat → ClassId} {ad : Nat → Nat} {n k : Nat} {w : Nat → AC} (h : k < n) : (wsW cT ad n w)[k]? = some (ad k, rc cT ad (w k)) := by
  simp [wsW, h]
theorem wsW_set {cT : Nat → ClassId} {ad : Nat → Nat} {n k : Nat} {w : Nat → AC} (c : AC) (h : k < n) : (wsW cT ad n w).set k (ad k, rc cT ad c) = wsW cT ad n (upw w k c) := by
  apply List.ext_getElem?
  intro i
  rw [List.getElem?_set]
  by_cases hi : k = i
  · subst hi
    simp [wsW, upw, h]
  · by_cases hn : i < n
    · rw [if_neg hi, wsW_get hn, wsW_get hn, upw_ne _ _ _ (Ne.symm hi)]
    · simp [wsW, hi, hn]
theorem wsW_push {cT : Nat → ClassId} {ad ad' : Nat → Nat} {n q : Nat} {w : Nat → AC} (c : AC) (hq : ad' n = q) (ho : ∀ j, j < n → ad' j = ad j) (hc : ∀ k, k < n → rc cT ad' (w k) = rc cT ad (w k)) : wsW cT ad n w ++ [(q, rc cT ad' c)] = wsW cT ad' (n + 1) (upw w n c) := by
  apply List.ext_getElem?
  intro i
  have hl : (wsW cT ad n w).length = n := by simp [wsW]
  by_cases hn : i < n
  · rw [List.getElem?_append_left (by rw [hl]; exact hn), wsW_get hn, wsW_get (by omega), upw_ne _ _ _ (by omega), ho i hn, hc i hn]
  · rw [List.getElem?_append_right (by rw [hl]; omega), hl]
    by_cases he : i = n
    · subst he
      rw [wsW_get (by omega), upw_self, hq, Nat.sub_self]
      rfl
    · rw [List.getElem?_eq_none (by simp; omega), List.getElem?_eq_none (by simp [wsW]; omega)]
/-- the words that a method's own class may use of a nest mate's private members -/
def nestG : List (String × Nat × MethodName) := [(RX0, 65, yX5_isWithin), (RX0, 73, yX5_at), (RX0, 77, yX5_put), (RX0, 106, yX5_isIn), (RX5, 25, yX4_init), (RX5, 32, yX2_init)]
def nestF : List (String × Nat × String × String × String) := [(RX5, 173, RX0, "pickUps", "[I"), (RX5, 180, RX0, "releases", "[I"), (RX5, 183, RX0, "bounces", "[I"), (RX5, 206, RX0, "dues", "[I"), (RX5, 47, RX0, "relays", "I"), (RX5, 149, RX0, "time", "I"), (RX5, 107, RX0, "keys", "I"), (RX5, 160, RX0, "fed", "I"), (RX5, 163, RX0, "attracted", "I"), (RX5, 169, RX0, "bouncing", "I"), (RX5, 124, RX0, "stuck", "I"), (RX5, 172, RX3, "size", "I"), (RX5, 82, RX4, "length", "I")]
def KK (D : va_G) (cT : Nat → ClassId) (U : State) : Prop := va_K D vwCl (tysG cT) U ∧ va_AO "RelayBank$Bank" U ∧ (∀ q ∈ nestG, va_Nw (.methodLinkNest q.1 q.2.1 q.2.2 "RelayBank") U) ∧ ∀ q ∈ nestF, va_Nw (.fieldLinkNest q.1 q.2.1 q.2.2.1 q.2.2.2.1 q.2.2.2.2 "RelayBank") U
theorem KK.warm {D : va_G} {cT : Nat → ClassId} {s U : State} (hW : s.WarmedH U.vm) (h : KK D cT s) : KK D cT U := ⟨va_K.moved hW.alike h.1, va_AO.moved hW.alike h.2.1, fun q hq => va_Nw.warmM hW (h.2.2.1 q hq), fun q hq => va_Nw.warmF hW (h.2.2.2 q hq)⟩
theorem KK.same {D : va_G} {cT : Nat → ClassId} {u U : State} (e : u.vm = U.vm) (h : KK D cT u) : KK D cT U := by
  have ha : u.vm.Alike U.vm := by rw [e]; exact Vm.Alike.refl U.vm
  exact ⟨va_K.moved ha h.1, va_AO.moved ha h.2.1, fun q hq => va_Nw.same rfl e (h.2.2.1 q hq), fun q hq => va_Nw.same rfl e (h.2.2.2 q hq)⟩
/-- addresses: more cells may have come, the old ones stay -/
def Ex (n0 : Nat) (ad0 : Nat → Nat) (n : Nat) (ad : Nat → Nat) : Prop := (n = n0 → ad = ad0) ∧ n0 ≤ n ∧ ∀ j, j < n0 → ad j = ad0 j
theorem Ex.rf {n : Nat} {ad : Nat → Nat} : Ex n ad n ad := ⟨fun _ => rfl, Nat.le_refl _, fun _ _ => rfl⟩
theorem Ex.tr {n0 n1 n2 : Nat} {a0 a1 a2 : Nat → Nat} (h : Ex n0 a0 n1 a1) (g : Ex n1 a1 n2 a2) : Ex n0 a0 n2 a2 := by
  obtain ⟨h1, h2, h3⟩ := h
  obtain ⟨g1, g2, g3⟩ := g
  refine ⟨fun e => ?_, by omega, fun j hj => (g3 j (by omega)).trans (h3 j hj)⟩
  rw [g1 (by omega), h1 (by omega)]
def Rp (D : va_G) (cT : Nat → ClassId) (A : Nat → Prop) (s : State) (ad : Nat → Nat) (n : Nat) (w : Nat → AC) (H : Heap) (locs : List Loc) : Prop := va_P D vwCl (wsW cT ad n w) H ∧ va_D A (wsW cT ad n w) ∧ va_S A s.heap H locs
def lg (L : List AV) (i : Nat) : AV := L.getD i none
def Lc (ad : Nat → Nat) (mL : Nat) (L : List AV) (ls : Array Slot) : Prop := ls.size = mL ∧ lv_wf ls ∧ ∀ i x, lg L i = some x → ls[i]? = some (.val (rv ad (some x)))
def lprs (ad : Nat → Nat) (L : List AV) : List (Nat × Value) := (List.range L.length).filterMap fun i => (lg L i).map fun x => (i, rv ad (some x))
theorem lg_lt {L : List AV} {i : Nat} {x : (Int32 ⊕ Int64) ⊕ Option Nat} (h : lg L i = some x) : i < L.length := by
  rcases Nat.lt_or_ge i L.length with q | q
  · exact q
  · unfold lg at h
    rw [List.getD_eq_getElem?_getD, List.getElem?_eq_none q] at h
    cases h
theorem lprs_mem {ad : Nat → Nat} {L : List AV} {q : Nat × Value} : q ∈ lprs ad L ↔ ∃ x, lg L q.1 = some x ∧ q.2 = rv ad (some x) := by
  unfold lprs
  rw [List.mem_filterMap]
  constructor
  · rintro ⟨i, -, h⟩
    cases hx : lg L i with
    | none => rw [hx] at h; cases h
    | some x => rw [hx] at h; cases h; exact ⟨x, hx, rfl⟩
  · rintro ⟨x, h1, h2⟩
    refine ⟨q.1, List.mem_range.mpr (lg_lt h1), ?_⟩
    rw [h1]
    show some (q.1, rv ad (some x)) = some q
    rw [← h2]
theorem Lc.has {ad : Nat → Nat} {mL : Nat} {L : List AV} {ls : Array Slot} (h : Lc ad mL L ls) : lv_has ls mL (lprs ad L) := by
  refine ⟨h.1, h.2.1, fun q hq => ?_⟩
  obtain ⟨x, h1, h2⟩ := lprs_mem.mp hq
  rw [h.2.2 q.1 x h1, h2]
theorem lg_set (L : List AV) (k i : Nat) (v : AV) : lg (L.set k v) i = if i = k ∧ k < L.length then v else lg L i := by
  unfold lg
  rw [List.getD_eq_getElem?_getD, List.getElem?_set, List.getD_eq_getElem?_getD]
  by_cases h : k = i
  · subst h
    by_cases hl : k < L.length
    · simp [hl]
    · simp [hl]
  · rw [if_neg h, if_neg (fun q => h q.1.symm)]
/-- a place k of the locals that may be written: no long begins just before it -/
def lsf (L : List AV) : Nat → Bool
  | 0 => true
  | k + 1 => nl (lg L k)
theorem lsf_at {L : List AV} {k i : Nat} (h : lsf L k = true) (e : i + 1 = k) : nl (lg L i) = true := by
  subst e
  exact h
theorem Lc.set {ad : Nat → Nat} {mL : Nat} {L : List AV} {ls' : Array Slot} {k : Nat} {v : AV} (hs : lsf L k = true) (h' : lv_has ls' mL ((k, rv ad v) :: (lprs ad L).filter (fun q => !(q.1 == k) && !(q.1 + 1 == k && q.2.category == 2)))) : Lc ad mL (L.set k v) ls' := by
  refine ⟨h'.1, h'.2.1, fun i x hx => ?_⟩
  rw [lg_set] at hx
  by_cases hi : i = k ∧ k < L.length
  · rw [if_pos hi] at hx
    obtain ⟨rfl, -⟩ := hi
    have h2 := h'.2.2 (i, rv ad v) List.mem_cons_self
    rw [← hx]
    exact h2
  · rw [if_neg hi] at hx
    have hk : ¬ i = k := fun e => hi ⟨e, by have := lg_lt hx; omega⟩
    refine h'.2.2 (i, rv ad (some x)) (List.mem_cons_of_mem _ (List.mem_filter.mpr ⟨lprs_mem.mpr ⟨x, hx, rfl⟩, ?_⟩))
    by_cases e : i + 1 = k
    · have h3 := lsf_at hs e
      rw [hx] at h3
      simp [hk, rv_cat ad _ h3]
    · simp [hk, e]
theorem lg_set_ne (L : List AV) {k i : Nat} (v : AV) (h : i ≠ k) : lg (L.set k v) i = lg L i := by
  rw [lg_set, if_neg (fun q => h q.1)]
theorem Lc.setL {ad : Nat → Nat} {mL : Nat} {L : List AV} {ls' : Array Slot} {k : Nat} {v : Int64} (hs : lsf L k = true) (hk2 : k + 1 < L.length) (h' : lv_has ls' mL ((k, Value.long v) :: (lprs ad L).filter (fun q => !(q.1 == k) && (!(q.1 == k + 1) && !(q.1 + 1 == k && q.2.category == 2))))) : Lc ad mL ((L.set k (aL v)).set (k + 1) none) ls' := by
  refine ⟨h'.1, h'.2.1, fun i x hx => ?_⟩
  by_cases e1 : i = k + 1
  · subst e1
    rw [lg_set, if_pos ⟨rfl, by rw [List.length_set]; exact hk2⟩] at hx
    cases hx
  · rw [lg_set_ne _ _ e1] at hx
    by_cases e0 : i = k
    · subst e0
      rw [lg_set, if_pos ⟨rfl, by omega⟩] at hx
      have h2 := h'.2.2 (i, Value.long v) List.mem_cons_self
      rw [← hx]
      exact h2
    · rw [lg_set_ne _ _ e0] at hx
      refine h'.2.2 (i, rv ad (some x)) (List.mem_cons_of_mem _ (List.mem_filter.mpr ⟨lprs_mem.mpr ⟨x, hx, rfl⟩, ?_⟩))
      by_cases e : i + 1 = k
      · have h3 := lsf_at hs e
        rw [hx] at h3
        simp [e0, e1, rv_cat ad _ h3]
      · simp [e0, e1, e]
theorem all_cons {v : AV} {as : List AV} (h : (v :: as).all nl = true) : nl v = true ∧ as.all nl = true := by
  simpa using h
theorem lg_sl_len (ad : Nat → Nat) : ∀ as : List AV, as.all nl = true → (lg_sl (as.map (rv ad))).length = as.length
  | [], _ => rfl
  | v :: as, hn => by
    obtain ⟨hv, ha⟩ := all_cons hn
    have h := lg_sl_len ad as ha
    unfold lg_sl at h ⊢
    simp only [List.map_cons, List.flatMap_cons, List.length_append, h, rv_cat ad v hv]
    simp
    omega
theorem lv_args_mem (ad : Nat → Nat) : ∀ (as : List AV) (j i : Nat) (x : (Int32 ⊕ Int64) ⊕ Option Nat), as.all nl = true → lg as i = some x → (j + i, rv ad (some x)) ∈ lv_args j (as.map (rv ad))
  | [], j, i, x, _, h => absurd (lg_lt h) (by simp)
  | v :: as, j, 0, x, _, h => by
    have e : v = some x := h
    subst e
    exact List.mem_cons_self
  | v :: as, j, i + 1, x, hn, h => by
    obtain ⟨hv, ha⟩ := all_cons hn
    have h2 : lg as i = some x := by
      unfold lg at h ⊢
      rw [List.getD_eq_getElem?_getD] at h ⊢
      simpa using h
    have h3 := lv_args_mem ad as (j + 1) i x ha h2
    show _ ∈ (j, rv ad v) :: lv_args (if (rv ad v).category = 2 then j + 2 else j + 1) (as.map (rv ad))
    rw [if_neg (by rw [rv_cat ad v hv]; decide), show j + (i + 1) = j + 1 + i by omega]
    exact List.mem_cons_of_mem _ h3
theorem lg_app (as : List AV) (k i : Nat) (x : (Int32 ⊕ Int64) ⊕ Option Nat) (h : lg (as ++ List.replicate k none) i = some x) : lg as i = some x := by
  unfold lg at h ⊢
  rw [List.getD_eq_getElem?_getD] at h ⊢
  by_cases hl : i < as.length
  · rw [List.getElem?_append_left hl] at h
    exact h
  · rw [List.getElem?_append_right (by omega), List.getElem?_replicate] at h
    split at h <;> simp at h
theorem Lc.entry (ad : Nat → Nat) {mL : Nat} (as : List AV) (h : as.length ≤ mL) (hn : as.all nl = true) : Lc ad mL (as ++ List.replicate (mL - as.length) none) ((lg_sl (as.map (rv ad)) ++ List.replicate (mL - (lg_sl (as.map (rv ad))).length) Slot.unset).toArray) := by
  have h1 := lv_entry (as.map (rv ad)) (n := mL) (by rw [lg_sl_len _ _ hn]; exact h)
  refine ⟨h1.1, h1.2.1, fun i x hx => ?_⟩
  have h2 := lv_args_mem ad as 0 i x hn (lg_app as _ i x hx)
  rw [Nat.zero_add] at h2
  exact h1.2.2 _ h2
abbrev Gm : Type := Nat → List AV → List AV → Nat × Nat → Nat → (Nat → AC) → Prop
def rmd (d mc ms : Nat) : Room := { frames := d, cells := mc, slots := ms, locals := 37 * d }
/-- what a walk stands on: its method, its code, the machine, the tables' words, the room -/
def Ok (Γ : Gm) (l : Launch) (y : MethodName) (cc : ByteArray) (mL d mc ms : Nat) : Prop :=
  ∃ (p : Program) (e : Env) (s : State) (m : MethodId) (args : Array Value) (below : List Frame) (meth : Method) (c : Code) (D : va_G) (cT : Nat → ClassId) (A : Nat → Prop) (Q : State → Prop) (n0 : Nat) (ad0 : Nat → Nat) (R : Room),
    Γ = (fun pc L st cs n w => ∀ (ad : Nat → Nat) (H : Heap) (locs : List Loc) (ls : Array Slot), Ex n0 ad0 n ad → Rp D cT A s ad n w H locs → Lc ad mL L ls → W p l e R s m args below meth c H locs cs.1 cs.2 Q (F0 m pc ls (st.map (rv ad)))) ∧
    p.tables.exec = Jvm.exec ∧ c.code = cc ∧ c.maxLocals = mL ∧ s.vm.findClass y.cls = some m.cls ∧ meth.name = y.name ∧ (∀ w ∈ wsL_law, w.before args s = true) ∧ KK D cT s ∧ (∀ q : Nat, s.heap.size ≤ q → A q) ∧
    d ≤ R.frames ∧ 37 * d ≤ R.locals ∧ R.cells = mc ∧ R.slots = ms
def PcW (D : va_G) (cT : Nat → ClassId) (ad : Nat → Nat) (sz : Nat) (as : List AV) (n : Nat) (w : Nat → AC) : Array Value → State → Prop := va_Pc (as.map (rv ad)) (fun U => U.heap.size = sz ∧ va_P D vwCl (wsW cT ad n w) U.heap ∧ KK D cT U ∧ va_D (fun _ => True) (wsW cT ad n w))
def QcW (D : va_G) (cT : Nat → ClassId) (ad : Nat → Nat) (sz : Nat) (n : Nat) (w : Nat → AC) (Qa : Option AV → Nat → (Nat → AC) → Prop) : Array Value → State → Outcome → State → Prop := fun _ st oc t =>
  (∃ (r : Option AV) (ad' : Nat → Nat) (n' : Nat) (w' : Nat → AC), oc = .returned (r.map (rv ad')) ∧ Qa r n' w' ∧ Ex n ad n' ad' ∧ va_P D vwCl (wsW cT ad' n' w') t.heap ∧ va_D (va_A (wsW cT ad n w) sz) (wsW cT ad' n' w')) ∧ va_F (va_A (wsW cT ad n w) sz) st t
/-- a method's contract: from these arguments and this world it returns, and Qa holds of its answer and the world -/
def Sp (l : Launch) (y : MethodName) (cc : ByteArray) (mL : Nat) (ret : Option FieldType) (d mc ms : Nat) (as : List AV) (n : Nat) (w : Nat → AC) (Qa : Option AV → Nat → (Nat → AC) → Prop) : Prop :=
  ∀ (D : va_G) (cT : Nat → ClassId) (ad : Nat → Nat) (sz : Nat), Met l y (Cond.code y cc mL ret :: wsL_law) (rmd d mc ms) (PcW D cT ad sz as n w) (QcW D cT ad sz n w Qa) mc ms (va_A (wsW cT ad n w) sz)
/-- how a walk may end -/
def Rt (Γ : Gm) (cc : ByteArray) (ret : Option FieldType) (mc ms : Nat) (Qa : Option AV → Nat → (Nat → AC) → Prop) : Prop :=
  (∀ (pc : Nat) (L : List AV) (x : Int32) (cs : Nat × Nat) (n : Nat) (w : Nat → AC), decode cc pc = .ok (.ireturn, 1) → (∃ ty, ret = some ty ∧ narrow ty (.int x) = .int x) → cs.1 ≤ mc → cs.2 ≤ ms → Qa (some (aI x)) n w → Γ pc L [aI x] cs n w) ∧
  (∀ (pc : Nat) (L : List AV) (cs : Nat × Nat) (n : Nat) (w : Nat → AC), decode cc pc = .ok (.return_, 1) → ret = none → cs.1 ≤ mc → cs.2 ≤ ms → Qa none n w → Γ pc L [] cs n w) ∧
  (∀ (pc : Nat) (L : List AV) (v : Option Nat) (cs : Nat × Nat) (n : Nat) (w : Nat → AC), decode cc pc = .ok (.areturn, 1) → (∃ C, ret = some (.object C)) → cs.1 ≤ mc → cs.2 ≤ ms → Qa (some (some (.inr v))) n w → Γ pc L [some (.inr v)] cs n w) ∧
  (∀ (pc : Nat) (L : List AV) (x : Int64) (cs : Nat × Nat) (n : Nat) (w : Nat → AC), decode cc pc = .ok (.lreturn, 1) → ret = some .long → cs.1 ≤ mc → cs.2 ≤ ms → Qa (some (aL x)) n w → Γ pc L [aL x] cs n w)
theorem Sp.of {l : Launch} {y : MethodName} {cc : ByteArray} {mL : Nat} {ret : Option FieldType} {d mc ms : Nat} {as : List AV} {n : Nat} {w : Nat → AC} {Qa : Option AV → Nat → (Nat → AC) → Prop} (hy : plainFor y = true) (hlen : as.length ≤ mL)
    (body : ∀ Γ : Gm, Ok Γ l y cc mL d mc ms → Rt Γ cc ret mc ms Qa → Γ 0 (as ++ List.replicate (mL - as.length) none) [] (0, 0) n w) (hnl : as.all nl = true := by rfl) : Sp l y cc mL ret d mc ms as n w Qa := by
  intro D cT ad sz
  refine va_MetF (cc := cc) (maxL := mL) (ret := ret) hy rfl ?_
  intro p e s m args below meth c s₁ B hml hv
  obtain ⟨rfl, hsz, hP, hK, hD0⟩ := hv
  have hx := B.exec
  have hb := B.bytes
  have hr := B.returns
  have hts := atoms_spec (ws := Cond.code y cc mL ret :: wsL_law) B.pre
  have hown : s.vm.findClass y.cls = some m.cls := findClass_of_methodNamed B.named
  have hlocks := B.notSynchronized
  have hin : meth.name = y.name := (name_of_methodNamed B.named B.method).1
  subst hsz
  have hD := hD0.self (sz := s.heap.size)
  have hts' : ∀ w ∈ wsL_law, w.before (as.map (rv ad)).toArray s = true := fun w hw => hts w (List.mem_cons_of_mem _ hw)
  have key := body (fun pc L st cs n' w' => ∀ (ad' : Nat → Nat) (H : Heap) (locs : List Loc) (ls : Array Slot), Ex n ad n' ad' → Rp D cT (va_A (wsW cT ad n w) s.heap.size) s ad' n' w' H locs → Lc ad' mL L ls → W p l e (headSpec (Cond.code y cc mL ret :: wsL_law) (rmd d mc ms)).room s m (as.map (rv ad)).toArray below meth c H locs cs.1 cs.2 (MQ below (QcW D cT ad s.heap.size n w Qa) (as.map (rv ad)).toArray s mc ms (va_A (wsW cT ad n w) s.heap.size)) (F0 m pc ls (st.map (rv ad'))))
    ⟨p, e, s, m, _, below, meth, c, D, cT, _, _, n, ad, _, rfl, hx, hb, hml, hown, hin, hts', hK, fun q h => Or.inr h, Nat.le_refl _, Nat.le_refl _, rfl, rfl⟩ ⟨?_, ?_, ?_, ?_⟩
  · rw [lg_entry_eq]
    exact key ad s.heap [] _ Ex.rf ⟨hP, hD, va_S.rf⟩ (Lc.entry ad as hlen hnl)
  · intro pc L x cs n' w' hd ⟨ty, hty, hn⟩ hc1 hc2 hq ad' H locs ls hE hR hL
    obtain ⟨hP1, hD1, hS1⟩ := hR
    refine W.widen hc1 hc2 ?_
    exact W.zret (v := x) (ty := ty) hx hb (by rw [hr]; exact hty) hn (fun t ht hW => ⟨⟨some (aI x), ad', n', w', rfl, hq, hE, by rw [ht]; exact hP1, hD1⟩, hS1.F ht⟩) hS1.2.2 hd
  · intro pc L cs n' w' hd hret hc1 hc2 hq ad' H locs ls hE hR hL
    obtain ⟨hP1, hD1, hS1⟩ := hR
    refine W.widen hc1 hc2 ?_
    exact W.vret hx hb (by rw [hr]; exact hret) (fun t ht hW => ⟨⟨none, ad', n', w', rfl, hq, hE, by rw [ht]; exact hP1, hD1⟩, hS1.F ht⟩) hS1.2.2 hd
  · intro pc L v cs n' w' hd ⟨C, hret⟩ hc1 hc2 hq ad' H locs ls hE hR hL
    obtain ⟨hP1, hD1, hS1⟩ := hR
    refine W.widen hc1 hc2 ?_
    exact W.aret (v := rv ad' (some (.inr v))) (rt := .object C) hx hb (by rw [hr]; exact hret) (Or.inl ⟨C, rfl⟩) (by cases v with | none => exact Or.inl rfl | some k => exact Or.inr ⟨ad' k, rfl⟩) (fun t ht hW => ⟨⟨some (some (.inr v)), ad', n', w', rfl, hq, hE, by rw [ht]; exact hP1, hD1⟩, hS1.F ht⟩) hS1.2.2 hd
  · intro pc L x cs n' w' hd hret hc1 hc2 hq ad' H locs ls hE hR hL
    obtain ⟨hP1, hD1, hS1⟩ := hR
    refine W.widen hc1 hc2 ?_
    exact W.lret (v := x) hx hb (by rw [hr]; exact hret) (fun t ht hW => ⟨⟨some (aL x), ad', n', w', rfl, hq, hE, by rw [ht]; exact hP1, hD1⟩, hS1.F ht⟩) hS1.2.2 hd
