/-! The law's first steps: the classes known, the objects made -/
theorem nG_in : ∀ w ∈ nestG.map (fun q => Cond.methodLinkNest q.1 q.2.1 q.2.2 "RelayBank"), w ∈ lw_tbl := mem_ps _ [179, 189, 277, 194, 112, 126] (by decide +kernel)
theorem nF_in : ∀ w ∈ nestF.map (fun q => Cond.fieldLinkNest q.1 q.2.1 q.2.2.1 q.2.2.2.1 q.2.2.2.2 "RelayBank"), w ∈ lw_tbl := mem_ps _ [33, 35, 37, 41, 42, 45, 47, 49, 51, 53, 55, 102, 117] (by decide +kernel)
theorem ar_in : ∀ w ∈ [Cond.arrayClass .int, Cond.arrayClass .char, Cond.arrayOver (.object "RelayBank$Bank")], w ∈ lw_tbl := mem_ps _ [89, 123, 97] (by decide +kernel)
theorem arr_known {s : State} {args : Array Value} {ty : FieldType} (h : (Cond.arrayClass ty).before args s = true) (hp : ∀ C, ty ≠ .object C) : ∃ cA, ArrOfT s cA ty ∧ va_RA s cA ty := by
  obtain ⟨c, k, comp, h1, h2, h3⟩ := Cond.arrayClass_spec h
  refine ⟨c, fun n z => ⟨fun k h => (by cases h), k, h2, comp, h3⟩, ?_⟩
  cases ty with
  | object C => exact absurd rfl (hp C)
  | _ => exact h1
theorem ref_known {s : State} {args : Array Value} (h : (Cond.arrayOver (.object "RelayBank$Bank")).before args s = true) : ∃ cA, ArrOfT s cA (.object "RelayBank$Bank") ∧ va_RA s cA (.object "RelayBank$Bank") := by
  obtain ⟨comp, c, k, h1, h2, h3, h4, h5⟩ := Cond.arrayOver_spec h
  exact ⟨c, fun n z => ⟨fun k h => (by cases h), k, h3, comp, h4⟩, k, comp, h3, h4, h1, h5⟩
theorem KK_start {s : State} {args : Array Value} (hts0 : ∀ w ∈ lw_tbl, w.before args s = true) : ∃ (D : va_G) (cT : Nat → ClassId), KK D cT s := by
  have hts : ∀ w ∈ wsL_law, w.before args s = true := fun w hw => hts0 w (wsL_law_in w hw)
  obtain ⟨c0, i0, k0⟩ := u_known (C := RX0) (T := TX0) (N := 15) (n := 15) hts inlX0 (hts _ (List.mem_of_getElem? (i := 10) (by decide +kernel)))
  obtain ⟨c1, i1, k1⟩ := u_known (C := RX2) (T := TX2) (N := 4) (n := 4) hts inlX2 (hts _ (List.mem_of_getElem? (i := 22) (by decide +kernel)))
  obtain ⟨c2, i2, k2⟩ := u_known (C := RX3) (T := TX3) (N := 3) (n := 3) hts inlX3 (hts _ (List.mem_of_getElem? (i := 14) (by decide +kernel)))
  obtain ⟨c3, i3, k3⟩ := u_known (C := RX4) (T := TX4) (N := 2) (n := 2) hts inlX4 (hts _ (List.mem_of_getElem? (i := 18) (by decide +kernel)))
  obtain ⟨c4, i4, k4⟩ := u_known (C := RX5) (T := TX5) (N := 6) (n := 6) hts inlX5 (hts _ (List.mem_of_getElem? (i := 1) (by decide +kernel)))
  obtain ⟨a0, r0⟩ := arr_known (ty := .int) (hts0 _ (ar_in _ (List.mem_of_getElem? (i := 0) rfl))) (fun C h => by cases h)
  obtain ⟨a2, r2⟩ := arr_known (ty := .char) (hts0 _ (ar_in _ (List.mem_of_getElem? (i := 1) rfl))) (fun C h => by cases h)
  obtain ⟨a3, r3⟩ := ref_known (hts0 _ (ar_in _ (List.mem_of_getElem? (i := 2) rfl)))
  refine ⟨(fun k => if k = 0 then c0 else if k = 1 then c1 else if k = 2 then c2 else if k = 3 then c3 else c4, fun k => if k = 0 then i0 else if k = 1 then i1 else if k = 2 then i2 else if k = 3 then i3 else i4), fun k => if k = 0 then a0 else if k = 2 then a2 else a3, ⟨?_, ?_⟩, ?_, ?_, ?_⟩
  · intro k q hq
    match k, hq with
    | 0, hq => cases hq; exact k0
    | 1, hq => cases hq; exact k1
    | 2, hq => cases hq; exact k2
    | 3, hq => cases hq; exact k3
    | 4, hq => cases hq; exact k4
    | k + 5, hq => simp [vwCl] at hq
  · intro k q hq
    match k, hq with
    | 0, hq => cases hq; exact r0
    | 1, hq => cases hq; exact r2
    | 2, hq => cases hq; exact r2
    | 3, hq => cases hq; exact r3
    | k + 4, hq => simp [tysG] at hq
  · exact va_AO.of (hts0 _ (ar_in _ (List.mem_of_getElem? (i := 2) rfl)))
  · intro q hq
    exact va_Nw.of rfl (hts0 _ (nG_in _ (List.mem_map.mpr ⟨q, hq, rfl⟩)))
  · intro q hq
    exact va_Nw.of rfl (hts0 _ (nF_in _ (List.mem_map.mpr ⟨q, hq, rfl⟩)))
section
variable {p : Program} {l : Launch} {e : Env} {R : Room} {s : State} {m : MethodId} {args : Array Value} {below : List Frame} {meth : Method} {c : Code} {H : Heap} {locs : List Loc} {cells slots : Nat} {Q : State → Prop} {pc : Nat} {ls : Array Slot} {rest : List Value} {D : va_G} {cT : Nat → ClassId} {A : Nat → Prop} {ad : Nat → Nat} {n mL : Nat} {w : Nat → AC} {cc : ByteArray} {own : String}
theorem raw_new (hx : p.tables.exec = Jvm.exec) (hb : c.code = cc) (hown : s.vm.findClass own = some m.cls) (hts : ∀ w ∈ wsL_law, w.before args s = true) (hK : KK D cT s) (hA : ∀ q : Nat, s.heap.size ≤ q → A q) {idx ci N : Nat} {fs : List AV} (hd : decode cc pc = .ok (.new idx, 3)) (hc : CLK own idx ci N fs) (h1 : cells + 1 ≤ R.cells) (h2 : slots + N ≤ R.slots) (hw : clW n w) (hR : Rp D cT A s ad n w H locs)
    (kk : ∀ (q : Nat) (H1 : Heap), Rp D cT A s (adN ad n q) (n + 1) (upw w n (cObj ci fs)) H1 locs → W p l e R s m args below meth c H1 locs (cells + 1) (slots + N) Q (F0 m (pc + 3) ls (.ref q :: rest))) : W p l e R s m args below meth c H locs cells slots Q (F0 m pc ls rest) := by
  obtain ⟨C, T, ty0, f1, f2, f3, f4, f5, f6, f7, f8⟩ := hc
  refine va_new (fs := fs.map (rv ad)) (C := C) (T := T) (N := N) hx hb hts f2 ty0 f3 hown (hts _ f4) (hts _ f5) (hts _ f6) hK.1 hR.1 hR.2.1 hR.2.2 hA f1 (f7 ad) h1 h2 hd (fun q H1 g1 g2 g3 => ?_)
  have e := wsW_new (cT := cT) (ad := ad) (q := q) (c := cObj ci fs) hw (fun a b => by show (Sum.inr (ci, fs.map (rv a)) : va_E) = Sum.inr (ci, fs.map (rv b)); rw [f8 a b])
  exact kk q H1 ⟨e ▸ g1, e ▸ g2, g3⟩
theorem raw_callI (hx : p.tables.exec = Jvm.exec) (hb : c.code = cc) (hml : c.maxLocals = mL) (hown : s.vm.findClass own = some m.cls) (hts : ∀ w ∈ wsL_law, w.before args s = true) (hK : KK D cT s) (hA : ∀ q : Nat, s.heap.size ≤ q → A q) {idx k0 mz d' mc' ms' : Nat} {z : MethodName} {cz : ByteArray} {Qa : Option AV → Nat → (Nat → AC) → Prop} {rf : Nat} (hd : decode cc pc = .ok (.invokespecial idx, 3)) (hlk : Cond.methodLink own idx z ∈ wsL_law) (hz : IW z cz mz 0) (hS : Sp l z cz mz none d' mc' ms' [aR k0] n w Qa) (hrf : rf = ad k0) (hls : ls.size = mL) (hr1 : (rest.map fun v => v.category).sum ≤ 8) (hfr : d' + 1 ≤ R.frames) (hlo : 37 * d' + 37 ≤ R.locals) (h1 : cells + mc' ≤ R.cells) (h2 : slots + ms' ≤ R.slots) (hq : ∀ r n' w', Qa r n' w' → r = none) (hR : Rp D cT A s ad n w H locs)
    (kk : ∀ (ad' : Nat → Nat) (n' : Nat) (w' : Nat → AC) (H1 : Heap) (locs1 : List Loc), Qa none n' w' → Ex n ad n' ad' → Rp D cT A s ad' n' w' H1 locs1 → W p l e R s m args below meth c H1 locs1 (cells + mc') (slots + ms') Q (F0 m (pc + 3) ls rest)) : W p l e R s m args below meth c H locs cells slots Q (F0 m pc ls (.ref rf :: rest)) := by
  obtain ⟨⟨z1, z2, z3, z4⟩, z5, z6⟩ := id hz
  subst hrf
  refine va_callW (A := A) (va_runI (As := []) (b := ad k0) (rest := rest) ⟨hx, hb, hml, hown, hts⟩ (hS D cT ad H.size) ⟨callB_of 0 hts hz.1.gi rfl rfl rfl (hts _ z1) (hts _ hlk) z4 ⟨by show d' + 1 ≤ _; omega, by show 8 + (mz + 11) + 37 * d' ≤ _; omega⟩, z6, hts _ z5⟩ ⟨PcW.blind, fun U hU hW => ⟨rfl, by rw [hU], by rw [hU]; exact hR.1, KK.warm hW hK, hR.2.1.weaken (fun _ _ _ _ => trivial)⟩⟩ rfl rfl hls rfl (lv_room hr1) hd ⟨h1, h2⟩) hR.2.2 (vaA_in hR.2.1 hR.2.2 hA) (vaA_in hR.2.1 hR.2.2 hA) (fun r ad' n' w' H1 locs1 q1 q2 q3 => ?_)
  have e := hq r n' w' q1
  subst e
  exact kk ad' n' w' H1 locs1 q1 q2 q3
end
theorem wsW_cg {cT : Nat → ClassId} {ad ad' : Nat → Nat} {n : Nat} {w : Nat → AC} (h : ∀ j, j < n → ad' j = ad j) (hw : clW n w) : wsW cT ad' n w = wsW cT ad n w := by
  unfold wsW
  refine List.map_congr_left (fun k hk => ?_)
  have hk2 := List.mem_range.mp hk
  rw [h k hk2, rc_ok (hw k hk2) h]
theorem Rp.cg {D : va_G} {cT : Nat → ClassId} {A : Nat → Prop} {s : State} {ad ad' : Nat → Nat} {n : Nat} {w : Nat → AC} {H : Heap} {locs : List Loc} (h : ∀ j, j < n → ad' j = ad j) (hw : clW n w) (hR : Rp D cT A s ad n w H locs) : Rp D cT A s ad' n w H locs := by
  unfold Rp
  rw [wsW_cg h hw]
  exact hR
theorem Rp.nil {D : va_G} {cT : Nat → ClassId} {A : Nat → Prop} {s : State} {ad : Nat → Nat} {w : Nat → AC} : Rp D cT A s ad 0 w s.heap [] := ⟨fun k q h => by simp [wsW] at h, ⟨fun i j p q h => by simp [wsW] at h, fun k q h => by simp [wsW] at h⟩, va_S.rf⟩
theorem cl_L_13 : CLK RL 13 4 6 dfX5 := by
  refine ⟨RX5, TX5, tyX5, rfl, inlX5, tyX5_ok, clk_L_13, List.mem_of_getElem? (i := 1) (by decide +kernel), List.mem_of_getElem? (i := 2) (by decide +kernel), fun ad j hj => ?_, fun a b => rfl⟩
  rcases (show j = 0 ∨ j = 1 ∨ j = 2 ∨ j = 3 ∨ j = 4 ∨ j = 5 by omega) with rfl | rfl | rfl | rfl | rfl | rfl <;> rfl
theorem JV.zero : JV M00 := ⟨⟨fun _ _ => rfl, fun r hr => absurd hr (Nat.not_lt_zero _)⟩, fun i hi => absurd hi (Nat.not_lt_zero _)⟩
