/-! Objects that are made -/
def dfX0 : List AV := [aN, aN, aN, aN, aN, aN, aZ 0, aZ 0, aZ 0, aZ 0, aZ 0, aZ 0, aZ 0, aZ 0, aZ 0]
def dfX2 : List AV := [aN, aZ 0, aZ 0, aZ 0]
def dfX3 : List AV := [aN, aZ 0, aZ 0]
def dfX4 : List AV := [aN, aZ 0]
def dfX5 : List AV := [aN, aN, aN, aN, aN, aN]
theorem cl_X5_9 : CLK RX5 9 0 15 dfX0 := by
  refine ⟨RX0, TX0, tyX0, rfl, inlX0, tyX0_ok, clk_X5_9, List.mem_of_getElem? (i := 10) (by decide +kernel), List.mem_of_getElem? (i := 11) (by decide +kernel), fun ad j hj => ?_, fun a b => rfl⟩
  rcases (show j = 0 ∨ j = 1 ∨ j = 2 ∨ j = 3 ∨ j = 4 ∨ j = 5 ∨ j = 6 ∨ j = 7 ∨ j = 8 ∨ j = 9 ∨ j = 10 ∨ j = 11 ∨ j = 12 ∨ j = 13 ∨ j = 14 by omega) with rfl | rfl | rfl | rfl | rfl | rfl | rfl | rfl | rfl | rfl | rfl | rfl | rfl | rfl | rfl <;> rfl
theorem cl_X5_16 : CLK RX5 16 2 3 dfX3 := by
  refine ⟨RX3, TX3, tyX3, rfl, inlX3, tyX3_ok, clk_X5_16, List.mem_of_getElem? (i := 14) (by decide +kernel), List.mem_of_getElem? (i := 15) (by decide +kernel), fun ad j hj => ?_, fun a b => rfl⟩
  rcases (show j = 0 ∨ j = 1 ∨ j = 2 by omega) with rfl | rfl | rfl <;> rfl
theorem cl_X5_23 : CLK RX5 23 3 2 dfX4 := by
  refine ⟨RX4, TX4, tyX4, rfl, inlX4, tyX4_ok, clk_X5_23, List.mem_of_getElem? (i := 18) (by decide +kernel), List.mem_of_getElem? (i := 19) (by decide +kernel), fun ad j hj => ?_, fun a b => rfl⟩
  rcases (show j = 0 ∨ j = 1 by omega) with rfl | rfl <;> rfl
theorem cl_X5_30 : CLK RX5 30 1 4 dfX2 := by
  refine ⟨RX2, TX2, tyX2, rfl, inlX2, tyX2_ok, clk_X5_30, List.mem_of_getElem? (i := 22) (by decide +kernel), List.mem_of_getElem? (i := 23) (by decide +kernel), fun ad j hj => ?_, fun a b => rfl⟩
  rcases (show j = 0 ∨ j = 1 ∨ j = 2 ∨ j = 3 by omega) with rfl | rfl | rfl | rfl <;> rfl
theorem cl_X3_9 : CLK RX3 9 0 15 dfX0 := by
  refine ⟨RX0, TX0, tyX0, rfl, inlX0, tyX0_ok, clk_X3_9, List.mem_of_getElem? (i := 10) (by decide +kernel), List.mem_of_getElem? (i := 11) (by decide +kernel), fun ad j hj => ?_, fun a b => rfl⟩
  rcases (show j = 0 ∨ j = 1 ∨ j = 2 ∨ j = 3 ∨ j = 4 ∨ j = 5 ∨ j = 6 ∨ j = 7 ∨ j = 8 ∨ j = 9 ∨ j = 10 ∨ j = 11 ∨ j = 12 ∨ j = 13 ∨ j = 14 by omega) with rfl | rfl | rfl | rfl | rfl | rfl | rfl | rfl | rfl | rfl | rfl | rfl | rfl | rfl | rfl <;> rfl
theorem okL_nil (n : Nat) : ∀ v ∈ ([] : List AV), okV n v := fun v h => by cases h
theorem okL_cons {n : Nat} {v : AV} {L : List AV} (h : okV n v) (hL : ∀ u ∈ L, okV n u) : ∀ u ∈ v :: L, okV n u := fun u hu => by
  rcases List.mem_cons.mp hu with rfl | hu
  · exact h
  · exact hL u hu
theorem okL_set {n k : Nat} {v : AV} {fs : List AV} (h : ∀ u ∈ fs, okV n u) (hv : okV (n + 1) v) : ∀ u ∈ fs.set k v, okV (n + 1) u := fun u hu => by
  rcases List.mem_or_eq_of_mem_set hu with hu | rfl
  · exact (h u hu).mono (Nat.le_succ n)
  · exact hv
theorem okL_set' {n k : Nat} {v : AV} {fs : List AV} (h : ∀ u ∈ fs, okV n u) (hv : okV n v) : ∀ u ∈ fs.set k v, okV n u := fun u hu => by
  rcases List.mem_or_eq_of_mem_set hu with hu | rfl
  · exact h u hu
  · exact hv
theorem clW_fs {n k ci : Nat} {w : Nat → AC} {fs : List AV} (h : clW n w) (hk : k < n) (hw : w k = cObj ci fs) : ∀ u ∈ fs, okV n u := by
  have := h k hk
  rw [hw] at this
  exact this
/-- what is left of the old cells, but one -/
theorem fr_trans {k n : Nat} {w w1 w2 : Nat → AC} (h1 : ∀ j, j < k → w1 j = w j) (h2 : ∀ j, j < k → w2 j = w1 j) : ∀ j, j < k → w2 j = w j := fun j hj => (h2 j hj).trans (h1 j hj)
theorem qi_int {Γ : Gm} {l : Launch} {y : MethodName} {cc : ByteArray} {mL d mc ms : Nat} {pc n : Nat} {L : List AV} {cs : Nat × Nat} {w : Nat → AC} (hΓ : Ok Γ l y cc mL d mc ms) {idx ci i N k0 : Nat} {fs : List AV} (hd1 : decode cc pc = .ok (.newarray .int, 2)) (hd2 : decode cc (pc + 2) = .ok (.putfield idx, 3)) (hf : FLK y.cls idx ci i true (.array .int)) (hi : y.name = "<init>") (hC : ∀ C T N, vwCl[ci]? = some (C, T, N) → C = y.cls) (hN : N < 1000000) (hcs : cs.1 + 1 ≤ mc ∧ cs.2 + N ≤ ms) (hw : clW n w) (hokL : ∀ v ∈ L, okV n v) (hk : k0 < n) (hwk : w k0 = cObj ci fs) (hl : i < fs.length) (kk : ∀ w', clW (n + 1) w' → w' k0 = cObj ci (fs.set i (aR n)) → w' n = cArr 0 N (fun _ => 0) → (∀ j, j ≠ k0 → j ≠ n → w' j = w j) → Γ (pc + 2 + 3) L [] (cs.1 + 1, cs.2 + N) (n + 1) w') : Γ pc L [aZ N, aR k0] cs n w := by
  refine qa_newa_int hΓ hd1 rfl hN hcs hw hokL (okL_cons (okV_R hk) (okL_nil n)) ?_
  refine qa_putF hΓ hd2 hf hi hC (fun ad => ⟨rfl, rfl⟩) (by omega) (by rw [upw_ne _ _ _ (by omega)]; exact hwk) hl ?_
  refine kk _ ?_ (upw_self _ _ _) (by rw [upw_ne _ _ _ (by omega), upw_self]) (fun j h1 h2 => by rw [upw_ne _ _ _ h1, upw_ne _ _ _ h2])
  exact (clW.push (c := cArr 0 N (fun _ => 0)) hw trivial).up (okL_set (clW_fs hw hk hwk) (okV_R (Nat.lt_succ_self n)))
theorem qi_char {Γ : Gm} {l : Launch} {y : MethodName} {cc : ByteArray} {mL d mc ms : Nat} {pc n : Nat} {L : List AV} {cs : Nat × Nat} {w : Nat → AC} (hΓ : Ok Γ l y cc mL d mc ms) {idx ci i N k0 : Nat} {fs : List AV} (hd1 : decode cc pc = .ok (.newarray .char, 2)) (hd2 : decode cc (pc + 2) = .ok (.putfield idx, 3)) (hf : FLK y.cls idx ci i true (.array .char)) (hi : y.name = "<init>") (hC : ∀ C T N, vwCl[ci]? = some (C, T, N) → C = y.cls) (hN : N < 1000000) (hcs : cs.1 + 1 ≤ mc ∧ cs.2 + N ≤ ms) (hw : clW n w) (hokL : ∀ v ∈ L, okV n v) (hk : k0 < n) (hwk : w k0 = cObj ci fs) (hl : i < fs.length) (kk : ∀ w', clW (n + 1) w' → w' k0 = cObj ci (fs.set i (aR n)) → w' n = cArr 2 N (fun _ => 0) → (∀ j, j ≠ k0 → j ≠ n → w' j = w j) → Γ (pc + 2 + 3) L [] (cs.1 + 1, cs.2 + N) (n + 1) w') : Γ pc L [aZ N, aR k0] cs n w := by
  refine qa_newa_char hΓ hd1 rfl hN hcs hw hokL (okL_cons (okV_R hk) (okL_nil n)) ?_
  refine qa_putF hΓ hd2 hf hi hC (fun ad => ⟨rfl, rfl⟩) (by omega) (by rw [upw_ne _ _ _ (by omega)]; exact hwk) hl ?_
  refine kk _ ?_ (upw_self _ _ _) (by rw [upw_ne _ _ _ (by omega), upw_self]) (fun j h1 h2 => by rw [upw_ne _ _ _ h1, upw_ne _ _ _ h2])
  exact (clW.push (c := cArr 2 N (fun _ => 0)) hw trivial).up (okL_set (clW_fs hw hk hwk) (okV_R (Nat.lt_succ_self n)))
theorem qi_ref {Γ : Gm} {l : Launch} {y : MethodName} {cc : ByteArray} {mL d mc ms : Nat} {pc n : Nat} {L : List AV} {cs : Nat × Nat} {w : Nat → AC} (hΓ : Ok Γ l y cc mL d mc ms) {idx idx2 ci i N k0 : Nat} {fs : List AV} (hd1 : decode cc pc = .ok (.anewarray idx2, 3)) (hc : Cond.classLink y.cls idx2 "RelayBank$Bank" ∈ wsL_law) (hd2 : decode cc (pc + 3) = .ok (.putfield idx, 3)) (hf : FLK y.cls idx ci i true (.array (.object "RelayBank$Bank"))) (hi : y.name = "<init>") (hC : ∀ C T N, vwCl[ci]? = some (C, T, N) → C = y.cls) (hN : N < 1000000) (hcs : cs.1 + 1 ≤ mc ∧ cs.2 + N ≤ ms) (hw : clW n w) (hokL : ∀ v ∈ L, okV n v) (hk : k0 < n) (hwk : w k0 = cObj ci fs) (hl : i < fs.length) (kk : ∀ w', clW (n + 1) w' → w' k0 = cObj ci (fs.set i (aR n)) → w' n = cRef N (fun _ => none) → (∀ j, j ≠ k0 → j ≠ n → w' j = w j) → Γ (pc + 3 + 3) L [] (cs.1 + 1, cs.2 + N) (n + 1) w') : Γ pc L [aZ N, aR k0] cs n w := by
  refine qa_newq hΓ hd1 hc rfl hN hcs hw hokL (okL_cons (okV_R hk) (okL_nil n)) ?_
  refine qa_putF hΓ hd2 hf hi hC (fun ad => ⟨rfl, rfl⟩) (by omega) (by rw [upw_ne _ _ _ (by omega)]; exact hwk) hl ?_
  refine kk _ ?_ (upw_self _ _ _) (by rw [upw_ne _ _ _ (by omega), upw_self]) (fun j h1 h2 => by rw [upw_ne _ _ _ h1, upw_ne _ _ _ h2])
  exact (clW.push (c := cRef N (fun _ => none)) hw (fun j i h => by cases h)).up (okL_set (clW_fs hw hk hwk) (okV_R (Nat.lt_succ_self n)))
theorem zA_0 (t N : Nat) : cArr t N (fun _ => 0) = cArr t N (fun j => nI ((fun _ : Nat => 0) j)) := rfl
def bk0 : Bk := fun i _ => if i = 5 then NV else 0
theorem vc0 {C' : String} {C : String} {T : u_T} {N ci : Nat} {q : vw_C} (h0 : vwCl[ci]? = some q) (e : q.1 = C') (h : vwCl[ci]? = some (C, T, N)) : C = C' := by
  rw [h0] at h
  cases h
  exact e
theorem ok_dfX0 : ∀ v ∈ dfX0, okV 0 v := okL_cons (okV_N 0) (okL_cons (okV_N 0) (okL_cons (okV_N 0) (okL_cons (okV_N 0) (okL_cons (okV_N 0) (okL_cons (okV_N 0) (okL_cons (okV_I 0 _) (okL_cons (okV_I 0 _) (okL_cons (okV_I 0 _) (okL_cons (okV_I 0 _) (okL_cons (okV_I 0 _) (okL_cons (okV_I 0 _) (okL_cons (okV_I 0 _) (okL_cons (okV_I 0 _) (okL_cons (okV_I 0 _) (okL_nil 0)))))))))))))))
theorem ok_dfX2 : ∀ v ∈ dfX2, okV 0 v := okL_cons (okV_N 0) (okL_cons (okV_I 0 _) (okL_cons (okV_I 0 _) (okL_cons (okV_I 0 _) (okL_nil 0))))
theorem ok_dfX3 : ∀ v ∈ dfX3, okV 0 v := okL_cons (okV_N 0) (okL_cons (okV_I 0 _) (okL_cons (okV_I 0 _) (okL_nil 0)))
theorem ok_dfX4 : ∀ v ∈ dfX4, okV 0 v := okL_cons (okV_N 0) (okL_cons (okV_I 0 _) (okL_nil 0))
theorem ok_dfX5 : ∀ v ∈ dfX5, okV 0 v := okL_cons (okV_N 0) (okL_cons (okV_N 0) (okL_cons (okV_N 0) (okL_cons (okV_N 0) (okL_cons (okV_N 0) (okL_cons (okV_N 0) (okL_nil 0))))))
set_option maxRecDepth 100000 in
set_option maxHeartbeats 4000000 in
theorem c_X0_init (l : Launch) (d : Nat) (hd : 1 ≤ d) {k : Nat} {w : Nat → AC} (hw : clW (k + 1) w) (hk : w k = cObj 0 dfX0) : Sp l yX0_init cX0_init 2 none d 6 96 [aR k] (k + 1) w (fun r n' w' => r = none ∧ n' = k + 7 ∧ clW (k + 7) w' ∧ BkAt (k + 7) w' k bk0 ∧ ∀ j, j < k → w' j = w j) := by
  refine Sp.of (by decide) (Nat.le_of_ble_eq_true rfl) (fun Γ hΓ hR => ?_)
  show Γ 0 [aR k, none] [] (0, 0) (k + 1) w
  have hV : ∀ C T N, vwCl[0]? = some (C, T, N) → C = yX0_init.cls := fun C T N h => vc0 (ci := 0) rfl rfl h
  refine qa_aload_n hΓ dX0_init_0 rfl ?_
  refine qa_objInit hΓ dX0_init_1 lk_X0_3 hd (Nat.zero_le _) ?_
  have hL : ∀ m, k < m → ∀ v ∈ [aR k, (none : AV)], okV m v := fun m hm => okL_cons (okV_R hm) (okL_cons (okV_0 m) (okL_nil m))
  refine qa_aload_n hΓ dX0_init_4 rfl ?_
  refine qa_bipush (v := nI 8) hΓ dX0_init_5 bp_8 ?_
  refine qi_int hΓ dX0_init_7 dX0_init_9 fk_X0_9 rfl hV (by decide) ⟨by decide, by decide⟩ hw (hL _ (by omega)) (by omega) hk (by simp [dfX0]) (fun w1 hw1 hk1 ha0 hf0 => ?_)
  refine qa_aload_n hΓ dX0_init_12 rfl ?_
  refine qa_bipush (v := nI 8) hΓ dX0_init_13 bp_8 ?_
  refine qi_int hΓ dX0_init_15 dX0_init_17 fk_X0_15 rfl hV (by decide) ⟨by decide, by decide⟩ hw1 (hL _ (by omega)) (by omega) hk1 (by simp [dfX0]) (fun w2 hw2 hk2 ha1 hf1 => ?_)
  refine qa_aload_n hΓ dX0_init_20 rfl ?_
  refine qa_bipush (v := nI 8) hΓ dX0_init_21 bp_8 ?_
  refine qi_int hΓ dX0_init_23 dX0_init_25 fk_X0_18 rfl hV (by decide) ⟨by decide, by decide⟩ hw2 (hL _ (by omega)) (by omega) hk2 (by simp [dfX0]) (fun w3 hw3 hk3 ha2 hf2 => ?_)
  refine qa_aload_n hΓ dX0_init_28 rfl ?_
  refine qa_bipush (v := nI 8) hΓ dX0_init_29 bp_8 ?_
  refine qi_int hΓ dX0_init_31 dX0_init_33 fk_X0_21 rfl hV (by decide) ⟨by decide, by decide⟩ hw3 (hL _ (by omega)) (by omega) hk3 (by simp [dfX0]) (fun w4 hw4 hk4 ha3 hf3 => ?_)
  refine qa_aload_n hΓ dX0_init_36 rfl ?_
  refine qa_bipush (v := nI 48) hΓ dX0_init_37 bp_48 ?_
  refine qi_int hΓ dX0_init_39 dX0_init_41 fk_X0_24 rfl hV (by decide) ⟨by decide, by decide⟩ hw4 (hL _ (by omega)) (by omega) hk4 (by simp [dfX0]) (fun w5 hw5 hk5 ha4 hf4 => ?_)
  refine qa_aload_n hΓ dX0_init_44 rfl ?_
  refine qa_bipush (v := nI 16) hΓ dX0_init_45 bp_16 ?_
  refine qi_int hΓ dX0_init_47 dX0_init_49 fk_X0_27 rfl hV (by decide) ⟨by decide, by decide⟩ hw5 (hL _ (by omega)) (by omega) hk5 (by simp [dfX0]) (fun w6 hw6 hk6 ha5 hf5 => ?_)
  have hr0 : w6 (k + 1) = zA 8 (fun _ => 0) := by rw [hf5 _ (by omega) (by omega), hf4 _ (by omega) (by omega), hf3 _ (by omega) (by omega), hf2 _ (by omega) (by omega), hf1 _ (by omega) (by omega)]; exact ha0
  have hr1 : w6 (k + 2) = zA 8 (fun _ => 0) := by rw [hf5 _ (by omega) (by omega), hf4 _ (by omega) (by omega), hf3 _ (by omega) (by omega), hf2 _ (by omega) (by omega)]; exact ha1
  have hr2 : w6 (k + 3) = zA 8 (fun _ => 0) := by rw [hf5 _ (by omega) (by omega), hf4 _ (by omega) (by omega), hf3 _ (by omega) (by omega)]; exact ha2
  have hr3 : w6 (k + 4) = zA 8 (fun _ => 0) := by rw [hf5 _ (by omega) (by omega), hf4 _ (by omega) (by omega)]; exact ha3
  have hr4 : w6 (k + 5) = zA 48 (fun _ => 0) := by rw [hf5 _ (by omega) (by omega)]; exact ha4
  have hr5 : w6 (k + 6) = zA 16 (fun _ => 0) := ha5
  have hro : w6 k = bkObj k bk0 := hk6
  have hold : ∀ j, j < k → w6 j = w j := fun j hj => by rw [hf5 _ (by omega) (by omega), hf4 _ (by omega) (by omega), hf3 _ (by omega) (by omega), hf2 _ (by omega) (by omega), hf1 _ (by omega) (by omega), hf0 _ (by omega) (by omega)]
  have loop : ∀ (m i : Nat) (w1 : Nat → AC), i + m = 16 → w1 (k + 6) = zA 16 (fun j => if j < i then NV else 0) → clW (k + 7) w1 → (∀ j, j ≠ k + 6 → w1 j = w6 j) → Γ 54 [aR k, aZ i] [] (6, 96) (k + 7) w1 := by
    intro m
    induction m with
    | zero =>
      intro i w1 him ha hcl hfr
      refine qa_iload_n hΓ dX0_init_54 rfl ?_
      refine qa_aload_n hΓ dX0_init_55 rfl ?_
      refine qa_get hΓ dX0_init_56 fk_X0_27 (by omega) ((hfr k (by omega)).trans hro) rfl ?_
      refine qa_alen hΓ dX0_init_59 (by omega) ha (by decide) rfl ?_
      refine qz_icmp_ge (tgt := 77) hΓ dX0_init_60 (by decide) (by omega) (by decide) (fun _ => ?_) (fun h => absurd h (by omega))
      refine qa_ext (w' := upw w1 (k + 6) (zA 16 (fun _ => NV))) hΓ (fun j hj => ?_) ?_
      · by_cases e : j = k + 6
        · subst e
          rw [upw_self, ha]
          exact Or.inr ⟨_, _, _, _, rfl, rfl, fun j hj => by show nI (if j < i then NV else 0) = nI NV; rw [if_pos (by omega)]⟩
        · rw [upw_ne _ _ _ e]
          exact Or.inl rfl
      · refine hR.2.1 _ _ _ _ _ dX0_init_77 rfl (Nat.le_refl _) (Nat.le_refl _) ⟨rfl, rfl, hcl.up trivial, ⟨Nat.le_refl _, ?_, fun i hi => ?_⟩, fun j hj => by rw [upw_ne _ _ _ (by omega), hfr _ (by omega)]; exact hold j hj⟩
        · rw [upw_ne _ _ _ (by omega), hfr _ (by omega)]
          exact hro
        · rcases (show i = 0 ∨ i = 1 ∨ i = 2 ∨ i = 3 ∨ i = 4 ∨ i = 5 by omega) with rfl | rfl | rfl | rfl | rfl | rfl
          · rw [upw_ne _ _ _ (by omega), hfr _ (by omega)]; exact hr0
          · rw [upw_ne _ _ _ (by omega), hfr _ (by omega)]; exact hr1
          · rw [upw_ne _ _ _ (by omega), hfr _ (by omega)]; exact hr2
          · rw [upw_ne _ _ _ (by omega), hfr _ (by omega)]; exact hr3
          · rw [upw_ne _ _ _ (by omega), hfr _ (by omega)]; exact hr4
          · exact upw_self _ _ _
    | succ m ih =>
      intro i w1 him ha hcl hfr
      refine qa_iload_n hΓ dX0_init_54 rfl ?_
      refine qa_aload_n hΓ dX0_init_55 rfl ?_
      refine qa_get hΓ dX0_init_56 fk_X0_27 (by omega) ((hfr k (by omega)).trans hro) rfl ?_
      refine qa_alen hΓ dX0_init_59 (by omega) ha (by decide) rfl ?_
      refine qz_icmp_ge (tgt := 77) hΓ dX0_init_60 (by decide) (by omega) (by decide) (fun h => absurd h (by omega)) (fun _ => ?_)
      refine qa_aload_n hΓ dX0_init_63 rfl ?_
      refine qa_get hΓ dX0_init_64 fk_X0_27 (by omega) ((hfr k (by omega)).trans hro) rfl ?_
      refine qa_iload_n hΓ dX0_init_67 rfl ?_
      refine qa_ldc (v := nI NV) hΓ dX0_init_68 ck_X0_30 ?_
      refine qz_iast hΓ dX0_init_70 (by omega) ha (by omega) (by decide) ?_
      refine qz_iinc hΓ dX0_init_71 ii_1 rfl (by decide) ?_
      refine qa_goto (tgt := 54) hΓ dX0_init_74 (by decide) ?_
      refine ih (i + 1) _ (by omega) ?_ (hcl.up trivial) (fun j hj => by rw [upw_ne _ _ _ hj]; exact hfr j hj)
      rw [upw_self]
      congr 3
      funext j
      by_cases e : j = i
      · subst e
        rw [upN_self, if_pos (by omega)]
      · rw [upN_ne _ _ _ e]
        by_cases e2 : j < i
        · rw [if_pos e2, if_pos (by omega)]
        · rw [if_neg e2, if_neg (by omega)]
  refine qa_iconst (v := nI 0) hΓ dX0_init_52 ic_0 ?_
  refine qa_istore_n hΓ dX0_init_53 (by decide) ?_
  refine loop 16 0 w6 (by omega) ?_ hw6 (fun _ _ => rfl)
  rw [hr5]
  rfl
set_option maxRecDepth 100000 in
set_option maxHeartbeats 4000000 in
theorem c_X4_init (l : Launch) (d : Nat) (hd : 1 ≤ d) {k : Nat} {w : Nat → AC} (hw : clW (k + 1) w) (hk : w k = cObj 3 dfX4) : Sp l yX4_init cX4_init 1 none d 1 60 [aR k] (k + 1) w (fun r n' w' => r = none ∧ n' = k + 2 ∧ clW (k + 2) w' ∧ XtAt (k + 2) w' k (fun _ => 0) 0 ∧ ∀ j, j < k → w' j = w j) := by
  refine Sp.of (by decide) (Nat.le_of_ble_eq_true rfl) (fun Γ hΓ hR => ?_)
  show Γ 0 [aR k] [] (0, 0) (k + 1) w
  refine qa_aload_n hΓ dX4_init_0 rfl ?_
  refine qa_objInit hΓ dX4_init_1 lk_X4_3 hd (Nat.zero_le _) ?_
  refine qa_aload_n hΓ dX4_init_4 rfl ?_
  refine qa_bipush (v := nI 60) hΓ dX4_init_5 bp_60 ?_
  refine qi_char hΓ dX4_init_7 dX4_init_9 fk_X4_9 rfl (fun C T N h => vc0 (ci := 3) rfl rfl h) (by decide) ⟨by decide, by decide⟩ hw (okL_cons (okV_R (by omega)) (okL_nil _)) (by omega) hk (by decide) (fun w1 hw1 hk1 ha hf => ?_)
  exact hR.2.1 _ _ _ _ _ dX4_init_12 rfl (Nat.le_refl _) (Nat.le_refl _) ⟨rfl, rfl, hw1, ⟨Nat.le_refl _, hk1, ha⟩, fun j hj => hf j (by omega) (by omega)⟩
set_option maxRecDepth 100000 in
set_option maxHeartbeats 4000000 in
theorem c_X2_init (l : Launch) (d : Nat) (hd : 1 ≤ d) {k : Nat} {w : Nat → AC} (hw : clW (k + 1) w) (hk : w k = cObj 1 dfX2) : Sp l yX2_init cX2_init 1 none d 1 6 [aR k] (k + 1) w (fun r n' w' => r = none ∧ n' = k + 2 ∧ clW (k + 2) w' ∧ RdAt (k + 2) w' k (fun _ => 0) 0 0 0 ∧ ∀ j, j < k → w' j = w j) := by
  refine Sp.of (by decide) (Nat.le_of_ble_eq_true rfl) (fun Γ hΓ hR => ?_)
  show Γ 0 [aR k] [] (0, 0) (k + 1) w
  refine qa_aload_n hΓ dX2_init_0 rfl ?_
  refine qa_objInit hΓ dX2_init_1 lk_X2_3 hd (Nat.zero_le _) ?_
  refine qa_aload_n hΓ dX2_init_4 rfl ?_
  refine qa_bipush (v := nI 6) hΓ dX2_init_5 bp_6 ?_
  refine qi_int hΓ dX2_init_7 dX2_init_9 fk_X2_9 rfl (fun C T N h => vc0 (ci := 1) rfl rfl h) (by decide) ⟨by decide, by decide⟩ hw (okL_cons (okV_R (by omega)) (okL_nil _)) (by omega) hk (by decide) (fun w1 hw1 hk1 ha hf => ?_)
  exact hR.2.1 _ _ _ _ _ dX2_init_12 rfl (Nat.le_refl _) (Nat.le_refl _) ⟨rfl, rfl, hw1, ⟨Nat.le_refl _, hk1, ha⟩, fun j hj => hf j (by omega) (by omega)⟩
set_option maxRecDepth 100000 in
set_option maxHeartbeats 4000000 in
theorem c_X3_init (l : Launch) (d : Nat) (hd : 2 ≤ d) {w : Nat → AC} (hw : clW 9 w) (hk : w 8 = cObj 2 dfX3) : Sp l yX3_init cX3_init 2 none d 43 672 [aR 8] 9 w (fun r n' w' => r = none ∧ n' = 52 ∧ clW 52 w' ∧ PaAt 52 w' 0 0 (fun _ => bk0) ∧ ∀ j, j < 8 → w' j = w j) := by
  refine Sp.of (by decide) (Nat.le_of_ble_eq_true rfl) (fun Γ hΓ hR => ?_)
  show Γ 0 [aR 8, none] [] (0, 0) 9 w
  refine qa_aload_n hΓ dX3_init_0 rfl ?_
  refine qa_objInit hΓ dX3_init_1 lk_X3_3 (by omega) (Nat.zero_le _) ?_
  refine qa_aload_n hΓ dX3_init_4 rfl ?_
  refine qa_bipush (v := nI 6) hΓ dX3_init_5 bp_6 ?_
  refine qi_ref hΓ dX3_init_7 clk_X3_9 dX3_init_10 fk_X3_11 rfl (fun C T N h => vc0 (ci := 2) rfl rfl h) (by decide) ⟨by decide, by decide⟩ hw (okL_cons (okV_R (by decide)) (okL_cons (okV_0 _) (okL_nil _))) (by decide) hk (by decide) (fun w0 hw0 hk0 ha0 hf0 => ?_)
  have loop : ∀ (m i : Nat) (w1 : Nat → AC) (f : Nat → Option Nat), i + m = 6 → clW (10 + 7 * i) w1 → w1 8 = cObj 2 [aR 9, aZ 0, aZ 0] → w1 9 = cRef 6 f → (∀ j, j < i → f j = some (10 + 7 * j)) → (∀ j, j < i → BkAt (10 + 7 * i) w1 (10 + 7 * j) bk0) → (∀ j, j < 8 → w1 j = w j) → Γ 15 [aR 8, aZ i] [] (1 + 7 * i, 6 + 111 * i) (10 + 7 * i) w1 := by
    intro m
    induction m with
    | zero =>
      intro i w1 f him hcl h8 h9 hfi hb hfr
      have hi6 : i = 6 := by omega
      subst hi6
      refine qa_iload_n (L := [aR 8, aZ 6]) (j := 1) (x := nI 6) hΓ dX3_init_15 rfl ?_
      refine qa_aload_n hΓ dX3_init_16 rfl ?_
      refine qa_get hΓ dX3_init_17 fk_X3_11 (by decide) h8 rfl ?_
      refine qa_alenR hΓ dX3_init_20 (by decide) h9 rfl ?_
      refine qz_icmp_ge (tgt := 43) hΓ dX3_init_21 (by decide) (by decide) (by decide) (fun _ => ?_) (fun h => absurd h (by decide))
      exact hR.2.1 _ _ _ _ _ dX3_init_43 rfl (by decide) (by decide) ⟨rfl, rfl, hcl, ⟨h8, ⟨f, h9, hfi⟩, hb, by decide, by decide⟩, hfr⟩
    | succ m ih =>
      intro i w1 f him hcl h8 h9 hfi hb hfr
      refine qa_iload_n (L := [aR 8, aZ i]) (j := 1) (x := nI i) hΓ dX3_init_15 rfl ?_
      refine qa_aload_n hΓ dX3_init_16 rfl ?_
      refine qa_get hΓ dX3_init_17 fk_X3_11 (by omega) h8 rfl ?_
      refine qa_alenR hΓ dX3_init_20 (by omega) h9 rfl ?_
      refine qz_icmp_ge (tgt := 43) hΓ dX3_init_21 (by decide) (by omega) (by decide) (fun h => absurd h (by omega)) (fun _ => ?_)
      refine qa_aload_n hΓ dX3_init_24 rfl ?_
      refine qa_get hΓ dX3_init_25 fk_X3_11 (by omega) h8 rfl ?_
      refine qa_iload_n hΓ dX3_init_28 rfl ?_
      have hL : ∀ m, 9 < m → ∀ v ∈ [aR 8, aZ i], okV m v := fun m hm => okL_cons (okV_R (by omega)) (okL_cons (okV_I m _) (okL_nil m))
      have hS : ∀ m, 9 < m → ∀ v ∈ [aZ i, aR 9], okV m v := fun m hm => okL_cons (okV_I m _) (okL_cons (okV_R (by omega)) (okL_nil m))
      refine qa_new hΓ dX3_init_29 cl_X3_9 ⟨by show 1 + 7 * i + 1 ≤ 43; omega, by show 6 + 111 * i + 15 ≤ 672; omega⟩ hcl (hL _ (by omega)) (hS _ (by omega)) ?_
      refine qa_dup hΓ dX3_init_32 ?_
      obtain ⟨w2, hw2⟩ : ∃ X, X = upw w1 (10 + 7 * i) (cObj 0 dfX0) := ⟨_, rfl⟩
      have hcl2 : clW (10 + 7 * i + 1) w2 := by
        rw [hw2]
        refine hcl.push (fun v hv => ?_)
        exact (ok_dfX0 v hv).mono (Nat.zero_le _)
      have h2s : w2 (10 + 7 * i) = cObj 0 dfX0 := by rw [hw2]; exact upw_self _ _ _
      have h2o : ∀ j, j ≠ 10 + 7 * i → w2 j = w1 j := fun j hj => by rw [hw2]; exact upw_ne _ _ _ hj
      rw [← hw2]
      refine qa_callI hΓ dX3_init_33 lk_X3_17 iw_X0_init (c_X0_init l (d - 1) (by omega) hcl2 h2s) (by omega) rfl rfl (Nat.le_of_ble_eq_true rfl) ⟨by show 1 + 7 * i + 1 + 6 ≤ 43; omega, by show 6 + 111 * i + 15 + 96 ≤ 672; omega⟩ (fun r n' w' h => h.1) (hL _ (by omega)) (okL_cons (okV_R (by omega)) (hS _ (by omega))) (fun n' w3 hn h => ?_)
      obtain ⟨-, rfl, hcl3, hB3, hfr3⟩ := h
      refine qa_aast hΓ (ci := 0) dX3_init_36 (by omega) ((hfr3 9 (by omega)).trans ((h2o 9 (by omega)).trans h9)) (by omega) hB3.o (vp_in_nI (by omega) (by decide)) ?_
      rw [nI_clamp (by omega)]
      refine qz_iinc hΓ dX3_init_37 ii_1 rfl (by decide) ?_
      refine qa_goto (tgt := 15) hΓ dX3_init_40 (by decide) ?_
      show Γ 15 [aR 8, aZ (i + 1)] [] (1 + 7 * i + 1 + 6, 6 + 111 * i + 15 + 96) (10 + 7 * i + 7) _
      rw [show 1 + 7 * i + 1 + 6 = 1 + 7 * (i + 1) by omega, show 6 + 111 * i + 15 + 96 = 6 + 111 * (i + 1) by omega, show 10 + 7 * i + 7 = 10 + 7 * (i + 1) by omega]
      rw [show 10 + 7 * i + 7 = 10 + 7 * (i + 1) by omega] at hcl3 hB3
      refine ih (i + 1) _ (va_up f i (some (10 + 7 * i))) (by omega) (hcl3.up (fun j q h => ?_)) ?_ (upw_self _ _ _) (fun j hj => ?_) (fun j hj => ?_) (fun j hj => ?_)
      · have h9c := hcl 9 (by omega)
        rw [h9] at h9c
        unfold va_up at h
        split at h
        · cases h
          omega
        · have := h9c j q h
          omega
      · rw [upw_ne _ _ _ (by decide), hfr3 8 (by omega), h2o 8 (by omega)]
        exact h8
      · unfold va_up
        by_cases e : j = i
        · subst e
          rw [if_pos rfl]
        · rw [if_neg e]
          exact hfi j (by omega)
      · have hF : Fr 9 1 w3 (upw w3 9 (cRef 6 (va_up f i (some (10 + 7 * i))))) := Fr.up (by omega) (by omega)
        by_cases e : j = i
        · subst e
          exact hB3.ofFr hF (by omega)
        · refine BkAt.ofFr ?_ hF (by omega)
          obtain ⟨b1, b2, b3⟩ := hb j (by omega)
          refine ⟨by omega, ?_, fun i' hi' => ?_⟩
          · rw [hfr3 _ (by omega), h2o _ (by omega)]
            exact b2
          · rw [hfr3 _ (by omega), h2o _ (by omega)]
            exact b3 i' hi'
      · rw [upw_ne _ _ _ (by omega), hfr3 _ (by omega), h2o _ (by omega)]
        exact hfr j hj
  refine qa_iconst (v := nI 0) hΓ dX3_init_13 ic_0 ?_
  refine qa_istore_n hΓ dX3_init_14 (by decide) ?_
  exact loop 6 0 w0 _ (by omega) hw0 hk0 ha0 (fun j hj => absurd hj (by omega)) (fun j hj => absurd hj (by omega)) (fun j hj => hf0 j (by omega) (by omega))
