/-! The class: an object of it is made -/
theorem BkAt.keep {n n' k : Nat} {w w' : Nat → AC} {b : Bk} (h : BkAt n w k b) (hn : n ≤ n') (hF : ∀ j, k ≤ j → j < k + 7 → w' j = w j) : BkAt n' w' k b := ⟨by have := h.1; omega, (hF k (by omega) (by omega)).trans h.2.1, fun i hi => (hF _ (by omega) (by omega)).trans (h.2.2 i hi)⟩
theorem PaAt.keep {n n' ol sz : Nat} {w w' : Nat → AC} {p : Nat → Bk} (h : PaAt n w ol sz p) (hn : n ≤ n') (hF : ∀ j, 8 ≤ j → j < 52 → w' j = w j) : PaAt n' w' ol sz p := ⟨(hF 8 (by omega) (by omega)).trans h.1, ⟨h.2.1.choose, (hF 9 (by omega) (by omega)).trans h.2.1.choose_spec.1, h.2.1.choose_spec.2⟩, fun i hi => (h.2.2.1 i hi).keep hn (fun j h1 h2 => hF j (by omega) (by omega)), h.2.2.2⟩
theorem XtAt.keep {n n' k N : Nat} {w w' : Nat → AC} {T : Nat → Nat} (h : XtAt n w k T N) (hn : n ≤ n') (hF : ∀ j, k ≤ j → j < k + 2 → w' j = w j) : XtAt n' w' k T N := ⟨by have := h.1; omega, (hF k (by omega) (by omega)).trans h.2.1, (hF _ (by omega) (by omega)).trans h.2.2⟩
theorem RdAt.keep {n n' k z R q : Nat} {w w' : Nat → AC} {g : Nat → Nat} (h : RdAt n w k g z R q) (hn : n ≤ n') (hF : ∀ j, k ≤ j → j < k + 2 → w' j = w j) : RdAt n' w' k g z R q := ⟨by have := h.1; omega, (hF k (by omega) (by omega)).trans h.2.1, (hF _ (by omega) (by omega)).trans h.2.2⟩
theorem WX.keep {n n' : Nat} {w w' : Nat → AC} {b : Bk} {ol sz : Nat} {p : Nat → Bk} {T : Nat → Nat} {N : Nat} {g : Nat → Nat} {z R q : Nat} {c1 c2 : Bk} (h : WX n w b ol sz p T N g z R q c1 c2) (hn : n ≤ n') (hF : ∀ j, j < 70 → w' j = w j) : WX n' w' b ol sz p T N g z R q c1 c2 := ⟨(hF 0 (by decide)).trans h.1, h.now.keep hn (fun j _ h2 => hF j (by omega)), h.past.keep hn (fun j _ h2 => hF j (by omega)), h.text.keep hn (fun j _ h2 => hF j (by omega)), h.rdr.keep hn (fun j _ h2 => hF j (by omega)), h.chg.keep hn (fun j _ h2 => hF j (by omega)), h.tri.keep hn (fun j _ h2 => hF j (by omega)), h.gl⟩
theorem CW.fr {M : Bk} {B n m : Nat} {w w' : Nat → AC} (h : CW M B n w) (hF : Fr 70 m w w') : CW M B n w' := by
  obtain ⟨b, ol, p, g, z, R, q, c1, c2, hZ, hX⟩ := h
  exact ⟨b, ol, p, g, z, R, q, c1, c2, hZ.ofFr hF (Nat.le_refl _), hX⟩
def M00 : Bk := fun _ _ => 0
theorem CW.zero {n : Nat} {w : Nat → AC} (h : WX n w bk0 0 0 (fun _ => bk0) (fun _ => 0) 0 (fun _ => 0) 0 0 0 bk0 bk0) : CW M00 0 n w := by
  refine ⟨bk0, 0, fun _ => bk0, fun _ => 0, 0, 0, 0, bk0, bk0, h, ?_, fun r hr => ?_, fun r hr => ?_, ?_, ?_, fun i hi => ?_, ?_, fun j => ?_⟩
  · exact ⟨⟨rfl, rfl, rfl⟩, fun r hr => absurd hr (Nat.not_lt_zero r), ⟨rfl, rfl, rfl, rfl, rfl, rfl⟩, fun r hr => absurd hr (Nat.not_lt_zero r), fun r _ _ => ⟨rfl, rfl, rfl⟩⟩
  · exact absurd hr (Nat.not_lt_zero r)
  · exact absurd hr (Nat.not_lt_zero r)
  · exact ⟨by show 0 < 256; decide, Nat.zero_le _, Nat.le_refl _, fun r hr => absurd hr (Nat.not_lt_zero r)⟩
  · exact Nat.zero_le _
  · exact absurd hi (Nat.not_lt_zero i)
  · exact Nat.zero_le _
  · show 0 < 256
    decide
set_option maxRecDepth 100000 in
set_option maxHeartbeats 4000000 in
theorem c_X5_init (l : Launch) (d : Nat) (hd : 3 ≤ d) {w : Nat → AC} (hw0 : clW 1 w) (hk0 : w 0 = cObj 4 dfX5) : Sp l yX5_init cX5_init 1 none d 69 1080 [aR 0] 1 w (fun r n' w' => r = none ∧ n' = 70 ∧ clW 70 w' ∧ WX 70 w' bk0 0 0 (fun _ => bk0) (fun _ => 0) 0 (fun _ => 0) 0 0 0 bk0 bk0) := by
  refine Sp.of (by decide) (Nat.le_of_ble_eq_true rfl) (fun Γ hΓ hR => ?_)
  show Γ 0 [aR 0] [] (0, 0) 1 w
  have hV : ∀ C T N, vwCl[4]? = some (C, T, N) → C = yX5_init.cls := fun C T N h => vc0 (ci := 4) rfl rfl h
  have hL : ∀ m, 0 < m → ∀ v ∈ [aR 0], okV m v := fun m hm => okL_cons (okV_R hm) (okL_nil m)
  have hL2 : ∀ m k, 0 < m → k < m → ∀ v ∈ [aR k, aR 0], okV m v := fun m k hm hk => okL_cons (okV_R hk) (hL m hm)
  refine qa_aload_n hΓ dX5_init_0 rfl ?_
  refine qa_objInit hΓ dX5_init_1 lk_X5_3 (by omega) (Nat.zero_le _) ?_
  obtain ⟨w0, hww⟩ : ∃ X, X = w := ⟨_, rfl⟩
  rw [← hww] at hw0 hk0 ⊢
  refine qa_aload_n hΓ dX5_init_4 rfl ?_
  refine qa_new hΓ dX5_init_5 cl_X5_9 ⟨by decide, by decide⟩ hw0 (hL _ (by decide)) (hL _ (by decide)) ?_
  refine qa_dup hΓ dX5_init_8 ?_
  obtain ⟨u0, hu0⟩ : ∃ X, X = upw w0 1 (cObj 0 dfX0) := ⟨_, rfl⟩
  have hclu0 : clW 2 u0 := by rw [hu0]; exact hw0.push (fun v hv => (ok_dfX0 v hv).mono (Nat.zero_le _))
  have hsu0 : u0 1 = cObj 0 dfX0 := by rw [hu0]; exact upw_self _ _ _
  have hou0 : ∀ j, j ≠ 1 → u0 j = w0 j := fun j hj => by rw [hu0]; exact upw_ne _ _ _ hj
  rw [← hu0]
  refine qa_callI hΓ dX5_init_9 lk_X5_11 iw_X0_init (c_X0_init l (d - 1) (by omega) hclu0 hsu0) (by omega) rfl rfl (Nat.le_of_ble_eq_true rfl) ⟨by decide, by decide⟩ (fun r n' w' h => h.1) (hL _ (by decide)) (hL2 _ _ (by decide) (by decide)) (fun n' v0 hn h => ?_)
  obtain ⟨-, rfl, hclv0, hD0, hfrv0⟩ := h
  have h0v0 : v0 0 = cObj 4 (dfX5) := (hfrv0 0 (by decide)).trans ((hou0 0 (by decide)).trans hk0)
  refine qa_putF hΓ dX5_init_12 fk_X5_12 rfl hV (fun ad => ⟨rfl, rfl⟩) (by decide) h0v0 (by decide) ?_
  obtain ⟨w1, ew1⟩ : ∃ X, X = upw v0 0 (cObj 4 ((dfX5).set 0 (aR 1))) := ⟨_, rfl⟩
  have hw1 : clW 8 w1 := by rw [ew1]; exact hclv0.up (okL_set' (clW_fs hclv0 (by decide) h0v0) (okV_R (by decide)))
  have hk1 : w1 0 = cObj 4 ((dfX5).set 0 (aR 1)) := by rw [ew1]; exact upw_self _ _ _
  have hv1 : ∀ j, 1 ≤ j → w1 j = v0 j := fun j hj => by rw [ew1]; exact upw_ne _ _ _ (by omega)
  have ho1 : ∀ j, 1 ≤ j → j < 1 → w1 j = w0 j := fun j h1 h2 => by rw [hv1 j h1, hfrv0 j (by omega), hou0 j (by omega)]
  show Γ 15 [aR 0] [] (7, 111) 8 (upw v0 0 (cObj 4 ((dfX5).set 0 (aR 1))))
  rw [← ew1]
  refine qa_aload_n hΓ dX5_init_15 rfl ?_
  refine qa_new hΓ dX5_init_16 cl_X5_16 ⟨by decide, by decide⟩ hw1 (hL _ (by decide)) (hL _ (by decide)) ?_
  refine qa_dup hΓ dX5_init_19 ?_
  obtain ⟨u1, hu1⟩ : ∃ X, X = upw w1 8 (cObj 2 dfX3) := ⟨_, rfl⟩
  have hclu1 : clW 9 u1 := by rw [hu1]; exact hw1.push (fun v hv => (ok_dfX3 v hv).mono (Nat.zero_le _))
  have hsu1 : u1 8 = cObj 2 dfX3 := by rw [hu1]; exact upw_self _ _ _
  have hou1 : ∀ j, j ≠ 8 → u1 j = w1 j := fun j hj => by rw [hu1]; exact upw_ne _ _ _ hj
  rw [← hu1]
  refine qa_callI hΓ dX5_init_20 lk_X5_18 iw_X3_init (c_X3_init l (d - 1) (by omega) hclu1 hsu1) (by omega) rfl rfl (Nat.le_of_ble_eq_true rfl) ⟨by decide, by decide⟩ (fun r n' w' h => h.1) (hL _ (by decide)) (hL2 _ _ (by decide) (by decide)) (fun n' v1 hn h => ?_)
  obtain ⟨-, rfl, hclv1, hD1, hfrv1⟩ := h
  have h0v1 : v1 0 = cObj 4 ((dfX5).set 0 (aR 1)) := (hfrv1 0 (by decide)).trans ((hou1 0 (by decide)).trans hk1)
  refine qa_putF hΓ dX5_init_23 fk_X5_19 rfl hV (fun ad => ⟨rfl, rfl⟩) (by decide) h0v1 (by decide) ?_
  obtain ⟨w2, ew2⟩ : ∃ X, X = upw v1 0 (cObj 4 (((dfX5).set 0 (aR 1)).set 1 (aR 8))) := ⟨_, rfl⟩
  have hw2 : clW 52 w2 := by rw [ew2]; exact hclv1.up (okL_set' (clW_fs hclv1 (by decide) h0v1) (okV_R (by decide)))
  have hk2 : w2 0 = cObj 4 (((dfX5).set 0 (aR 1)).set 1 (aR 8)) := by rw [ew2]; exact upw_self _ _ _
  have hv2 : ∀ j, 1 ≤ j → w2 j = v1 j := fun j hj => by rw [ew2]; exact upw_ne _ _ _ (by omega)
  have ho2 : ∀ j, 1 ≤ j → j < 8 → w2 j = w1 j := fun j h1 h2 => by rw [hv2 j h1, hfrv1 j (by omega), hou1 j (by omega)]
  show Γ 26 [aR 0] [] (51, 786) 52 (upw v1 0 (cObj 4 (((dfX5).set 0 (aR 1)).set 1 (aR 8))))
  rw [← ew2]
  refine qa_aload_n hΓ dX5_init_26 rfl ?_
  refine qa_new hΓ dX5_init_27 cl_X5_23 ⟨by decide, by decide⟩ hw2 (hL _ (by decide)) (hL _ (by decide)) ?_
  refine qa_dup hΓ dX5_init_30 ?_
  obtain ⟨u2, hu2⟩ : ∃ X, X = upw w2 52 (cObj 3 dfX4) := ⟨_, rfl⟩
  have hclu2 : clW 53 u2 := by rw [hu2]; exact hw2.push (fun v hv => (ok_dfX4 v hv).mono (Nat.zero_le _))
  have hsu2 : u2 52 = cObj 3 dfX4 := by rw [hu2]; exact upw_self _ _ _
  have hou2 : ∀ j, j ≠ 52 → u2 j = w2 j := fun j hj => by rw [hu2]; exact upw_ne _ _ _ hj
  rw [← hu2]
  refine qa_callIN hΓ dX5_init_31 nk_X5_25 iw_X4_init (c_X4_init l (d - 1) (by omega) hclu2 hsu2) (by omega) rfl rfl (Nat.le_of_ble_eq_true rfl) ⟨by decide, by decide⟩ (fun r n' w' h => h.1) (hL _ (by decide)) (hL2 _ _ (by decide) (by decide)) (fun n' v2 hn h => ?_)
  obtain ⟨-, rfl, hclv2, hD2, hfrv2⟩ := h
  have h0v2 : v2 0 = cObj 4 (((dfX5).set 0 (aR 1)).set 1 (aR 8)) := (hfrv2 0 (by decide)).trans ((hou2 0 (by decide)).trans hk2)
  refine qa_putF hΓ dX5_init_34 fk_X5_26 rfl hV (fun ad => ⟨rfl, rfl⟩) (by decide) h0v2 (by decide) ?_
  obtain ⟨w3, ew3⟩ : ∃ X, X = upw v2 0 (cObj 4 ((((dfX5).set 0 (aR 1)).set 1 (aR 8)).set 2 (aR 52))) := ⟨_, rfl⟩
  have hw3 : clW 54 w3 := by rw [ew3]; exact hclv2.up (okL_set' (clW_fs hclv2 (by decide) h0v2) (okV_R (by decide)))
  have hk3 : w3 0 = cObj 4 ((((dfX5).set 0 (aR 1)).set 1 (aR 8)).set 2 (aR 52)) := by rw [ew3]; exact upw_self _ _ _
  have hv3 : ∀ j, 1 ≤ j → w3 j = v2 j := fun j hj => by rw [ew3]; exact upw_ne _ _ _ (by omega)
  have ho3 : ∀ j, 1 ≤ j → j < 52 → w3 j = w2 j := fun j h1 h2 => by rw [hv3 j h1, hfrv2 j (by omega), hou2 j (by omega)]
  show Γ 37 [aR 0] [] (53, 848) 54 (upw v2 0 (cObj 4 ((((dfX5).set 0 (aR 1)).set 1 (aR 8)).set 2 (aR 52))))
  rw [← ew3]
  refine qa_aload_n hΓ dX5_init_37 rfl ?_
  refine qa_new hΓ dX5_init_38 cl_X5_30 ⟨by decide, by decide⟩ hw3 (hL _ (by decide)) (hL _ (by decide)) ?_
  refine qa_dup hΓ dX5_init_41 ?_
  obtain ⟨u3, hu3⟩ : ∃ X, X = upw w3 54 (cObj 1 dfX2) := ⟨_, rfl⟩
  have hclu3 : clW 55 u3 := by rw [hu3]; exact hw3.push (fun v hv => (ok_dfX2 v hv).mono (Nat.zero_le _))
  have hsu3 : u3 54 = cObj 1 dfX2 := by rw [hu3]; exact upw_self _ _ _
  have hou3 : ∀ j, j ≠ 54 → u3 j = w3 j := fun j hj => by rw [hu3]; exact upw_ne _ _ _ hj
  rw [← hu3]
  refine qa_callIN hΓ dX5_init_42 nk_X5_32 iw_X2_init (c_X2_init l (d - 1) (by omega) hclu3 hsu3) (by omega) rfl rfl (Nat.le_of_ble_eq_true rfl) ⟨by decide, by decide⟩ (fun r n' w' h => h.1) (hL _ (by decide)) (hL2 _ _ (by decide) (by decide)) (fun n' v3 hn h => ?_)
  obtain ⟨-, rfl, hclv3, hD3, hfrv3⟩ := h
  have h0v3 : v3 0 = cObj 4 ((((dfX5).set 0 (aR 1)).set 1 (aR 8)).set 2 (aR 52)) := (hfrv3 0 (by decide)).trans ((hou3 0 (by decide)).trans hk3)
  refine qa_putF hΓ dX5_init_45 fk_X5_33 rfl hV (fun ad => ⟨rfl, rfl⟩) (by decide) h0v3 (by decide) ?_
  obtain ⟨w4, ew4⟩ : ∃ X, X = upw v3 0 (cObj 4 (((((dfX5).set 0 (aR 1)).set 1 (aR 8)).set 2 (aR 52)).set 3 (aR 54))) := ⟨_, rfl⟩
  have hw4 : clW 56 w4 := by rw [ew4]; exact hclv3.up (okL_set' (clW_fs hclv3 (by decide) h0v3) (okV_R (by decide)))
  have hk4 : w4 0 = cObj 4 (((((dfX5).set 0 (aR 1)).set 1 (aR 8)).set 2 (aR 52)).set 3 (aR 54)) := by rw [ew4]; exact upw_self _ _ _
  have hv4 : ∀ j, 1 ≤ j → w4 j = v3 j := fun j hj => by rw [ew4]; exact upw_ne _ _ _ (by omega)
  have ho4 : ∀ j, 1 ≤ j → j < 54 → w4 j = w3 j := fun j h1 h2 => by rw [hv4 j h1, hfrv3 j (by omega), hou3 j (by omega)]
  show Γ 48 [aR 0] [] (55, 858) 56 (upw v3 0 (cObj 4 (((((dfX5).set 0 (aR 1)).set 1 (aR 8)).set 2 (aR 52)).set 3 (aR 54))))
  rw [← ew4]
  refine qa_aload_n hΓ dX5_init_48 rfl ?_
  refine qa_new hΓ dX5_init_49 cl_X5_9 ⟨by decide, by decide⟩ hw4 (hL _ (by decide)) (hL _ (by decide)) ?_
  refine qa_dup hΓ dX5_init_52 ?_
  obtain ⟨u4, hu4⟩ : ∃ X, X = upw w4 56 (cObj 0 dfX0) := ⟨_, rfl⟩
  have hclu4 : clW 57 u4 := by rw [hu4]; exact hw4.push (fun v hv => (ok_dfX0 v hv).mono (Nat.zero_le _))
  have hsu4 : u4 56 = cObj 0 dfX0 := by rw [hu4]; exact upw_self _ _ _
  have hou4 : ∀ j, j ≠ 56 → u4 j = w4 j := fun j hj => by rw [hu4]; exact upw_ne _ _ _ hj
  rw [← hu4]
  refine qa_callI hΓ dX5_init_53 lk_X5_11 iw_X0_init (c_X0_init l (d - 1) (by omega) hclu4 hsu4) (by omega) rfl rfl (Nat.le_of_ble_eq_true rfl) ⟨by decide, by decide⟩ (fun r n' w' h => h.1) (hL _ (by decide)) (hL2 _ _ (by decide) (by decide)) (fun n' v4 hn h => ?_)
  obtain ⟨-, rfl, hclv4, hD4, hfrv4⟩ := h
  have h0v4 : v4 0 = cObj 4 (((((dfX5).set 0 (aR 1)).set 1 (aR 8)).set 2 (aR 52)).set 3 (aR 54)) := (hfrv4 0 (by decide)).trans ((hou4 0 (by decide)).trans hk4)
  refine qa_putF hΓ dX5_init_56 fk_X5_37 rfl hV (fun ad => ⟨rfl, rfl⟩) (by decide) h0v4 (by decide) ?_
  obtain ⟨w5, ew5⟩ : ∃ X, X = upw v4 0 (cObj 4 ((((((dfX5).set 0 (aR 1)).set 1 (aR 8)).set 2 (aR 52)).set 3 (aR 54)).set 4 (aR 56))) := ⟨_, rfl⟩
  have hw5 : clW 63 w5 := by rw [ew5]; exact hclv4.up (okL_set' (clW_fs hclv4 (by decide) h0v4) (okV_R (by decide)))
  have hk5 : w5 0 = cObj 4 ((((((dfX5).set 0 (aR 1)).set 1 (aR 8)).set 2 (aR 52)).set 3 (aR 54)).set 4 (aR 56)) := by rw [ew5]; exact upw_self _ _ _
  have hv5 : ∀ j, 1 ≤ j → w5 j = v4 j := fun j hj => by rw [ew5]; exact upw_ne _ _ _ (by omega)
  have ho5 : ∀ j, 1 ≤ j → j < 56 → w5 j = w4 j := fun j h1 h2 => by rw [hv5 j h1, hfrv4 j (by omega), hou4 j (by omega)]
  show Γ 59 [aR 0] [] (62, 969) 63 (upw v4 0 (cObj 4 ((((((dfX5).set 0 (aR 1)).set 1 (aR 8)).set 2 (aR 52)).set 3 (aR 54)).set 4 (aR 56))))
  rw [← ew5]
  refine qa_aload_n hΓ dX5_init_59 rfl ?_
  refine qa_new hΓ dX5_init_60 cl_X5_9 ⟨by decide, by decide⟩ hw5 (hL _ (by decide)) (hL _ (by decide)) ?_
  refine qa_dup hΓ dX5_init_63 ?_
  obtain ⟨u5, hu5⟩ : ∃ X, X = upw w5 63 (cObj 0 dfX0) := ⟨_, rfl⟩
  have hclu5 : clW 64 u5 := by rw [hu5]; exact hw5.push (fun v hv => (ok_dfX0 v hv).mono (Nat.zero_le _))
  have hsu5 : u5 63 = cObj 0 dfX0 := by rw [hu5]; exact upw_self _ _ _
  have hou5 : ∀ j, j ≠ 63 → u5 j = w5 j := fun j hj => by rw [hu5]; exact upw_ne _ _ _ hj
  rw [← hu5]
  refine qa_callI hΓ dX5_init_64 lk_X5_11 iw_X0_init (c_X0_init l (d - 1) (by omega) hclu5 hsu5) (by omega) rfl rfl (Nat.le_of_ble_eq_true rfl) ⟨by decide, by decide⟩ (fun r n' w' h => h.1) (hL _ (by decide)) (hL2 _ _ (by decide) (by decide)) (fun n' v5 hn h => ?_)
  obtain ⟨-, rfl, hclv5, hD5, hfrv5⟩ := h
  have h0v5 : v5 0 = cObj 4 ((((((dfX5).set 0 (aR 1)).set 1 (aR 8)).set 2 (aR 52)).set 3 (aR 54)).set 4 (aR 56)) := (hfrv5 0 (by decide)).trans ((hou5 0 (by decide)).trans hk5)
  refine qa_putF hΓ dX5_init_67 fk_X5_40 rfl hV (fun ad => ⟨rfl, rfl⟩) (by decide) h0v5 (by decide) ?_
  obtain ⟨w6, ew6⟩ : ∃ X, X = upw v5 0 (cObj 4 (((((((dfX5).set 0 (aR 1)).set 1 (aR 8)).set 2 (aR 52)).set 3 (aR 54)).set 4 (aR 56)).set 5 (aR 63))) := ⟨_, rfl⟩
  have hw6 : clW 70 w6 := by rw [ew6]; exact hclv5.up (okL_set' (clW_fs hclv5 (by decide) h0v5) (okV_R (by decide)))
  have hk6 : w6 0 = cObj 4 (((((((dfX5).set 0 (aR 1)).set 1 (aR 8)).set 2 (aR 52)).set 3 (aR 54)).set 4 (aR 56)).set 5 (aR 63)) := by rw [ew6]; exact upw_self _ _ _
  have hv6 : ∀ j, 1 ≤ j → w6 j = v5 j := fun j hj => by rw [ew6]; exact upw_ne _ _ _ (by omega)
  have ho6 : ∀ j, 1 ≤ j → j < 63 → w6 j = w5 j := fun j h1 h2 => by rw [hv6 j h1, hfrv5 j (by omega), hou5 j (by omega)]
  show Γ 70 [aR 0] [] (69, 1080) 70 (upw v5 0 (cObj 4 (((((((dfX5).set 0 (aR 1)).set 1 (aR 8)).set 2 (aR 52)).set 3 (aR 54)).set 4 (aR 56)).set 5 (aR 63))))
  rw [← ew6]
  refine hR.2.1 _ _ _ _ _ dX5_init_70 rfl (Nat.le_refl _) (Nat.le_refl _) ⟨rfl, rfl, hw6, hk6, ?_, ?_, ?_, ?_, ?_, ?_, fun j hj => by show 0 < 4294967296; decide⟩
  · exact hD0.keep (by decide) (fun j h1 h2 => by rw [ho6 j (by omega) (by omega), ho5 j (by omega) (by omega), ho4 j (by omega) (by omega), ho3 j (by omega) (by omega), ho2 j (by omega) (by omega), hv1 j (by omega)])
  · exact hD1.keep (by decide) (fun j h1 h2 => by rw [ho6 j (by omega) (by omega), ho5 j (by omega) (by omega), ho4 j (by omega) (by omega), ho3 j (by omega) (by omega), hv2 j (by omega)])
  · exact hD2.keep (by decide) (fun j h1 h2 => by rw [ho6 j (by omega) (by omega), ho5 j (by omega) (by omega), ho4 j (by omega) (by omega), hv3 j (by omega)])
  · exact hD3.keep (by decide) (fun j h1 h2 => by rw [ho6 j (by omega) (by omega), ho5 j (by omega) (by omega), hv4 j (by omega)])
  · exact hD4.keep (by decide) (fun j h1 h2 => by rw [ho6 j (by omega) (by omega), hv5 j (by omega)])
  · exact hD5.keep (by decide) (fun j h1 h2 => by rw [hv6 j (by omega)])
