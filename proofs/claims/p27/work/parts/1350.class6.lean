/-! The class: events that happen -/
theorem RepC.upd {s s' : Nat → Nat} {b b' : Bk} (h : RepC s b) (h0 : s' 0 = s 0) (h1 : s' 1 = s 1) (hc : ∀ q x, x < 25 → (x = 0 ∨ x = 1 ∨ x = 2 ∨ x = 4 ∨ x = 6 ∨ x = 7 ∨ 12 ≤ x) → vv s' q x = vv s q x) (h6 : ∀ q, q < s 1 → vv s q 12 ≤ 6) (ht : b' 6 1 = s' 2) (hb6 : ∀ j, j = 0 ∨ j = 2 ∨ j = 3 ∨ j = 6 ∨ j = 7 ∨ j = 8 → b' 6 j = b 6 j) (hi : ∀ i, i < 5 → b' i = b i) (hA : b' 6 4 = mk (pM s' 3 1) (s 1)) (hBo : b' 6 5 = mk (pM s' 5 1) (s 1)) (hd : ∀ q, q < s 1 → b' 5 (2 * q) = duA s' q ∧ b' 5 (2 * q + 1) = duE s' q) (hz : ∀ q, s 1 ≤ q → b' 5 (2 * q) = b 5 (2 * q) ∧ b' 5 (2 * q + 1) = b 5 (2 * q + 1)) : RepC s' b' := by
  obtain ⟨⟨g1, g2, g3⟩, g4, ⟨e3, e4, e5, e6, e7, e8⟩, gd, gz⟩ := h
  have pe : ∀ x v, x = 4 ∨ x = 6 ∨ x = 7 → pM s' x v = pM s x v := fun x v hx => by
    funext q
    unfold pM
    rw [hc q x (by omega) (by omega)]
  refine ⟨⟨?_, ht, ?_⟩, fun q hq => ?_, ⟨?_, ?_, ?_, ?_, ?_, ?_⟩, fun q hq => ?_, fun q hq1 hq2 => ?_⟩
  · rw [hb6 0 (by omega), h1]; exact g1
  · rw [hb6 2 (by omega), h0]; exact g3
  · rw [h1] at hq
    obtain ⟨k1, k2, k3, k4, k5⟩ := g4 q hq
    have := h6 q hq
    refine ⟨?_, ?_, ?_, ?_, fun j hj => ?_⟩
    · rw [hi 0 (by omega), hc q 0 (by omega) (by omega)]; exact k1
    · rw [hi 1 (by omega), hc q 1 (by omega) (by omega)]; exact k2
    · rw [hi 2 (by omega), hc q 2 (by omega) (by omega)]; exact k3
    · rw [hi 3 (by omega), hc q 12 (by omega) (by omega)]; exact k4
    · rw [hc q 12 (by omega) (by omega)] at hj
      rw [hi 4 (by omega), hc q _ (by omega) (by omega), hc q _ (by omega) (by omega)]
      exact k5 j hj
  · rw [hb6 3 (by omega), h1, pe 4 1 (by omega)]; exact e3
  · rw [h1]; exact hA
  · rw [h1]; exact hBo
  · rw [hb6 6 (by omega), h1, pe 7 1 (by omega)]; exact e6
  · rw [hb6 7 (by omega), h1, pe 6 1 (by omega)]; exact e7
  · rw [hb6 8 (by omega), h1, pe 6 2 (by omega)]; exact e8
  · rw [h1] at hq
    exact hd q hq
  · rw [h1] at hq1
    obtain ⟨z1, z2⟩ := hz q hq1
    rw [hi 3 (by omega), z1, z2]
    exact gz q hq1 hq2
def tkB1 (b : Bk) (t q : Nat) : Bk := bset (bset b 6 1 t) 5 q NV
def mvB (b : Bk) (r : Nat) : Bk := if 0 < b 2 r then bset (bset (bset b 6 4 (b 6 4 ^^^ 1 <<< r)) 6 5 (b 6 5 ||| 1 <<< r)) 5 (2 * r + 1) (b 6 1 + b 2 r) else bset b 6 4 (b 6 4 ^^^ 1 <<< r)
theorem tkB1_6 (b : Bk) (t q j : Nat) : tkB1 b t q 6 j = if j = 1 then t else b 6 j := by
  unfold tkB1
  rw [bset_ne _ _ _ (by decide), bset_eq]
  by_cases h : j = 1
  · rw [if_pos h, h, upN_self]
  · rw [if_neg h, upN_ne _ _ _ h]
theorem tkB1_5 (b : Bk) (t q j : Nat) : tkB1 b t q 5 j = if j = q then NV else b 5 j := by
  unfold tkB1
  rw [bset_eq, bset_ne _ _ _ (by decide)]
  by_cases h : j = q
  · rw [if_pos h, h, upN_self]
  · rw [if_neg h, upN_ne _ _ _ h]
theorem tkB1_i (b : Bk) (t q : Nat) {i : Nat} (h : i < 5) : tkB1 b t q i = b i := by
  unfold tkB1
  rw [bset_ne _ _ _ (by omega), bset_ne _ _ _ (by omega)]
theorem slE_2 {e : Nat} : slE e / 2 = e / 4 := by unfold slE; split <;> omega
theorem slE_m {e : Nat} : slE e % 2 = 1 ↔ e % 4 = 2 := by unfold slE; split <;> omega
theorem du_e {s : Nat → Nat} {b : Bk} {e : Nat} (h : RepC s b) (he : e < 4 * s 1) (he3 : e % 4 < 3) (hw : wtB s e = true) : b 5 (slE e) = tmO s e := by
  obtain ⟨d1, d2⟩ := h.2.2.2.1 (e / 4) (by omega)
  unfold slE tmO
  unfold wtB at hw
  by_cases h2 : e % 4 = 2
  · rw [if_pos h2] at hw ⊢
    rw [if_pos h2, d2]
    unfold duE
    rw [if_neg (by rw [of_decide_eq_true hw]; decide)]
  · rw [if_neg h2] at hw ⊢
    rw [if_neg h2, Nat.add_zero, d1]
    unfold duA
    rw [Bool.and_eq_true, decide_eq_true_eq, decide_eq_true_eq] at hw
    rw [if_neg (by omega)]
theorem hp1_2 {s : Nat → Nat} {e : Nat} (h2 : e % 4 = 2) (q x : Nat) (hx : x < 25) : vv (hp1 s e) q x = if q = e / 4 ∧ x = 5 then 0 else if q = e / 4 ∧ x = 10 then 0 else vv s q x := by
  unfold hp1
  rw [if_pos h2, vv_up _ _ _ _ _ _ (by decide) hx, vv_up _ _ _ _ _ _ (by decide) hx, vv_hd _ _ _ _ _ (by decide)]
theorem hp1_s {s : Nat → Nat} {e : Nat} (h2 : ¬ e % 4 = 2) (h7 : ¬ vv s (e / 4) 7 = 0) (q x : Nat) (hx : x < 25) : vv (hp1 s e) q x = if q = e / 4 ∧ x = 8 then 0 else vv s q x := by
  unfold hp1
  rw [if_neg h2, if_neg h7, vv_up _ _ _ _ _ _ (by decide) hx, vv_hd _ _ _ _ _ (by decide)]
theorem hp1_m {s : Nat → Nat} {e : Nat} (h2 : ¬ e % 4 = 2) (h7 : vv s (e / 4) 7 = 0) (q x : Nat) (hx : x < 25) : vv (hp1 s e) q x = if 0 < vv s (e / 4) 2 then (if q = e / 4 ∧ x = 11 then tmO s e + vv s (e / 4) 2 else if q = e / 4 ∧ x = 10 then 1 else if q = e / 4 ∧ x = 5 then 1 else if q = e / 4 ∧ x = 3 then 1 - e % 4 else if q = e / 4 ∧ x = 8 then 0 else vv s q x) else (if q = e / 4 ∧ x = 3 then 1 - e % 4 else if q = e / 4 ∧ x = 8 then 0 else vv s q x) := by
  unfold hp1
  rw [if_neg h2, if_pos h7]
  split
  · rw [vv_up _ _ _ _ _ _ (by decide) hx, vv_up _ _ _ _ _ _ (by decide) hx, vv_up _ _ _ _ _ _ (by decide) hx, vv_up _ _ _ _ _ _ (by decide) hx, vv_up _ _ _ _ _ _ (by decide) hx, vv_hd _ _ _ _ _ (by decide)]
  · rw [vv_up _ _ _ _ _ _ (by decide) hx, vv_up _ _ _ _ _ _ (by decide) hx, vv_hd _ _ _ _ _ (by decide)]
theorem hp1_hd (s : Nat → Nat) (e : Nat) {j : Nat} (hj : j < 3) : hp1 s e j = if j = 2 then tmO s e else s j := by
  unfold hp1
  repeat' split
  all_goals simp only [hd_up _ _ _ _ hj]
  all_goals first | (rename_i h; rw [h, upN_self]) | (rename_i h; rw [upN_ne _ _ _ h])
theorem RepC.hpA {s : Nat → Nat} {b : Bk} {B e : Nat} (h : RepC s b) (hW : Wt s B) (he : e < 4 * s 1) (h2 : e % 4 = 2) : RepC (hp1 s e) (bset (tkB1 b (tmO s e) (slE e)) 6 5 (andn (b 6 5) (1 <<< (e / 4)))) := by
  have hv := hp1_2 (s := s) h2
  have hr : e / 4 < s 1 := by omega
  have hsl : slE e = 2 * (e / 4) + 1 := by unfold slE; rw [if_pos h2]
  have b6 : ∀ j, j ≠ 5 → bset (tkB1 b (tmO s e) (slE e)) 6 5 (andn (b 6 5) (1 <<< (e / 4))) 6 j = if j = 1 then tmO s e else b 6 j := fun j hj => by rw [bset_eq, upN_ne _ _ _ hj, tkB1_6]
  have b5 : ∀ j, bset (tkB1 b (tmO s e) (slE e)) 6 5 (andn (b 6 5) (1 <<< (e / 4))) 5 j = if j = 2 * (e / 4) + 1 then NV else b 5 j := fun j => by rw [bset_ne _ _ _ (by decide), tkB1_5, hsl]
  refine h.upd (by rw [hp1_hd _ _ (by decide), if_neg (by decide)]) (by rw [hp1_hd _ _ (by decide), if_neg (by decide)]) (fun q x hx hx2 => by rw [hv q x hx, if_neg (by omega), if_neg (by omega)]) (fun q hq => hW.m6 hq) (by rw [b6 1 (by decide), if_pos rfl, hp1_hd _ _ (by decide), if_pos rfl]) (fun j hj => by rw [b6 j (by omega), if_neg (by omega)]) (fun i hi => by rw [bset_ne _ _ _ (by omega), tkB1_i _ _ _ hi]) ?_ ?_ (fun q hq => ?_) (fun q hq => ⟨by rw [b5, if_neg (by omega)], by rw [b5, if_neg (by omega)]⟩)
  · rw [b6 4 (by decide), if_neg (by decide), h.2.2.1.2.1]
    refine mk_congr (fun i hi => ?_)
    unfold pM
    rw [hv i 3 (by decide), if_neg (by omega), if_neg (by omega)]
  · rw [bset_eq, upN_self, h.2.2.1.2.2.1]
    refine mk_clr hW.2.1 (fun i hi => ?_)
    unfold pM
    rw [hv i 5 (by decide)]
    by_cases e1 : i = e / 4
    · rw [if_pos e1, if_pos ⟨e1, rfl⟩]; rfl
    · rw [if_neg e1, if_neg (by omega), if_neg (by omega)]
  · obtain ⟨d1, d2⟩ := h.2.2.2.1 q hq
    have a8 : vv (hp1 s e) q 8 = vv s q 8 := by rw [hv q 8 (by decide), if_neg (by omega), if_neg (by omega)]
    have a9 : vv (hp1 s e) q 9 = vv s q 9 := by rw [hv q 9 (by decide), if_neg (by omega), if_neg (by omega)]
    have a11 : vv (hp1 s e) q 11 = vv s q 11 := by rw [hv q 11 (by decide), if_neg (by omega), if_neg (by omega)]
    unfold duA at d1
    unfold duE at d2
    unfold duA duE
    rw [a8, a9, a11]
    refine ⟨by rw [b5, if_neg (by omega)]; exact d1, ?_⟩
    by_cases e1 : q = e / 4
    · have a10 : vv (hp1 s e) q 10 = 0 := by rw [hv q 10 (by decide), if_neg (by omega), if_pos ⟨e1, rfl⟩]
      rw [b5, if_pos (by omega), a10, if_pos rfl]
    · have a10 : vv (hp1 s e) q 10 = vv s q 10 := by rw [hv q 10 (by decide), if_neg (by omega), if_neg (by omega)]
      rw [b5, if_neg (by omega), a10]
      exact d2
theorem RepC.hpB {s : Nat → Nat} {b : Bk} {B e : Nat} (h : RepC s b) (hW : Wt s B) (he : e < 4 * s 1) (h2 : ¬ e % 4 = 2) (h7 : ¬ vv s (e / 4) 7 = 0) : RepC (hp1 s e) (tkB1 b (tmO s e) (slE e)) := by
  have hv := hp1_s (s := s) h2 h7
  have hr : e / 4 < s 1 := by omega
  have hsl : slE e = 2 * (e / 4) := by unfold slE; rw [if_neg h2]; rfl
  refine h.upd (by rw [hp1_hd _ _ (by decide), if_neg (by decide)]) (by rw [hp1_hd _ _ (by decide), if_neg (by decide)]) (fun q x hx hx2 => by rw [hv q x hx, if_neg (by omega)]) (fun q hq => hW.m6 hq) (by rw [tkB1_6, if_pos rfl, hp1_hd _ _ (by decide), if_pos rfl]) (fun j hj => by rw [tkB1_6, if_neg (by omega)]) (fun i hi => tkB1_i _ _ _ hi) ?_ ?_ (fun q hq => ?_) (fun q hq => ⟨by rw [tkB1_5, if_neg (by omega)], by rw [tkB1_5, if_neg (by omega)]⟩)
  · rw [tkB1_6, if_neg (by decide), h.2.2.1.2.1]
    refine mk_congr (fun i hi => ?_)
    unfold pM
    rw [hv i 3 (by decide), if_neg (by omega)]
  · rw [tkB1_6, if_neg (by decide), h.2.2.1.2.2.1]
    refine mk_congr (fun i hi => ?_)
    unfold pM
    rw [hv i 5 (by decide), if_neg (by omega)]
  · obtain ⟨d1, d2⟩ := h.2.2.2.1 q hq
    have a9 : vv (hp1 s e) q 9 = vv s q 9 := by rw [hv q 9 (by decide), if_neg (by omega)]
    have a10 : vv (hp1 s e) q 10 = vv s q 10 := by rw [hv q 10 (by decide), if_neg (by omega)]
    have a11 : vv (hp1 s e) q 11 = vv s q 11 := by rw [hv q 11 (by decide), if_neg (by omega)]
    unfold duA at d1
    unfold duE at d2
    unfold duA duE
    rw [a9, a10, a11]
    refine ⟨?_, by rw [tkB1_5, if_neg (by omega)]; exact d2⟩
    by_cases e1 : q = e / 4
    · have a8 : vv (hp1 s e) q 8 = 0 := by rw [hv q 8 (by decide), if_pos ⟨e1, rfl⟩]
      rw [tkB1_5, if_pos (by omega), a8, if_pos rfl]
    · have a8 : vv (hp1 s e) q 8 = vv s q 8 := by rw [hv q 8 (by decide), if_neg (by omega)]
      rw [tkB1_5, if_neg (by omega), a8]
      exact d1
theorem wt_k {s : Nat → Nat} {B e : Nat} (hS : SeC s) (hW : Wt s B) (he : e < 4 * s 1) (h2 : ¬ e % 4 = 2) (hw : wtB s e = true) : vv s (e / 4) 8 = e % 4 + 1 ∧ e % 4 < 2 ∧ 1 - e % 4 = 1 - vv s (e / 4) 3 ∧ 1 - vv s (e / 4) 4 = e % 4 := by
  have hr : e / 4 < s 1 := by omega
  unfold wtB at hw
  rw [if_neg h2, Bool.and_eq_true, decide_eq_true_eq, decide_eq_true_eq] at hw
  obtain ⟨h3, h4⟩ := (hS _ hr).1 (by omega)
  have c3 := hW.c1 hr (x := 3) (by omega)
  have c4 := hW.c1 hr (x := 4) (by omega)
  exact ⟨hw.2, hw.1, by omega, by omega⟩
theorem mvB_i (b : Bk) (r : Nat) {i : Nat} (h : i < 5) : mvB b r i = b i := by
  unfold mvB
  split
  · rw [bset_ne _ _ _ (by omega), bset_ne _ _ _ (by omega), bset_ne _ _ _ (by omega)]
  · rw [bset_ne _ _ _ (by omega)]
theorem mvB_6 (b : Bk) (r j : Nat) : mvB b r 6 j = if j = 4 then b 6 4 ^^^ 1 <<< r else if j = 5 then (if 0 < b 2 r then b 6 5 ||| 1 <<< r else b 6 5) else b 6 j := by
  unfold mvB
  by_cases h : 0 < b 2 r
  · rw [if_pos h, if_pos h, bset_ne _ _ _ (by decide), bset_eq, bset_eq]
    by_cases h5 : j = 5
    · rw [if_neg (by omega), if_pos h5, h5, upN_self]
    · rw [upN_ne _ _ _ h5]
      by_cases h4 : j = 4
      · rw [if_pos h4, h4, upN_self]
      · rw [if_neg h4, if_neg h5, upN_ne _ _ _ h4]
  · rw [if_neg h, if_neg h, bset_eq]
    by_cases h4 : j = 4
    · rw [if_pos h4, h4, upN_self]
    · rw [if_neg h4, upN_ne _ _ _ h4]
      split
      · rename_i h5; rw [h5]
      · rfl
theorem mvB_5 (b : Bk) (r j : Nat) : mvB b r 5 j = if 0 < b 2 r ∧ j = 2 * r + 1 then b 6 1 + b 2 r else b 5 j := by
  unfold mvB
  by_cases h : 0 < b 2 r
  · rw [if_pos h, bset_eq, bset_ne _ _ _ (by decide), bset_ne _ _ _ (by decide)]
    by_cases h5 : j = 2 * r + 1
    · rw [if_pos ⟨h, h5⟩, h5, upN_self]
    · rw [if_neg (fun q => h5 q.2), upN_ne _ _ _ h5]
  · rw [if_neg h, if_neg (fun q => h q.1), bset_ne _ _ _ (by decide)]
theorem RepC.hpC {s : Nat → Nat} {b : Bk} {B e : Nat} (h : RepC s b) (hS : SeC s) (hW : Wt s B) (he : e < 4 * s 1) (h2 : ¬ e % 4 = 2) (hw : wtB s e = true) (h7 : vv s (e / 4) 7 = 0) : RepC (hp1 s e) (mvB (tkB1 b (tmO s e) (slE e)) (e / 4)) := by
  have hv := hp1_m (s := s) h2 h7
  have hr : e / 4 < s 1 := by omega
  have hsl : slE e = 2 * (e / 4) := by unfold slE; rw [if_neg h2]; rfl
  obtain ⟨k1, k2, k3, k4⟩ := wt_k hS hW he h2 hw
  have c2 : tkB1 b (tmO s e) (slE e) 2 (e / 4) = vv s (e / 4) 2 := by rw [tkB1_i _ _ _ (by decide)]; exact (h.2.1 _ hr).2.2.1
  have ho : ∀ q x, x < 25 → (q ≠ e / 4 ∨ (x ≠ 11 ∧ x ≠ 10 ∧ x ≠ 5 ∧ x ≠ 3 ∧ x ≠ 8)) → vv (hp1 s e) q x = vv s q x := fun q x hx hc => by
    rw [hv q x hx]
    split
    · rw [if_neg (by omega), if_neg (by omega), if_neg (by omega), if_neg (by omega), if_neg (by omega)]
    · rw [if_neg (by omega), if_neg (by omega)]
  have h3' : vv (hp1 s e) (e / 4) 3 = 1 - vv s (e / 4) 3 := by
    rw [hv _ 3 (by decide)]
    split
    · rw [if_neg (by omega), if_neg (by omega), if_neg (by omega), if_pos ⟨rfl, rfl⟩, k3]
    · rw [if_pos ⟨rfl, rfl⟩, k3]
  have h8' : vv (hp1 s e) (e / 4) 8 = 0 := by
    rw [hv _ 8 (by decide)]
    split
    · rw [if_neg (by omega), if_neg (by omega), if_neg (by omega), if_neg (by omega), if_pos ⟨rfl, rfl⟩]
    · rw [if_neg (by omega), if_pos ⟨rfl, rfl⟩]
  have h5' : vv (hp1 s e) (e / 4) 5 = if 0 < vv s (e / 4) 2 then 1 else vv s (e / 4) 5 := by
    rw [hv _ 5 (by decide)]
    split
    · rw [if_neg (by omega), if_neg (by omega), if_pos ⟨rfl, rfl⟩]
    · rw [if_neg (by omega), if_neg (by omega)]
  have h10' : vv (hp1 s e) (e / 4) 10 = if 0 < vv s (e / 4) 2 then 1 else vv s (e / 4) 10 := by
    rw [hv _ 10 (by decide)]
    split
    · rw [if_neg (by omega), if_pos ⟨rfl, rfl⟩]
    · rw [if_neg (by omega), if_neg (by omega)]
  have h11' : vv (hp1 s e) (e / 4) 11 = if 0 < vv s (e / 4) 2 then tmO s e + vv s (e / 4) 2 else vv s (e / 4) 11 := by
    rw [hv _ 11 (by decide)]
    split
    · rw [if_pos ⟨rfl, rfl⟩]
    · rw [if_neg (by omega), if_neg (by omega)]
  have c3 := hW.c1 hr (x := 3) (by omega)
  refine h.upd (by rw [hp1_hd _ _ (by decide), if_neg (by decide)]) (by rw [hp1_hd _ _ (by decide), if_neg (by decide)]) (fun q x hx hx2 => ho q x hx (by omega)) (fun q hq => hW.m6 hq) (by rw [mvB_6, if_neg (by decide), if_neg (by decide), tkB1_6, if_pos rfl, hp1_hd _ _ (by decide), if_pos rfl]) (fun j hj => by rw [mvB_6, if_neg (by omega), if_neg (by omega), tkB1_6, if_neg (by omega)]) (fun i hi => (mvB_i _ _ hi).trans (tkB1_i _ _ _ hi)) ?_ ?_ (fun q hq => ?_) (fun q hq => ⟨by rw [mvB_5, if_neg (by omega), tkB1_5, if_neg (by omega)], by rw [mvB_5, if_neg (by omega), tkB1_5, if_neg (by omega)]⟩)
  · rw [mvB_6, if_pos rfl, tkB1_6, if_neg (by decide), h.2.2.1.2.1]
    refine mk_xor hr (fun i hi => ?_)
    unfold pM
    by_cases e1 : i = e / 4
    · rw [if_pos e1, e1, h3']
      rcases (show vv s (e / 4) 3 = 0 ∨ vv s (e / 4) 3 = 1 by omega) with u | u <;> rw [u] <;> decide
    · rw [if_neg e1, ho i 3 (by decide) (Or.inl e1)]
  · rw [mvB_6, if_neg (by decide), if_pos rfl, c2, tkB1_6, show (if 5 = 1 then tmO s e else b 6 5) = b 6 5 from if_neg (by decide), h.2.2.1.2.2.1]
    by_cases hp : 0 < vv s (e / 4) 2
    · rw [if_pos hp]
      refine mk_or hr (fun i hi => ?_)
      unfold pM
      by_cases e1 : i = e / 4
      · rw [if_pos e1, e1, h5', if_pos hp]; rfl
      · rw [if_neg e1, ho i 5 (by decide) (Or.inl e1)]
    · rw [if_neg hp]
      refine mk_congr (fun i hi => ?_)
      unfold pM
      by_cases e1 : i = e / 4
      · rw [e1, h5', if_neg hp]
      · rw [ho i 5 (by decide) (Or.inl e1)]
  · obtain ⟨d1, d2⟩ := h.2.2.2.1 q hq
    unfold duA at d1
    unfold duE at d2
    unfold duA duE
    by_cases e1 : q = e / 4
    · subst e1
      rw [h8', h10', h11', mvB_5, mvB_5, if_neg (by omega), tkB1_5, if_pos (by omega), if_pos rfl, c2]
      refine ⟨rfl, ?_⟩
      by_cases hp : 0 < vv s (e / 4) 2
      · rw [if_pos ⟨hp, rfl⟩, if_pos hp, if_pos hp, if_neg (by decide), tkB1_6, if_pos rfl]
      · rw [if_neg (fun q => hp q.1), if_neg hp, if_neg hp, tkB1_5, if_neg (by omega)]
        exact d2
    · rw [ho q 8 (by decide) (Or.inl e1), ho q 9 (by decide) (Or.inl e1), ho q 10 (by decide) (Or.inl e1), ho q 11 (by decide) (Or.inl e1), mvB_5, mvB_5, if_neg (by omega), tkB1_5, if_neg (by omega)]
      refine ⟨d1, ?_⟩
      rw [if_neg (by omega), tkB1_5, if_neg (by omega)]
      exact d2
theorem SeC.hp1 {s : Nat → Nat} {B e : Nat} (hS : SeC s) (hW : Wt s B) : SeC (hp1 s e) := by
  intro q hq
  rw [hp1_hd _ _ (by decide), if_neg (by decide)] at hq
  obtain ⟨h1, h2⟩ := hS q hq
  by_cases k2 : e % 4 = 2
  · rw [hp1_2 k2 q 8 (by decide), hp1_2 k2 q 4 (by decide), hp1_2 k2 q 3 (by decide), hp1_2 k2 q 5 (by decide), hp1_2 k2 q 10 (by decide)]
    simp only [Nat.reduceEqDiff, and_false, if_false]
    refine ⟨h1, ?_⟩
    by_cases e1 : q = e / 4
    · simp [e1]
    · simp [e1, h2]
  · by_cases k7 : vv s (e / 4) 7 = 0
    · have hv := hp1_m (s := s) k2 k7
      rw [hv q 8 (by decide), hv q 4 (by decide), hv q 3 (by decide), hv q 5 (by decide), hv q 10 (by decide)]
      by_cases e1 : q = e / 4
      · by_cases hp : 0 < vv s (e / 4) 2
        · simp [e1, hp]
        · simp [e1, hp]
          rw [← e1]; exact h2
      · by_cases hp : 0 < vv s (e / 4) 2
        · simp [e1, hp]
          exact ⟨fun q1 => h1 q1, h2⟩
        · simp [e1, hp]
          exact ⟨fun q1 => h1 q1, h2⟩
    · have hv := hp1_s (s := s) k2 k7
      rw [hv q 8 (by decide), hv q 4 (by decide), hv q 3 (by decide), hv q 5 (by decide), hv q 10 (by decide)]
      by_cases e1 : q = e / 4
      · simp [e1]
        rw [← e1]; exact h2
      · simp [e1]
        exact ⟨fun q1 => h1 q1, h2⟩
set_option maxRecDepth 100000 in
set_option maxHeartbeats 4000000 in
theorem c_X0_moveArmature (l : Launch) (d : Nat) (hd : 1 ≤ d) {n kb : Nat} {w : Nat → AC} {b : Bk} (hB : BkAt n w kb b) (r : Nat) (hr : r < 8) (h2 : b 2 r < 2147483648) : Sq l yX0_moveArmature cX0_moveArmature 3 none d [aR kb, aZ r] n w (Qn (PB n kb (mvB b r) w)) := by
  refine Sp.of (plainFor_of_name (by decide)) (Nat.le_of_ble_eq_true rfl) (fun Γ hΓ hR => ?_)
  show Γ 0 [aR kb, aZ r, none] [] (0, 0) n w
  have hF0 : Fr kb 7 w w := Fr.rf
  refine qa_aload_n hΓ dX0_moveArmature_0 rfl ?_
  refine qa_dup hΓ dX0_moveArmature_1 ?_
  refine qa_get hΓ dX0_moveArmature_2 fk_X0_50 hB.lt hB.o rfl ?_
  refine qa_iconst (v := nI 1) hΓ dX0_moveArmature_5 ic_1 ?_
  refine qa_iload_n hΓ dX0_moveArmature_6 rfl ?_
  refine qz_ishl hΓ dX0_moveArmature_7 (by omega) ?_
  refine qz_ixor hΓ dX0_moveArmature_8 ?_
  refine qB_put hΓ 4 dX0_moveArmature_9 fk_X0_50 (by decide) hB (fun w hB hF => ?_)
  have hF0 := hF0.tr hF
  refine qa_aload_n hΓ dX0_moveArmature_12 rfl ?_
  refine qa_get hΓ dX0_moveArmature_13 fk_X0_18 hB.lt hB.o rfl ?_
  refine qa_iload_n hΓ dX0_moveArmature_16 rfl ?_
  refine qc_N1 hΓ dX0_moveArmature_17 nk_X0_73 vw_X5_at (by omega) (c_X5_at l (d - 1) (hB.lti (i := 3) (by decide)) hB.a2 _ (by omega) (by decide)) rfl rfl (Nat.le_of_ble_eq_true rfl) ?_
  rw [show (bset b 6 4 (b 6 4 ^^^ 1 <<< r)) 2 r = b 2 r from by rw [bset_ne _ _ _ (by decide)]]
  refine qa_istore_n hΓ dX0_moveArmature_20 (by decide) ?_
  refine qa_iload_n hΓ dX0_moveArmature_21 rfl ?_
  refine qz_if_le (tgt := 55) hΓ dX0_moveArmature_22 (by decide) (by omega) (fun h_22 => ?_) (fun h_22 => ?_)
  · exact qr_v hR dX0_moveArmature_55 ⟨rfl, by rw [show mvB b r = bset b 6 4 (b 6 4 ^^^ 1 <<< r) from by unfold mvB; rw [if_neg (by omega)]]; exact hB, hF0⟩
  · refine qa_aload_n hΓ dX0_moveArmature_25 rfl ?_
    refine qa_dup hΓ dX0_moveArmature_26 ?_
    refine qa_get hΓ dX0_moveArmature_27 fk_X0_53 hB.lt hB.o rfl ?_
    rw [show (bset b 6 4 (b 6 4 ^^^ 1 <<< r)) 6 5 = b 6 5 from by rw [bset_eq, upN_ne _ _ _ (by decide)]]
    refine qa_iconst (v := nI 1) hΓ dX0_moveArmature_30 ic_1 ?_
    refine qa_iload_n hΓ dX0_moveArmature_31 rfl ?_
    refine qz_ishl hΓ dX0_moveArmature_32 (by omega) ?_
    refine qz_ior hΓ dX0_moveArmature_33 ?_
    refine qB_put hΓ 5 dX0_moveArmature_34 fk_X0_53 (by decide) hB (fun w hB hF => ?_)
    have hF0 := hF0.tr hF
    refine qa_aload_n hΓ dX0_moveArmature_37 rfl ?_
    refine qa_get hΓ dX0_moveArmature_38 fk_X0_27 hB.lt hB.o rfl ?_
    refine qa_iconst (v := nI 2) hΓ dX0_moveArmature_41 ic_2 ?_
    refine qa_iload_n hΓ dX0_moveArmature_42 rfl ?_
    refine qz_imul hΓ dX0_moveArmature_43 ?_
    refine qa_iconst (v := nI 1) hΓ dX0_moveArmature_44 ic_1 ?_
    refine qz_iadd hΓ dX0_moveArmature_45 ?_
    refine qa_aload_n hΓ dX0_moveArmature_46 rfl ?_
    refine qa_get hΓ dX0_moveArmature_47 fk_X0_41 hB.lt hB.o rfl ?_
    rw [show (bset (bset b 6 4 (b 6 4 ^^^ 1 <<< r)) 6 5 (b 6 5 ||| 1 <<< r)) 6 1 = b 6 1 from by rw [bset_eq, upN_ne _ _ _ (by decide), bset_eq, upN_ne _ _ _ (by decide)]]
    refine qa_iload_n hΓ dX0_moveArmature_50 rfl ?_
    refine qz_iadd hΓ dX0_moveArmature_51 ?_
    refine qc_N0q hΓ dX0_moveArmature_52 nk_X0_77 vw_X5_put (by omega) (c_X5_putB l (d - 1) hB 5 (2 * r + 1) _ (by decide) (by show _ < 16; omega)) rfl rfl (Nat.le_of_ble_eq_true rfl) (fun w hq => ?_)
    obtain ⟨hB, hF⟩ := hq
    have hF0 := hF0.tr hF
    exact qr_v hR dX0_moveArmature_55 ⟨rfl, by rw [show mvB b r = bset (bset (bset b 6 4 (b 6 4 ^^^ 1 <<< r)) 6 5 (b 6 5 ||| 1 <<< r)) 5 (2 * r + 1) (b 6 1 + b 2 r) from by unfold mvB; rw [if_pos (by omega)]]; exact hB, hF0⟩

set_option maxRecDepth 100000 in
set_option maxHeartbeats 4000000 in
theorem c_X0_happen (l : Launch) (d : Nat) (hd : 3 ≤ d) {n kb : Nat} {w : Nat → AC} {b : Bk} (hB : BkAt n w kb b) {s : Nat → Nat} (hR0 : RepC s b) {B : Nat} (hW : Wt s B) (hBd : B < 900000000) (hB2 : B + 20 < 900000000) (hS : SeC s) (e : Nat) (he : e < 4 * s 1) (he3 : e % 4 < 3) (hwt : wtB s e = true) : Sq l yX0_happen cX0_happen 3 none d [aR kb, aZ (slE e)] n w (Qn (PR n kb (hap s e) w)) := by
  refine Sp.of (plainFor_of_name (by decide)) (Nat.le_of_ble_eq_true rfl) (fun Γ hΓ hR => ?_)
  show Γ 0 [aR kb, aZ (slE e), none] [] (0, 0) n w
  obtain ⟨w0, hw0⟩ : ∃ X, X = w ∧ ∀ w2, Fr kb 7 X w2 → Fr kb 7 w w2 := ⟨w, rfl, fun _ h => h⟩
  obtain ⟨hww, hw0⟩ := hw0
  have hF0 : Fr kb 7 w0 w := hww ▸ Fr.rf
  have h8 := hW.2.1
  have hr : e / 4 < s 1 := by omega
  have hsl : slE e < 16 := by unfold slE; split <;> omega
  have hst := pbit hW hr (x := 7) (by omega) hR0.2.2.1.2.2.2.1
  refine qa_iload_n hΓ dX0_happen_0 rfl ?_
  refine qc_S1 hΓ dX0_happen_1 lk_X0_128 vw_X0_relayOf (by omega) (c_X0_relayOf l (d - 1) (slE e) (by omega)) rfl rfl (Nat.le_of_ble_eq_true rfl) ?_
  rw [slE_2]
  refine qa_istore_n hΓ dX0_happen_4 (by decide) ?_
  refine qa_aload_n hΓ dX0_happen_5 rfl ?_
  refine qa_aload_n hΓ dX0_happen_6 rfl ?_
  refine qa_get hΓ dX0_happen_7 fk_X0_27 hB.lt hB.o rfl ?_
  refine qa_iload_n hΓ dX0_happen_10 rfl ?_
  refine qc_N1 hΓ dX0_happen_11 nk_X0_73 vw_X5_at (by omega) (c_X5_at l (d - 1) (hB.lti (i := 6) (by decide)) hB.a5 _ (by omega) (by decide)) rfl rfl (Nat.le_of_ble_eq_true rfl) ?_
  rw [du_e hR0 he he3 hwt]
  refine qB_put hΓ 1 dX0_happen_14 fk_X0_41 (by decide) hB (fun w hB hF => ?_)
  have hF0 := hF0.tr hF
  refine qa_aload_n hΓ dX0_happen_17 rfl ?_
  refine qa_get hΓ dX0_happen_18 fk_X0_27 hB.lt hB.o rfl ?_
  refine qa_iload_n hΓ dX0_happen_21 rfl ?_
  refine qa_ldc (v := nI 2147483647) hΓ dX0_happen_22 ck_X0_30 ?_
  refine qc_N0q hΓ dX0_happen_24 nk_X0_77 vw_X5_put (by omega) (c_X5_putB l (d - 1) hB 5 (slE e) NV (by decide) (by show _ < 16; omega)) rfl rfl (Nat.le_of_ble_eq_true rfl) (fun w hq => ?_)
  obtain ⟨hB, hF⟩ := hq
  have hF0 := hF0.tr hF
  obtain ⟨b1, hB, hb1⟩ : ∃ X, BkAt n w kb X ∧ X = (tkB1 b (tmO s e) (slE e)) := ⟨_, hB, rfl⟩
  rw [hb1] at hB
  refine qa_iload_n hΓ dX0_happen_27 rfl ?_
  refine qc_S1 hΓ dX0_happen_28 lk_X0_124 vw_X0_isBounceEnd (by omega) (c_X0_isBounceEnd l (d - 1) _) rfl rfl (Nat.le_of_ble_eq_true rfl) ?_
  refine qb_if_eq (tgt := 51) hΓ dX0_happen_31 (by decide) (fun h_31 => ?_) (fun h_31 => ?_)
  · have h2 : ¬ e % 4 = 2 := fun q => of_decide_eq_false h_31 (slE_m.mpr q)
    refine qa_aload_n hΓ dX0_happen_51 rfl ?_
    refine qa_get hΓ dX0_happen_52 fk_X0_56 hB.lt hB.o rfl ?_
    rw [show (tkB1 b (tmO s e) (slE e)) 6 6 = b 6 6 from by rw [tkB1_6, if_neg (by decide)]]
    refine qa_iload_n hΓ dX0_happen_55 rfl ?_
    refine qc_N1 hΓ dX0_happen_56 nk_X0_106 vw_X5_isIn (by omega) (c_X5_isIn l (d - 1) _ _ (by have := pm_lt hW hR0.2.2.1.2.2.2.1; omega) (by omega)) rfl rfl (Nat.le_of_ble_eq_true rfl) ?_
    refine qb_if_ne (tgt := 67) hΓ dX0_happen_59 (by decide) (fun h_59 => ?_) (fun h_59 => ?_)
    · have h7 : ¬ vv s (e / 4) 7 = 0 := fun q => by rw [h_59] at hst; simp at hst; omega
      refine qa_aload_n hΓ dX0_happen_67 rfl ?_
      refine qc_V1q hΓ dX0_happen_68 lk_X0_99 vw_X0_lookAtCoils (by omega) (c_X0_lookAtCoils l (d - 1) (by omega) hB (hR0.hpB hW he h2 h7) (hW.hp1 he) hB2 (hS.hp1 hW)) rfl hB.lt hB.o rfl rfl (Nat.le_of_ble_eq_true rfl) (fun w hq => ?_)
      obtain ⟨b', hB, hF, hR2, hS2⟩ := hq
      have hF0 := hF0.tr hF
      refine qa_pop hΓ dX0_happen_71 ?_
      exact qr_v hR dX0_happen_72 ⟨rfl, _, hB, hw0 _ hF0, hR2, hS2⟩
    · have h7 : vv s (e / 4) 7 = 0 := by rw [h_59] at hst; exact hst.symm
      refine qa_aload_n hΓ dX0_happen_62 rfl ?_
      refine qa_iload_n hΓ dX0_happen_63 rfl ?_
      refine qc_V0q hΓ dX0_happen_64 lk_X0_138 vw_X0_moveArmature (by omega) (c_X0_moveArmature l (d - 1) (by omega) hB (e / 4) (by omega) (by rw [tkB1_i _ _ _ (by decide), (hR0.2.1 _ hr).2.2.1]; have := hW.b hr (x := 2) (by decide); omega)) rfl hB.lt hB.o rfl rfl (Nat.le_of_ble_eq_true rfl) (fun w hq => ?_)
      obtain ⟨hB, hF⟩ := hq
      have hF0 := hF0.tr hF
      refine qa_aload_n hΓ dX0_happen_67 rfl ?_
      refine qc_V1q hΓ dX0_happen_68 lk_X0_99 vw_X0_lookAtCoils (by omega) (c_X0_lookAtCoils l (d - 1) (by omega) hB (hR0.hpC hS hW he h2 hwt h7) (hW.hp1 he) hB2 (hS.hp1 hW)) rfl hB.lt hB.o rfl rfl (Nat.le_of_ble_eq_true rfl) (fun w hq => ?_)
      obtain ⟨b', hB, hF, hR2, hS2⟩ := hq
      have hF0 := hF0.tr hF
      refine qa_pop hΓ dX0_happen_71 ?_
      exact qr_v hR dX0_happen_72 ⟨rfl, _, hB, hw0 _ hF0, hR2, hS2⟩
  · have h2 : e % 4 = 2 := slE_m.mp (of_decide_eq_true h_31)
    refine qa_aload_n hΓ dX0_happen_34 rfl ?_
    refine qa_dup hΓ dX0_happen_35 ?_
    refine qa_get hΓ dX0_happen_36 fk_X0_53 hB.lt hB.o rfl ?_
    rw [show (tkB1 b (tmO s e) (slE e)) 6 5 = b 6 5 from by rw [tkB1_6, if_neg (by decide)]]
    refine qa_iconst (v := nI 1) hΓ dX0_happen_39 ic_1 ?_
    refine qa_iload_n hΓ dX0_happen_40 rfl ?_
    refine qz_ishl hΓ dX0_happen_41 (by omega) ?_
    refine qa_iconst (v := -1) hΓ dX0_happen_42 ic_m1 ?_
    refine qa_ixor hΓ dX0_happen_43 ?_
    refine qa_iand hΓ dX0_happen_44 ?_
    rw [andn_int (by have := pm_lt hW hR0.2.2.1.2.2.1; omega)]
    refine qB_put hΓ 5 dX0_happen_45 fk_X0_53 (by decide) hB (fun w hB hF => ?_)
    have hF0 := hF0.tr hF
    refine qa_goto (tgt := 67) hΓ dX0_happen_48 (by decide) ?_
    refine qa_aload_n hΓ dX0_happen_67 rfl ?_
    refine qc_V1q hΓ dX0_happen_68 lk_X0_99 vw_X0_lookAtCoils (by omega) (c_X0_lookAtCoils l (d - 1) (by omega) hB (hR0.hpA hW he h2) (hW.hp1 he) hB2 (hS.hp1 hW)) rfl hB.lt hB.o rfl rfl (Nat.le_of_ble_eq_true rfl) (fun w hq => ?_)
    obtain ⟨b', hB, hF, hR2, hS2⟩ := hq
    have hF0 := hF0.tr hF
    refine qa_pop hΓ dX0_happen_71 ?_
    exact qr_v hR dX0_happen_72 ⟨rfl, _, hB, hw0 _ hF0, hR2, hS2⟩
