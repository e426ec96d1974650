/-! The class: the reader of circuits -/
def RdAt (n : Nat) (w : Nat → AC) (k : Nat) (g : Nat → Nat) (z R p : Nat) : Prop := k + 2 ≤ n ∧ w k = cObj 1 [aR (k + 1), aZ z, aZ R, aZ p] ∧ w (k + 1) = zA 6 g
theorem RdAt.lt {n k : Nat} {w : Nat → AC} {g : Nat → Nat} {z R p : Nat} (h : RdAt n w k g z R p) : k < n := by have := h.1; omega
theorem RdAt.o {n k : Nat} {w : Nat → AC} {g : Nat → Nat} {z R p : Nat} (h : RdAt n w k g z R p) : w k = cObj 1 [aR (k + 1), aZ z, aZ R, aZ p] := h.2.1
theorem RdAt.lti1 {n k : Nat} {w : Nat → AC} {g : Nat → Nat} {z R p : Nat} (h : RdAt n w k g z R p) : k + 1 < n := by have := h.1; omega
theorem RdAt.a0 {n k : Nat} {w : Nat → AC} {g : Nat → Nat} {z R p : Nat} (h : RdAt n w k g z R p) : w (k + 1) = zA 6 g := h.2.2
section
variable {Γ : Gm} {l : Launch} {y : MethodName} {cc : ByteArray} {mL d mc ms pc n k idx x : Nat} {L st : List AV} {cs : Nat × Nat} {w : Nat → AC} {g : Nat → Nat} {z R p : Nat}
theorem qR_put1 (hΓ : Ok Γ l y cc mL d mc ms) (hd : decode cc pc = .ok (.putfield idx, 3)) (hf : FLK y.cls idx 1 1 false .int) (hQ : RdAt n w k g z R p) (kk : ∀ w', RdAt n w' k g x R p → Fr k 2 w w' → Γ (pc + 3) L st cs n w') : Γ pc L (aZ x :: aR k :: st) cs n w :=
  qa_puti hΓ hd hf hQ.lt hQ.o (by simp) (kk _ ⟨hQ.1, upw_self _ _ _, (upw_ne _ _ _ (by omega)).trans hQ.2.2⟩ (Fr.up (by omega) (by omega)))
theorem qR_put2 (hΓ : Ok Γ l y cc mL d mc ms) (hd : decode cc pc = .ok (.putfield idx, 3)) (hf : FLK y.cls idx 1 2 false .int) (hQ : RdAt n w k g z R p) (kk : ∀ w', RdAt n w' k g z x p → Fr k 2 w w' → Γ (pc + 3) L st cs n w') : Γ pc L (aZ x :: aR k :: st) cs n w :=
  qa_puti hΓ hd hf hQ.lt hQ.o (by simp) (kk _ ⟨hQ.1, upw_self _ _ _, (upw_ne _ _ _ (by omega)).trans hQ.2.2⟩ (Fr.up (by omega) (by omega)))
theorem qR_put3 (hΓ : Ok Γ l y cc mL d mc ms) (hd : decode cc pc = .ok (.putfield idx, 3)) (hf : FLK y.cls idx 1 3 false .int) (hQ : RdAt n w k g z R p) (kk : ∀ w', RdAt n w' k g z R x → Fr k 2 w w' → Γ (pc + 3) L st cs n w') : Γ pc L (aZ x :: aR k :: st) cs n w :=
  qa_puti hΓ hd hf hQ.lt hQ.o (by simp) (kk _ ⟨hQ.1, upw_self _ _ _, (upw_ne _ _ _ (by omega)).trans hQ.2.2⟩ (Fr.up (by omega) (by omega)))
end
def PQ (n k : Nat) (g : Nat → Nat) (z R p : Nat) (w : Nat → AC) : (Nat → AC) → Prop := fun w' => RdAt n w' k g z R p ∧ Fr k 2 w w'
def nIb : Option Nat → Int32
  | none => -1
  | some x => nI x
def RT (n k R : Nat) (o : Option Rst) (w : Nat → AC) (b : Bool) (w' : Nat → AC) : Prop := ∃ g' z' p', RdAt n w' k g' z' R p' ∧ Fr k 2 w w' ∧ z' ≤ 6 ∧ (∀ j, j < 6 → g' j < 4294967296) ∧ b = o.isSome ∧ ∀ st, o = some st → st = (p', z', g')
theorem wi_lt {g x how : Nat} (hg : g < 4294967296) (hx : x < 16) : wi g x how < 4294967296 := by
  have hlo : g % 65536 < 65536 := Nat.mod_lt _ (by decide)
  have hhi : g / 65536 < 65536 := by omega
  unfold wi
  refine cmb_lt ?_ ?_
  · split
    · exact or_lt16 (clr_lt hlo) hx
    · exact clr_lt hlo
  · split
    · exact or_lt16 (clr_lt hhi) hx
    · exact clr_lt hhi
set_option maxRecDepth 100000 in
set_option maxHeartbeats 4000000 in
theorem c_X5_putQ (l : Launch) (d : Nat) {n k : Nat} {w : Nat → AC} {g : Nat → Nat} {z R p : Nat} (hQ : RdAt n w k g z R p) (j x : Nat) (hj : j < 6) : Sq l yX5_put cX5_put 3 none d [aR (k + 1), aZ j, aZ x] n w (Qn (PQ n k (upN g j x) z R p w)) := by
  refine Sp.of (plainFor_of_name (by decide)) (Nat.le_of_ble_eq_true rfl) (fun Γ hΓ hR => ?_)
  show Γ 0 [aR (k + 1), aZ j, aZ x] [] (0, 0) n w
  refine qa_iconst (v := nI 0) hΓ dX5_put_0 ic_0 ?_
  refine qa_iload_n hΓ dX5_put_1 rfl ?_
  refine qz_icmp_gt (tgt := 15) hΓ dX5_put_2 (by decide) (by decide) (by omega) (fun h_2 => absurd h_2 (by omega)) (fun h_2 => ?_)
  refine qa_iload_n hΓ dX5_put_5 rfl ?_
  refine qa_aload_n hΓ dX5_put_6 rfl ?_
  refine qa_alen hΓ dX5_put_7 hQ.lti1 hQ.a0 (by decide) rfl ?_
  refine qz_icmp_ge (tgt := 15) hΓ dX5_put_8 (by decide) (by omega) (by omega) (fun h_8 => absurd h_8 (by omega)) (fun h_8 => ?_)
  refine qa_aload_n hΓ dX5_put_11 rfl ?_
  refine qa_iload_n hΓ dX5_put_12 rfl ?_
  refine qa_iload_n hΓ dX5_put_13 rfl ?_
  refine qz_iast hΓ dX5_put_14 hQ.lti1 hQ.a0 hj (by decide) ?_
  exact qr_v hR dX5_put_15 ⟨rfl, ⟨hQ.1, (upw_ne _ _ _ (by omega)).trans hQ.2.1, upw_self _ _ _⟩, Fr.up (by omega) (by omega)⟩

