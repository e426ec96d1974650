theorem cpy_nat : Cond.native arraycopyName ∈ wsL_law := List.mem_of_getElem? (i := 203) (by decide +kernel)
theorem cpy_sta : Cond.static arraycopyName ∈ wsL_law := List.mem_of_getElem? (i := 204) (by decide +kernel)
theorem cpy_ini : Cond.initialized "java/lang/System" ∈ wsL_law := List.mem_of_getElem? (i := 205) (by decide +kernel)
section
variable {Γ : Gm} {l : Launch} {y : MethodName} {cc : ByteArray} {mL d mc ms : Nat} {pc n : Nat} {L st : List AV} {cs : Nat × Nat} {w : Nat → AC}
theorem qa_iconst (hΓ : Ok Γ l y cc mL d mc ms) {j : Int} {v : Int32} (hd : decode cc pc = .ok (.iconst j, 1)) (hv : Int32.ofInt j = v) (k : Γ (pc + 1) L (aI v :: st) cs n w) : Γ pc L (st) cs n w := by
  obtain ⟨p, e, s, m, args, below, meth, c, D, cT, A, Q, n0, ad0, R, rfl, hx, hb, hml, hown, hnm, hts, hK, hA, hRf, hRl, hRc, hRs⟩ := hΓ
  intro ad H locs ls hE hR hL
  exact lv_iconst hx hb hd hv (k ad H locs ls hE hR hL)
theorem qa_bipush (hΓ : Ok Γ l y cc mL d mc ms) {j : Int} {v : Int32} (hd : decode cc pc = .ok (.bipush j, 2)) (hv : (Int8.ofInt j).toInt32 = v) (k : Γ (pc + 2) L (aI v :: st) cs n w) : Γ pc L (st) cs n w := by
  obtain ⟨p, e, s, m, args, below, meth, c, D, cT, A, Q, n0, ad0, R, rfl, hx, hb, hml, hown, hnm, hts, hK, hA, hRf, hRl, hRc, hRs⟩ := hΓ
  intro ad H locs ls hE hR hL
  exact lv_bipush hx hb hd hv (k ad H locs ls hE hR hL)
theorem qa_sipush (hΓ : Ok Γ l y cc mL d mc ms) {j : Int} {v : Int32} (hd : decode cc pc = .ok (.sipush j, 3)) (hv : (Int16.ofInt j).toInt32 = v) (k : Γ (pc + 3) L (aI v :: st) cs n w) : Γ pc L (st) cs n w := by
  obtain ⟨p, e, s, m, args, below, meth, c, D, cT, A, Q, n0, ad0, R, rfl, hx, hb, hml, hown, hnm, hts, hK, hA, hRf, hRl, hRc, hRs⟩ := hΓ
  intro ad H locs ls hE hR hL
  exact lv_sipush hx hb hd hv (k ad H locs ls hE hR hL)
theorem qa_iadd (hΓ : Ok Γ l y cc mL d mc ms) {x z : Int32} (hd : decode cc pc = .ok (.iadd, 1)) (k : Γ (pc + 1) L (aI (x + z) :: st) cs n w) : Γ pc L (aI z :: aI x :: st) cs n w := by
  obtain ⟨p, e, s, m, args, below, meth, c, D, cT, A, Q, n0, ad0, R, rfl, hx, hb, hml, hown, hnm, hts, hK, hA, hRf, hRl, hRc, hRs⟩ := hΓ
  intro ad H locs ls hE hR hL
  exact lv_iadd hx hb hd (k ad H locs ls hE hR hL)
theorem qa_isub (hΓ : Ok Γ l y cc mL d mc ms) {x z : Int32} (hd : decode cc pc = .ok (.isub, 1)) (k : Γ (pc + 1) L (aI (x - z) :: st) cs n w) : Γ pc L (aI z :: aI x :: st) cs n w := by
  obtain ⟨p, e, s, m, args, below, meth, c, D, cT, A, Q, n0, ad0, R, rfl, hx, hb, hml, hown, hnm, hts, hK, hA, hRf, hRl, hRc, hRs⟩ := hΓ
  intro ad H locs ls hE hR hL
  exact lv_isub hx hb hd (k ad H locs ls hE hR hL)
theorem qa_imul (hΓ : Ok Γ l y cc mL d mc ms) {x z : Int32} (hd : decode cc pc = .ok (.imul, 1)) (k : Γ (pc + 1) L (aI (x * z) :: st) cs n w) : Γ pc L (aI z :: aI x :: st) cs n w := by
  obtain ⟨p, e, s, m, args, below, meth, c, D, cT, A, Q, n0, ad0, R, rfl, hx, hb, hml, hown, hnm, hts, hK, hA, hRf, hRl, hRc, hRs⟩ := hΓ
  intro ad H locs ls hE hR hL
  exact lv_imul hx hb hd (k ad H locs ls hE hR hL)
theorem qa_iand (hΓ : Ok Γ l y cc mL d mc ms) {x z : Int32} (hd : decode cc pc = .ok (.iand, 1)) (k : Γ (pc + 1) L (aI (x &&& z) :: st) cs n w) : Γ pc L (aI z :: aI x :: st) cs n w := by
  obtain ⟨p, e, s, m, args, below, meth, c, D, cT, A, Q, n0, ad0, R, rfl, hx, hb, hml, hown, hnm, hts, hK, hA, hRf, hRl, hRc, hRs⟩ := hΓ
  intro ad H locs ls hE hR hL
  exact lv_iand hx hb hd (k ad H locs ls hE hR hL)
theorem qa_ior (hΓ : Ok Γ l y cc mL d mc ms) {x z : Int32} (hd : decode cc pc = .ok (.ior, 1)) (k : Γ (pc + 1) L (aI (x ||| z) :: st) cs n w) : Γ pc L (aI z :: aI x :: st) cs n w := by
  obtain ⟨p, e, s, m, args, below, meth, c, D, cT, A, Q, n0, ad0, R, rfl, hx, hb, hml, hown, hnm, hts, hK, hA, hRf, hRl, hRc, hRs⟩ := hΓ
  intro ad H locs ls hE hR hL
  exact lv_ior hx hb hd (k ad H locs ls hE hR hL)
theorem qa_ixor (hΓ : Ok Γ l y cc mL d mc ms) {x z : Int32} (hd : decode cc pc = .ok (.ixor, 1)) (k : Γ (pc + 1) L (aI (x ^^^ z) :: st) cs n w) : Γ pc L (aI z :: aI x :: st) cs n w := by
  obtain ⟨p, e, s, m, args, below, meth, c, D, cT, A, Q, n0, ad0, R, rfl, hx, hb, hml, hown, hnm, hts, hK, hA, hRf, hRl, hRc, hRs⟩ := hΓ
  intro ad H locs ls hE hR hL
  exact lv_ixor hx hb hd (k ad H locs ls hE hR hL)
theorem qa_ishl (hΓ : Ok Γ l y cc mL d mc ms) {x z : Int32} (hd : decode cc pc = .ok (.ishl, 1)) (k : Γ (pc + 1) L (aI (x <<< (z &&& 31)) :: st) cs n w) : Γ pc L (aI z :: aI x :: st) cs n w := by
  obtain ⟨p, e, s, m, args, below, meth, c, D, cT, A, Q, n0, ad0, R, rfl, hx, hb, hml, hown, hnm, hts, hK, hA, hRf, hRl, hRc, hRs⟩ := hΓ
  intro ad H locs ls hE hR hL
  exact lv_ishl hx hb hd (k ad H locs ls hE hR hL)
theorem qa_ishr (hΓ : Ok Γ l y cc mL d mc ms) {x z : Int32} (hd : decode cc pc = .ok (.ishr, 1)) (k : Γ (pc + 1) L (aI (x >>> (z &&& 31)) :: st) cs n w) : Γ pc L (aI z :: aI x :: st) cs n w := by
  obtain ⟨p, e, s, m, args, below, meth, c, D, cT, A, Q, n0, ad0, R, rfl, hx, hb, hml, hown, hnm, hts, hK, hA, hRf, hRl, hRc, hRs⟩ := hΓ
  intro ad H locs ls hE hR hL
  exact lv_ishr hx hb hd (k ad H locs ls hE hR hL)
theorem qa_idiv (hΓ : Ok Γ l y cc mL d mc ms) {x z : Int32} (hd : decode cc pc = .ok (.idiv, 1)) (hne : ¬ z = 0) (k : Γ (pc + 1) L (aI (x / z) :: st) cs n w) : Γ pc L (aI z :: aI x :: st) cs n w := by
  obtain ⟨p, e, s, m, args, below, meth, c, D, cT, A, Q, n0, ad0, R, rfl, hx, hb, hml, hown, hnm, hts, hK, hA, hRf, hRl, hRc, hRs⟩ := hΓ
  intro ad H locs ls hE hR hL
  exact lv_idiv hx hb hd hne (k ad H locs ls hE hR hL)
theorem qa_irem (hΓ : Ok Γ l y cc mL d mc ms) {x z : Int32} (hd : decode cc pc = .ok (.irem, 1)) (hne : ¬ z = 0) (k : Γ (pc + 1) L (aI (x - x / z * z) :: st) cs n w) : Γ pc L (aI z :: aI x :: st) cs n w := by
  obtain ⟨p, e, s, m, args, below, meth, c, D, cT, A, Q, n0, ad0, R, rfl, hx, hb, hml, hown, hnm, hts, hK, hA, hRf, hRl, hRc, hRs⟩ := hΓ
  intro ad H locs ls hE hR hL
  exact lv_irem hx hb hd hne (k ad H locs ls hE hR hL)
theorem qa_iushr (hΓ : Ok Γ l y cc mL d mc ms) {x z v : Int32} (hd : decode cc pc = .ok (.iushr, 1)) (hv : (x.toUInt32 >>> (z.toUInt32 &&& Int32.toUInt32 31)).toInt32 = v) (k : Γ (pc + 1) L (aI v :: st) cs n w) : Γ pc L (aI z :: aI x :: st) cs n w := by
  obtain ⟨p, e, s, m, args, below, meth, c, D, cT, A, Q, n0, ad0, R, rfl, hx, hb, hml, hown, hnm, hts, hK, hA, hRf, hRl, hRc, hRs⟩ := hΓ
  intro ad H locs ls hE hR hL
  exact lv_iushr hx hb hd hv (k ad H locs ls hE hR hL)
theorem qa_i2b (hΓ : Ok Γ l y cc mL d mc ms) {x v : Int32} (hd : decode cc pc = .ok (.i2b, 1)) (hv : x.toInt8.toInt32 = v) (k : Γ (pc + 1) L (aI v :: st) cs n w) : Γ pc L (aI x :: st) cs n w := by
  obtain ⟨p, e, s, m, args, below, meth, c, D, cT, A, Q, n0, ad0, R, rfl, hx, hb, hml, hown, hnm, hts, hK, hA, hRf, hRl, hRc, hRs⟩ := hΓ
  intro ad H locs ls hE hR hL
  exact lv_i2b hx hb hd hv (k ad H locs ls hE hR hL)
theorem qa_i2c (hΓ : Ok Γ l y cc mL d mc ms) {x v : Int32} (hd : decode cc pc = .ok (.i2c, 1)) (hv : (x.toUInt32 % 65536).toInt32 = v) (k : Γ (pc + 1) L (aI v :: st) cs n w) : Γ pc L (aI x :: st) cs n w := by
  obtain ⟨p, e, s, m, args, below, meth, c, D, cT, A, Q, n0, ad0, R, rfl, hx, hb, hml, hown, hnm, hts, hK, hA, hRf, hRl, hRc, hRs⟩ := hΓ
  intro ad H locs ls hE hR hL
  exact lv_i2c hx hb hd hv (k ad H locs ls hE hR hL)
theorem qa_pop (hΓ : Ok Γ l y cc mL d mc ms) {v : AV} (hd : decode cc pc = .ok (.pop, 1)) (k : Γ (pc + 1) L (st) cs n w) (hv : nl v = true := by rfl) : Γ pc L (v :: st) cs n w := by
  obtain ⟨p, e, s, m, args, below, meth, c, D, cT, A, Q, n0, ad0, R, rfl, hx, hb, hml, hown, hnm, hts, hK, hA, hRf, hRl, hRc, hRs⟩ := hΓ
  intro ad H locs ls hE hR hL
  exact lv_pop hx hb hd (rv_cat ad v hv) (k ad H locs ls hE hR hL)
theorem qa_dup (hΓ : Ok Γ l y cc mL d mc ms) {v : AV} (hd : decode cc pc = .ok (.dup, 1)) (k : Γ (pc + 1) L (v :: v :: st) cs n w) (hv : nl v = true := by rfl) : Γ pc L (v :: st) cs n w := by
  obtain ⟨p, e, s, m, args, below, meth, c, D, cT, A, Q, n0, ad0, R, rfl, hx, hb, hml, hown, hnm, hts, hK, hA, hRf, hRl, hRc, hRs⟩ := hΓ
  intro ad H locs ls hE hR hL
  exact lv_dup hx hb hd (rv_cat ad v hv) (k ad H locs ls hE hR hL)
theorem qa_null (hΓ : Ok Γ l y cc mL d mc ms)  (hd : decode cc pc = .ok (.aconst_null, 1)) (k : Γ (pc + 1) L (aN :: st) cs n w) : Γ pc L (st) cs n w := by
  obtain ⟨p, e, s, m, args, below, meth, c, D, cT, A, Q, n0, ad0, R, rfl, hx, hb, hml, hown, hnm, hts, hK, hA, hRf, hRl, hRc, hRs⟩ := hΓ
  intro ad H locs ls hE hR hL
  exact lv_null hx hb hd (k ad H locs ls hE hR hL)
theorem qa_iload_n (hΓ : Ok Γ l y cc mL d mc ms) {j : Fin 4} {x : Int32} (hd : decode cc pc = .ok (.iload_n j, 1)) (hl : lg L j = aI x) (k : Γ (pc + 1) L (aI x :: st) cs n w) : Γ pc L st cs n w := by
  obtain ⟨p, e, s, m, args, below, meth, c, D, cT, A, Q, n0, ad0, R, rfl, hx, hb, hml, hown, hnm, hts, hK, hA, hRf, hRl, hRc, hRs⟩ := hΓ
  intro ad H locs ls hE hR hL
  exact lv_iload_n hx hb hd rfl (hL.2.2 _ _ hl) (k ad H locs ls hE hR hL)
theorem qa_iload (hΓ : Ok Γ l y cc mL d mc ms) {j : Nat} {x : Int32} (hd : decode cc pc = .ok (.iload j, 2)) (hl : lg L j = aI x) (k : Γ (pc + 2) L (aI x :: st) cs n w) : Γ pc L st cs n w := by
  obtain ⟨p, e, s, m, args, below, meth, c, D, cT, A, Q, n0, ad0, R, rfl, hx, hb, hml, hown, hnm, hts, hK, hA, hRf, hRl, hRc, hRs⟩ := hΓ
  intro ad H locs ls hE hR hL
  exact lv_iload hx hb hd (hL.2.2 _ _ hl) (k ad H locs ls hE hR hL)
theorem qa_aload_n (hΓ : Ok Γ l y cc mL d mc ms) {j : Fin 4} {x : Nat} (hd : decode cc pc = .ok (.aload_n j, 1)) (hl : lg L j = aR x) (k : Γ (pc + 1) L (aR x :: st) cs n w) : Γ pc L st cs n w := by
  obtain ⟨p, e, s, m, args, below, meth, c, D, cT, A, Q, n0, ad0, R, rfl, hx, hb, hml, hown, hnm, hts, hK, hA, hRf, hRl, hRc, hRs⟩ := hΓ
  intro ad H locs ls hE hR hL
  exact lv_aload_n hx hb hd rfl (hL.2.2 _ _ hl) (k ad H locs ls hE hR hL)
theorem qa_aload (hΓ : Ok Γ l y cc mL d mc ms) {j : Nat} {x : Nat} (hd : decode cc pc = .ok (.aload j, 2)) (hl : lg L j = aR x) (k : Γ (pc + 2) L (aR x :: st) cs n w) : Γ pc L st cs n w := by
  obtain ⟨p, e, s, m, args, below, meth, c, D, cT, A, Q, n0, ad0, R, rfl, hx, hb, hml, hown, hnm, hts, hK, hA, hRf, hRl, hRc, hRs⟩ := hΓ
  intro ad H locs ls hE hR hL
  exact lv_aload hx hb hd (hL.2.2 _ _ hl) (k ad H locs ls hE hR hL)
theorem qa_aload_nN (hΓ : Ok Γ l y cc mL d mc ms) {j : Fin 4} (hd : decode cc pc = .ok (.aload_n j, 1)) (hl : lg L j = aN) (k : Γ (pc + 1) L (aN :: st) cs n w) : Γ pc L st cs n w := by
  obtain ⟨p, e, s, m, args, below, meth, c, D, cT, A, Q, n0, ad0, R, rfl, hx, hb, hml, hown, hnm, hts, hK, hA, hRf, hRl, hRc, hRs⟩ := hΓ
  intro ad H locs ls hE hR hL
  exact lv_aload_nN hx hb hd rfl (hL.2.2 _ _ hl) (k ad H locs ls hE hR hL)
theorem qa_istore_n (hΓ : Ok Γ l y cc mL d mc ms) {j : Fin 4} {x : Int32} (hd : decode cc pc = .ok (.istore_n j, 1)) (hn : (j : Nat) < mL) (k : Γ (pc + 1) (L.set j (aI x)) st cs n w) (hs : lsf L j = true := by rfl) : Γ pc L (aI x :: st) cs n w := by
  obtain ⟨p, e, s, m, args, below, meth, c, D, cT, A, Q, n0, ad0, R, rfl, hx, hb, hml, hown, hnm, hts, hK, hA, hRf, hRl, hRc, hRs⟩ := hΓ
  intro ad H locs ls hE hR hL
  exact lv_istore_n hx hb hd rfl hL.has hn rfl (fun ls' h' => k ad H locs ls' hE hR (Lc.set hs (v := aI x) h'))
theorem qa_istore (hΓ : Ok Γ l y cc mL d mc ms) {j : Nat} {x : Int32} (hd : decode cc pc = .ok (.istore j, 2)) (hn : j < mL) (k : Γ (pc + 2) (L.set j (aI x)) st cs n w) (hs : lsf L j = true := by rfl) : Γ pc L (aI x :: st) cs n w := by
  obtain ⟨p, e, s, m, args, below, meth, c, D, cT, A, Q, n0, ad0, R, rfl, hx, hb, hml, hown, hnm, hts, hK, hA, hRf, hRl, hRc, hRs⟩ := hΓ
  intro ad H locs ls hE hR hL
  exact lv_istore hx hb hd hL.has hn rfl (fun ls' h' => k ad H locs ls' hE hR (Lc.set hs (v := aI x) h'))
theorem qa_astore_n (hΓ : Ok Γ l y cc mL d mc ms) {j : Fin 4} {x : Nat} (hd : decode cc pc = .ok (.astore_n j, 1)) (hn : (j : Nat) < mL) (k : Γ (pc + 1) (L.set j (aR x)) st cs n w) (hs : lsf L j = true := by rfl) : Γ pc L (aR x :: st) cs n w := by
  obtain ⟨p, e, s, m, args, below, meth, c, D, cT, A, Q, n0, ad0, R, rfl, hx, hb, hml, hown, hnm, hts, hK, hA, hRf, hRl, hRc, hRs⟩ := hΓ
  intro ad H locs ls hE hR hL
  exact lv_astore_n hx hb hd rfl hL.has hn rfl (fun ls' h' => k ad H locs ls' hE hR (Lc.set hs (v := aR x) h'))
theorem qa_astore_nN (hΓ : Ok Γ l y cc mL d mc ms) {j : Fin 4} (hd : decode cc pc = .ok (.astore_n j, 1)) (hn : (j : Nat) < mL) (k : Γ (pc + 1) (L.set j aN) st cs n w) (hs : lsf L j = true := by rfl) : Γ pc L (aN :: st) cs n w := by
  obtain ⟨p, e, s, m, args, below, meth, c, D, cT, A, Q, n0, ad0, R, rfl, hx, hb, hml, hown, hnm, hts, hK, hA, hRf, hRl, hRc, hRs⟩ := hΓ
  intro ad H locs ls hE hR hL
  exact lv_astore_nN hx hb hd rfl hL.has hn rfl (fun ls' h' => k ad H locs ls' hE hR (Lc.set hs (v := aN) h'))
theorem qa_iinc (hΓ : Ok Γ l y cc mL d mc ms) {j : Nat} {b : Int} {x v : Int32} (hd : decode cc pc = .ok (.iinc j b, 3)) (hl : lg L j = aI x) (hv : x + Int32.ofInt b = v) (hn : j < mL) (k : Γ (pc + 3) (L.set j (aI v)) st cs n w) (hs : lsf L j = true := by rfl) : Γ pc L st cs n w := by
  obtain ⟨p, e, s, m, args, below, meth, c, D, cT, A, Q, n0, ad0, R, rfl, hx, hb, hml, hown, hnm, hts, hK, hA, hRf, hRl, hRc, hRs⟩ := hΓ
  intro ad H locs ls hE hR hL
  have hi : (j, Value.int x) ∈ lprs ad L := lprs_mem.mpr ⟨.inl (.inl x), hl, rfl⟩
  obtain ⟨i, hi⟩ := List.getElem?_of_mem hi
  exact lv_iinc hx hb hd hL.has hi hv hn rfl (fun ls' h' => k ad H locs ls' hE hR (Lc.set hs (v := aI v) h'))
theorem qa_icmp_eq (hΓ : Ok Γ l y cc mL d mc ms) {x z : Int32} {off : Int} {tgt : Nat} (hd : decode cc pc = .ok (.if_icmp .eq off, 3)) (ht : (pc : Int) + off = (tgt : Int)) (kt : x = z → Γ tgt L st cs n w) (kf : ¬ x = z → Γ (pc + 3) L st cs n w) : Γ pc L (aI z :: aI x :: st) cs n w := by
  obtain ⟨p, e, s, m, args, below, meth, c, D, cT, A, Q, n0, ad0, R, rfl, hx, hb, hml, hown, hnm, hts, hK, hA, hRf, hRl, hRc, hRs⟩ := hΓ
  intro ad H locs ls hE hR hL
  exact lv_icmp_eq hx hb hd ht (fun h => kt h ad H locs ls hE hR hL) (fun h => kf h ad H locs ls hE hR hL)
theorem qa_icmp_ne (hΓ : Ok Γ l y cc mL d mc ms) {x z : Int32} {off : Int} {tgt : Nat} (hd : decode cc pc = .ok (.if_icmp .ne off, 3)) (ht : (pc : Int) + off = (tgt : Int)) (kt : ¬ x = z → Γ tgt L st cs n w) (kf : x = z → Γ (pc + 3) L st cs n w) : Γ pc L (aI z :: aI x :: st) cs n w := by
  obtain ⟨p, e, s, m, args, below, meth, c, D, cT, A, Q, n0, ad0, R, rfl, hx, hb, hml, hown, hnm, hts, hK, hA, hRf, hRl, hRc, hRs⟩ := hΓ
  intro ad H locs ls hE hR hL
  exact lv_icmp_ne hx hb hd ht (fun h => kt h ad H locs ls hE hR hL) (fun h => kf h ad H locs ls hE hR hL)
theorem qa_icmp_lt (hΓ : Ok Γ l y cc mL d mc ms) {x z : Int32} {off : Int} {tgt : Nat} (hd : decode cc pc = .ok (.if_icmp .lt off, 3)) (ht : (pc : Int) + off = (tgt : Int)) (kt : x < z → Γ tgt L st cs n w) (kf : ¬ x < z → Γ (pc + 3) L st cs n w) : Γ pc L (aI z :: aI x :: st) cs n w := by
  obtain ⟨p, e, s, m, args, below, meth, c, D, cT, A, Q, n0, ad0, R, rfl, hx, hb, hml, hown, hnm, hts, hK, hA, hRf, hRl, hRc, hRs⟩ := hΓ
  intro ad H locs ls hE hR hL
  exact lv_icmp_lt hx hb hd ht (fun h => kt h ad H locs ls hE hR hL) (fun h => kf h ad H locs ls hE hR hL)
theorem qa_icmp_ge (hΓ : Ok Γ l y cc mL d mc ms) {x z : Int32} {off : Int} {tgt : Nat} (hd : decode cc pc = .ok (.if_icmp .ge off, 3)) (ht : (pc : Int) + off = (tgt : Int)) (kt : z ≤ x → Γ tgt L st cs n w) (kf : ¬ z ≤ x → Γ (pc + 3) L st cs n w) : Γ pc L (aI z :: aI x :: st) cs n w := by
  obtain ⟨p, e, s, m, args, below, meth, c, D, cT, A, Q, n0, ad0, R, rfl, hx, hb, hml, hown, hnm, hts, hK, hA, hRf, hRl, hRc, hRs⟩ := hΓ
  intro ad H locs ls hE hR hL
  exact lv_icmp_ge hx hb hd ht (fun h => kt h ad H locs ls hE hR hL) (fun h => kf h ad H locs ls hE hR hL)
theorem qa_icmp_gt (hΓ : Ok Γ l y cc mL d mc ms) {x z : Int32} {off : Int} {tgt : Nat} (hd : decode cc pc = .ok (.if_icmp .gt off, 3)) (ht : (pc : Int) + off = (tgt : Int)) (kt : z < x → Γ tgt L st cs n w) (kf : ¬ z < x → Γ (pc + 3) L st cs n w) : Γ pc L (aI z :: aI x :: st) cs n w := by
  obtain ⟨p, e, s, m, args, below, meth, c, D, cT, A, Q, n0, ad0, R, rfl, hx, hb, hml, hown, hnm, hts, hK, hA, hRf, hRl, hRc, hRs⟩ := hΓ
  intro ad H locs ls hE hR hL
  exact lv_icmp_gt hx hb hd ht (fun h => kt h ad H locs ls hE hR hL) (fun h => kf h ad H locs ls hE hR hL)
theorem qa_icmp_le (hΓ : Ok Γ l y cc mL d mc ms) {x z : Int32} {off : Int} {tgt : Nat} (hd : decode cc pc = .ok (.if_icmp .le off, 3)) (ht : (pc : Int) + off = (tgt : Int)) (kt : x ≤ z → Γ tgt L st cs n w) (kf : ¬ x ≤ z → Γ (pc + 3) L st cs n w) : Γ pc L (aI z :: aI x :: st) cs n w := by
  obtain ⟨p, e, s, m, args, below, meth, c, D, cT, A, Q, n0, ad0, R, rfl, hx, hb, hml, hown, hnm, hts, hK, hA, hRf, hRl, hRc, hRs⟩ := hΓ
  intro ad H locs ls hE hR hL
  exact lv_icmp_le hx hb hd ht (fun h => kt h ad H locs ls hE hR hL) (fun h => kf h ad H locs ls hE hR hL)
theorem qa_if_eq (hΓ : Ok Γ l y cc mL d mc ms) {x : Int32} {off : Int} {tgt : Nat} (hd : decode cc pc = .ok (.ifCond .eq off, 3)) (ht : (pc : Int) + off = (tgt : Int)) (kt : x = 0 → Γ tgt L st cs n w) (kf : ¬ x = 0 → Γ (pc + 3) L st cs n w) : Γ pc L (aI x :: st) cs n w := by
  obtain ⟨p, e, s, m, args, below, meth, c, D, cT, A, Q, n0, ad0, R, rfl, hx, hb, hml, hown, hnm, hts, hK, hA, hRf, hRl, hRc, hRs⟩ := hΓ
  intro ad H locs ls hE hR hL
  exact lv_if_eq hx hb hd ht (fun h => kt h ad H locs ls hE hR hL) (fun h => kf h ad H locs ls hE hR hL)
theorem qa_if_ne (hΓ : Ok Γ l y cc mL d mc ms) {x : Int32} {off : Int} {tgt : Nat} (hd : decode cc pc = .ok (.ifCond .ne off, 3)) (ht : (pc : Int) + off = (tgt : Int)) (kt : ¬ x = 0 → Γ tgt L st cs n w) (kf : x = 0 → Γ (pc + 3) L st cs n w) : Γ pc L (aI x :: st) cs n w := by
  obtain ⟨p, e, s, m, args, below, meth, c, D, cT, A, Q, n0, ad0, R, rfl, hx, hb, hml, hown, hnm, hts, hK, hA, hRf, hRl, hRc, hRs⟩ := hΓ
  intro ad H locs ls hE hR hL
  exact lv_if_ne hx hb hd ht (fun h => kt h ad H locs ls hE hR hL) (fun h => kf h ad H locs ls hE hR hL)
theorem qa_if_lt (hΓ : Ok Γ l y cc mL d mc ms) {x : Int32} {off : Int} {tgt : Nat} (hd : decode cc pc = .ok (.ifCond .lt off, 3)) (ht : (pc : Int) + off = (tgt : Int)) (kt : x < 0 → Γ tgt L st cs n w) (kf : ¬ x < 0 → Γ (pc + 3) L st cs n w) : Γ pc L (aI x :: st) cs n w := by
  obtain ⟨p, e, s, m, args, below, meth, c, D, cT, A, Q, n0, ad0, R, rfl, hx, hb, hml, hown, hnm, hts, hK, hA, hRf, hRl, hRc, hRs⟩ := hΓ
  intro ad H locs ls hE hR hL
  exact lv_if_lt hx hb hd ht (fun h => kt h ad H locs ls hE hR hL) (fun h => kf h ad H locs ls hE hR hL)
theorem qa_if_ge (hΓ : Ok Γ l y cc mL d mc ms) {x : Int32} {off : Int} {tgt : Nat} (hd : decode cc pc = .ok (.ifCond .ge off, 3)) (ht : (pc : Int) + off = (tgt : Int)) (kt : 0 ≤ x → Γ tgt L st cs n w) (kf : ¬ 0 ≤ x → Γ (pc + 3) L st cs n w) : Γ pc L (aI x :: st) cs n w := by
  obtain ⟨p, e, s, m, args, below, meth, c, D, cT, A, Q, n0, ad0, R, rfl, hx, hb, hml, hown, hnm, hts, hK, hA, hRf, hRl, hRc, hRs⟩ := hΓ
  intro ad H locs ls hE hR hL
  exact lv_if_ge hx hb hd ht (fun h => kt h ad H locs ls hE hR hL) (fun h => kf h ad H locs ls hE hR hL)
theorem qa_if_gt (hΓ : Ok Γ l y cc mL d mc ms) {x : Int32} {off : Int} {tgt : Nat} (hd : decode cc pc = .ok (.ifCond .gt off, 3)) (ht : (pc : Int) + off = (tgt : Int)) (kt : 0 < x → Γ tgt L st cs n w) (kf : ¬ 0 < x → Γ (pc + 3) L st cs n w) : Γ pc L (aI x :: st) cs n w := by
  obtain ⟨p, e, s, m, args, below, meth, c, D, cT, A, Q, n0, ad0, R, rfl, hx, hb, hml, hown, hnm, hts, hK, hA, hRf, hRl, hRc, hRs⟩ := hΓ
  intro ad H locs ls hE hR hL
  exact lv_if_gt hx hb hd ht (fun h => kt h ad H locs ls hE hR hL) (fun h => kf h ad H locs ls hE hR hL)
theorem qa_if_le (hΓ : Ok Γ l y cc mL d mc ms) {x : Int32} {off : Int} {tgt : Nat} (hd : decode cc pc = .ok (.ifCond .le off, 3)) (ht : (pc : Int) + off = (tgt : Int)) (kt : x ≤ 0 → Γ tgt L st cs n w) (kf : ¬ x ≤ 0 → Γ (pc + 3) L st cs n w) : Γ pc L (aI x :: st) cs n w := by
  obtain ⟨p, e, s, m, args, below, meth, c, D, cT, A, Q, n0, ad0, R, rfl, hx, hb, hml, hown, hnm, hts, hK, hA, hRf, hRl, hRc, hRs⟩ := hΓ
  intro ad H locs ls hE hR hL
  exact lv_if_le hx hb hd ht (fun h => kt h ad H locs ls hE hR hL) (fun h => kf h ad H locs ls hE hR hL)
theorem qa_goto (hΓ : Ok Γ l y cc mL d mc ms) {off : Int} {tgt : Nat} (hd : decode cc pc = .ok (.goto off, 3)) (ht : (pc : Int) + off = (tgt : Int)) (k : Γ tgt L st cs n w) : Γ pc L st cs n w := by
  obtain ⟨p, e, s, m, args, below, meth, c, D, cT, A, Q, n0, ad0, R, rfl, hx, hb, hml, hown, hnm, hts, hK, hA, hRf, hRl, hRc, hRs⟩ := hΓ
  intro ad H locs ls hE hR hL
  exact lv_goto hx hb hd ht (k ad H locs ls hE hR hL)
theorem qa_dup2 (hΓ : Ok Γ l y cc mL d mc ms) {u v : AV} (hd : decode cc pc = .ok (.dup2, 1)) (k : Γ (pc + 1) L (u :: v :: u :: v :: st) cs n w) (hu : nl u = true := by rfl) (hv : nl v = true := by rfl) : Γ pc L (u :: v :: st) cs n w := by
  obtain ⟨p, e, s, m, args, below, meth, c, D, cT, A, Q, n0, ad0, R, rfl, hx, hb, hml, hown, hnm, hts, hK, hA, hRf, hRl, hRc, hRs⟩ := hΓ
  intro ad H locs ls hE hR hL
  exact lv_dup2_11 hx hb hd (rv_cat ad u hu) (rv_cat ad v hv) (k ad H locs ls hE hR hL)
theorem qa_ldc2 (hΓ : Ok Γ l y cc mL d mc ms) {idx : Nat} {v : Int64} (hd : decode cc pc = .ok (.ldc2_w idx, 3)) (hc : Cond.constantLong y.cls idx v ∈ wsL_law) (k : Γ (pc + 3) L (aL v :: st) cs n w) : Γ pc L st cs n w := by
  obtain ⟨p, e, s, m, args, below, meth, c, D, cT, A, Q, n0, ad0, R, rfl, hx, hb, hml, hown, hnm, hts, hK, hA, hRf, hRl, hRc, hRs⟩ := hΓ
  intro ad H locs ls hE hR hL
  exact lv_ldc2 hx hb hown (hts _ hc) hd (k ad H locs ls hE hR hL)
theorem qa_lload_n (hΓ : Ok Γ l y cc mL d mc ms) {j : Fin 4} {x : Int64} (hd : decode cc pc = .ok (.lload_n j, 1)) (hl : lg L j = aL x) (k : Γ (pc + 1) L (aL x :: st) cs n w) : Γ pc L st cs n w := by
  obtain ⟨p, e, s, m, args, below, meth, c, D, cT, A, Q, n0, ad0, R, rfl, hx, hb, hml, hown, hnm, hts, hK, hA, hRf, hRl, hRc, hRs⟩ := hΓ
  intro ad H locs ls hE hR hL
  exact lv_lload_n hx hb hd rfl (hL.2.2 _ _ hl) (k ad H locs ls hE hR hL)
theorem qa_lload (hΓ : Ok Γ l y cc mL d mc ms) {j : Nat} {x : Int64} (hd : decode cc pc = .ok (.lload j, 2)) (hl : lg L j = aL x) (k : Γ (pc + 2) L (aL x :: st) cs n w) : Γ pc L st cs n w := by
  obtain ⟨p, e, s, m, args, below, meth, c, D, cT, A, Q, n0, ad0, R, rfl, hx, hb, hml, hown, hnm, hts, hK, hA, hRf, hRl, hRc, hRs⟩ := hΓ
  intro ad H locs ls hE hR hL
  exact lv_lload hx hb hd (hL.2.2 _ _ hl) (k ad H locs ls hE hR hL)
theorem qa_lstore_n (hΓ : Ok Γ l y cc mL d mc ms) {j : Fin 4} {x : Int64} (hd : decode cc pc = .ok (.lstore_n j, 1)) (hn : (j : Nat) + 1 < mL) (hn2 : (j : Nat) + 1 < L.length) (k : Γ (pc + 1) ((L.set j (aL x)).set (j + 1) none) st cs n w) (hs : lsf L j = true := by rfl) : Γ pc L (aL x :: st) cs n w := by
  obtain ⟨p, e, s, m, args, below, meth, c, D, cT, A, Q, n0, ad0, R, rfl, hx, hb, hml, hown, hnm, hts, hK, hA, hRf, hRl, hRc, hRs⟩ := hΓ
  intro ad H locs ls hE hR hL
  exact lv_lstore_n hx hb hd rfl hL.has hn rfl (fun ls' h' => k ad H locs ls' hE hR (Lc.setL hs hn2 h'))
theorem qa_lstore (hΓ : Ok Γ l y cc mL d mc ms) {j : Nat} {x : Int64} (hd : decode cc pc = .ok (.lstore j, 2)) (hn : j + 1 < mL) (hn2 : j + 1 < L.length) (k : Γ (pc + 2) ((L.set j (aL x)).set (j + 1) none) st cs n w) (hs : lsf L j = true := by rfl) : Γ pc L (aL x :: st) cs n w := by
  obtain ⟨p, e, s, m, args, below, meth, c, D, cT, A, Q, n0, ad0, R, rfl, hx, hb, hml, hown, hnm, hts, hK, hA, hRf, hRl, hRc, hRs⟩ := hΓ
  intro ad H locs ls hE hR hL
  exact lv_lstore hx hb hd hL.has hn rfl (fun ls' h' => k ad H locs ls' hE hR (Lc.setL hs hn2 h'))
theorem qa_lmul (hΓ : Ok Γ l y cc mL d mc ms) {x z : Int64} (hd : decode cc pc = .ok (.lmul, 1)) (k : Γ (pc + 1) L (aL (x * z) :: st) cs n w) : Γ pc L (aL z :: aL x :: st) cs n w := by
  obtain ⟨p, e, s, m, args, below, meth, c, D, cT, A, Q, n0, ad0, R, rfl, hx, hb, hml, hown, hnm, hts, hK, hA, hRf, hRl, hRc, hRs⟩ := hΓ
  intro ad H locs ls hE hR hL
  exact lv_lmul hx hb hd (k ad H locs ls hE hR hL)
theorem qa_ladd (hΓ : Ok Γ l y cc mL d mc ms) {x z : Int64} (hd : decode cc pc = .ok (.ladd, 1)) (k : Γ (pc + 1) L (aL (x + z) :: st) cs n w) : Γ pc L (aL z :: aL x :: st) cs n w := by
  obtain ⟨p, e, s, m, args, below, meth, c, D, cT, A, Q, n0, ad0, R, rfl, hx, hb, hml, hown, hnm, hts, hK, hA, hRf, hRl, hRc, hRs⟩ := hΓ
  intro ad H locs ls hE hR hL
  exact lv_ladd hx hb hd (k ad H locs ls hE hR hL)
theorem qa_i2l (hΓ : Ok Γ l y cc mL d mc ms) {x : Int32} (hd : decode cc pc = .ok (.i2l, 1)) (k : Γ (pc + 1) L (aL x.toInt64 :: st) cs n w) : Γ pc L (aI x :: st) cs n w := by
  obtain ⟨p, e, s, m, args, below, meth, c, D, cT, A, Q, n0, ad0, R, rfl, hx, hb, hml, hown, hnm, hts, hK, hA, hRf, hRl, hRc, hRs⟩ := hΓ
  intro ad H locs ls hE hR hL
  exact lv_i2l hx hb hd rfl (k ad H locs ls hE hR hL)
theorem qa_lcmp (hΓ : Ok Γ l y cc mL d mc ms) {x z : Int64} (hd : decode cc pc = .ok (.lcmp, 1)) (k : Γ (pc + 1) L (aI (lg_cmp x z) :: st) cs n w) : Γ pc L (aL z :: aL x :: st) cs n w := by
  obtain ⟨p, e, s, m, args, below, meth, c, D, cT, A, Q, n0, ad0, R, rfl, hx, hb, hml, hown, hnm, hts, hK, hA, hRf, hRl, hRc, hRs⟩ := hΓ
  intro ad H locs ls hE hR hL
  exact W.lcmp hx hb hd (k ad H locs ls hE hR hL)
theorem qa_ifnull (hΓ : Ok Γ l y cc mL d mc ms) {j : Nat} {off : Int} (hd : decode cc pc = .ok (.ifnull off, 3)) (k : Γ (pc + 3) L st cs n w) : Γ pc L (aR j :: st) cs n w := by
  obtain ⟨p, e, s, m, args, below, meth, c, D, cT, A, Q, n0, ad0, R, rfl, hx, hb, hml, hown, hnm, hts, hK, hA, hRf, hRl, hRc, hRs⟩ := hΓ
  intro ad H locs ls hE hR hL
  exact lv_ifnull hx hb hd (k ad H locs ls hE hR hL)
theorem qa_ifnullN (hΓ : Ok Γ l y cc mL d mc ms) {off : Int} {tgt : Nat} (hd : decode cc pc = .ok (.ifnull off, 3)) (ht : (pc : Int) + off = (tgt : Int)) (k : Γ tgt L st cs n w) : Γ pc L (aN :: st) cs n w := by
  obtain ⟨p, e, s, m, args, below, meth, c, D, cT, A, Q, n0, ad0, R, rfl, hx, hb, hml, hown, hnm, hts, hK, hA, hRf, hRl, hRc, hRs⟩ := hΓ
  intro ad H locs ls hE hR hL
  exact lv_ifnullN hx hb hd ht (k ad H locs ls hE hR hL)
theorem qa_ifnonnull (hΓ : Ok Γ l y cc mL d mc ms) {j : Nat} {off : Int} {tgt : Nat} (hd : decode cc pc = .ok (.ifnonnull off, 3)) (ht : (pc : Int) + off = (tgt : Int)) (k : Γ tgt L st cs n w) : Γ pc L (aR j :: st) cs n w := by
  obtain ⟨p, e, s, m, args, below, meth, c, D, cT, A, Q, n0, ad0, R, rfl, hx, hb, hml, hown, hnm, hts, hK, hA, hRf, hRl, hRc, hRs⟩ := hΓ
  intro ad H locs ls hE hR hL
  exact lv_ifnonnull hx hb hd ht (k ad H locs ls hE hR hL)
theorem qa_ifnonnullN (hΓ : Ok Γ l y cc mL d mc ms) {off : Int} (hd : decode cc pc = .ok (.ifnonnull off, 3)) (k : Γ (pc + 3) L st cs n w) : Γ pc L (aN :: st) cs n w := by
  obtain ⟨p, e, s, m, args, below, meth, c, D, cT, A, Q, n0, ad0, R, rfl, hx, hb, hml, hown, hnm, hts, hK, hA, hRf, hRl, hRc, hRs⟩ := hΓ
  intro ad H locs ls hE hR hL
  exact lv_ifnonnullN hx hb hd (k ad H locs ls hE hR hL)
theorem qa_tabOut (hΓ : Ok Γ l y cc mL d mc ms) {dflt lo hi : Int} {offs : Array Int} {len : Nat} {x : Int32} {tgt : Nat} (hd : decode cc pc = .ok (.tableswitch dflt lo hi offs, len)) (h : x.toInt < lo ∨ hi < x.toInt) (ht : (pc : Int) + dflt = (tgt : Int)) (k : Γ tgt L st cs n w) : Γ pc L (aI x :: st) cs n w := by
  obtain ⟨p, e, s, m, args, below, meth, c, D, cT, A, Q, n0, ad0, R, rfl, hx, hb, hml, hown, hnm, hts, hK, hA, hRf, hRl, hRc, hRs⟩ := hΓ
  intro ad H locs ls hE hR hL
  exact lv_tableOut hx hb hd h ht (k ad H locs ls hE hR hL)
theorem qa_tabIn (hΓ : Ok Γ l y cc mL d mc ms) {dflt lo hi : Int} {offs : Array Int} {len : Nat} {x : Int32} {off : Int} {tgt : Nat} (hd : decode cc pc = .ok (.tableswitch dflt lo hi offs, len)) (h1 : ¬ x.toInt < lo) (h2 : ¬ hi < x.toInt) (ho : offs[(x.toInt - lo).toNat]? = some off) (ht : (pc : Int) + off = (tgt : Int)) (k : Γ tgt L st cs n w) : Γ pc L (aI x :: st) cs n w := by
  obtain ⟨p, e, s, m, args, below, meth, c, D, cT, A, Q, n0, ad0, R, rfl, hx, hb, hml, hown, hnm, hts, hK, hA, hRf, hRl, hRc, hRs⟩ := hΓ
  intro ad H locs ls hE hR hL
  exact lv_tableIn hx hb hd h1 h2 ho ht (k ad H locs ls hE hR hL)
theorem qa_lookup (hΓ : Ok Γ l y cc mL d mc ms) {dflt : Int} {ps : Array (Int × Int)} {len : Nat} {x : Int32} {off : Int} {tgt : Nat} (hd : decode cc pc = .ok (.lookupswitch dflt ps, len)) (hp : (ps.toList.zip (ps.toList.drop 1)).all (fun (a, next) => a.1 < next.1) = true) (ho : Op.lookupswitch.offset ps.toList dflt x.toInt = off) (ht : (pc : Int) + off = (tgt : Int)) (k : Γ tgt L st cs n w) : Γ pc L (aI x :: st) cs n w := by
  obtain ⟨p, e, s, m, args, below, meth, c, D, cT, A, Q, n0, ad0, R, rfl, hx, hb, hml, hown, hnm, hts, hK, hA, hRf, hRl, hRc, hRs⟩ := hΓ
  intro ad H locs ls hE hR hL
  exact lv_lookup hx hb hd hp ho ht (k ad H locs ls hE hR hL)
theorem qa_ldc (hΓ : Ok Γ l y cc mL d mc ms) {j : Nat} {v : Int32} (hd : decode cc pc = .ok (.ldc j, 2)) (hc : Cond.constant y.cls j v ∈ wsL_law) (k : Γ (pc + 2) L (aI v :: st) cs n w) : Γ pc L st cs n w := by
  obtain ⟨p, e, s, m, args, below, meth, c, D, cT, A, Q, n0, ad0, R, rfl, hx, hb, hml, hown, hnm, hts, hK, hA, hRf, hRl, hRc, hRs⟩ := hΓ
  intro ad H locs ls hE hR hL
  exact lv_ldc hx hb hown (hts _ hc) hd (k ad H locs ls hE hR hL)
end
/-- a field by its place in the pool: kind ci of vwCl, slot k, final or not, its type -/
def FLK (own : String) (idx ci k : Nat) (fin : Bool) (ty : FieldType) : Prop := ∃ (C : String) (T : u_T) (N : Nat) (ty0 : Nat → FieldType), vwCl[ci]? = some (C, T, N) ∧ (∀ w ∈ u_ws C T N, w ∈ wsL_law) ∧ k < N ∧ Cond.fieldLink own idx (T k).1 (T k).2.1 (T k).2.2.1 ∈ wsL_law ∧ (∀ j, j < N → parseFieldDescriptor (T j).2.2.1 = some (ty0 j)) ∧ (∀ a, a < N → ∀ b, b < N → a ≠ b → (T a).2.1 ≠ (T b).2.1) ∧ (T k).2.2.2 = fin ∧ parseFieldDescriptor (T k).2.2.1 = some ty ∧ (T k).1 = C
/-- the same of a private field of another class of the nest -/
def FLN (own : String) (idx ci k : Nat) (fin : Bool) (ty : FieldType) : Prop := ∃ (C : String) (T : u_T) (N : Nat) (ty0 : Nat → FieldType), vwCl[ci]? = some (C, T, N) ∧ (∀ w ∈ u_ws C T N, w ∈ wsL_law) ∧ k < N ∧ (own, idx, (T k).1, (T k).2.1, (T k).2.2.1) ∈ nestF ∧ (∀ j, j < N → parseFieldDescriptor (T j).2.2.1 = some (ty0 j)) ∧ (∀ a, a < N → ∀ b, b < N → a ≠ b → (T a).2.1 ≠ (T b).2.1) ∧ (T k).2.2.2 = fin ∧ parseFieldDescriptor (T k).2.2.1 = some ty ∧ (T k).1 = C
/-- the same array, as far as it goes -/
def cEq (c c' : AC) : Prop := c = c' ∨ ∃ t n f g, c = cArr t n f ∧ c' = cArr t n g ∧ ∀ j, j < n → f j = g j
theorem vp_cell_ext {cA : ClassId} {n : Nat} {f g : Nat → Int32} (h : ∀ j, j < n → f j = g j) : vp_cell cA (n, .inl f) = vp_cell cA (n, .inl g) := by
  rw [vp_cell_i, vp_cell_i]
  unfold arrV
  congr 1
  congr 1
  funext j
  show Value.int (f j.val) = Value.int (g j.val)
  rw [h j.val j.isLt]
theorem Rp.ext {D : va_G} {cT : Nat → ClassId} {A : Nat → Prop} {s : State} {ad : Nat → Nat} {n : Nat} {w w' : Nat → AC} {H : Heap} {locs : List Loc} (h : Rp D cT A s ad n w H locs) (he : ∀ k, k < n → cEq (w k) (w' k)) : Rp D cT A s ad n w' H locs := by
  obtain ⟨hP, hD, hS⟩ := h
  have key : ∀ (k : Nat) (q : Nat × va_E), (wsW cT ad n w')[k]? = some q → k < n ∧ q = (ad k, rc cT ad (w' k)) := by
    intro k q hq
    rcases Nat.lt_or_ge k n with hk | hk
    · rw [wsW_get hk] at hq
      exact ⟨hk, (Option.some.inj hq).symm⟩
    · rw [List.getElem?_eq_none (by simp [wsW]; omega)] at hq
      cases hq
  refine ⟨fun k q hq => ?_, ⟨fun i j p q hi hj hpq => ?_, fun k q hq => ?_⟩, hS⟩
  · obtain ⟨hk, rfl⟩ := key k q hq
    have h1 := hP k _ (wsW_get hk)
    rcases he k hk with e | ⟨t, m, f, g, e1, e2, e3⟩
    · rw [← e]
      exact h1
    · rw [e1] at h1
      rw [e2]
      show H[ad k]? = some (vp_cell (cT t) (m, .inl g))
      rw [← vp_cell_ext e3]
      exact h1
  · obtain ⟨hi', rfl⟩ := key i p hi
    obtain ⟨hj', rfl⟩ := key j q hj
    exact hD.1 i j _ _ (wsW_get hi') (wsW_get hj') hpq
  · obtain ⟨hk, rfl⟩ := key k q hq
    exact hD.2 k (ad k, rc cT ad (w k)) (wsW_get hk)
theorem Rp.set {D : va_G} {cT : Nat → ClassId} {A : Nat → Prop} {s : State} {ad : Nat → Nat} {n k : Nat} {w : Nat → AC} {c : AC} {H : Heap} {locs : List Loc} (hk : k < n) (h1 : va_P D vwCl ((wsW cT ad n w).set k (ad k, rc cT ad c)) H) (h2 : va_D A ((wsW cT ad n w).set k (ad k, rc cT ad c))) (h3 : va_S A s.heap H locs) : Rp D cT A s ad n (upw w k c) H locs := by
  rw [wsW_set c hk] at h1 h2
  exact ⟨h1, h2, h3⟩
theorem ty_int (cT : Nat → ClassId) : (tysG cT)[0]? = some (cT 0, .int) := rfl
theorem ty_char (cT : Nat → ClassId) : (tysG cT)[2]? = some (cT 2, .char) := rfl
theorem ty_ref (cT : Nat → ClassId) : (tysG cT)[3]? = some (cT 3, .object "RelayBank$Bank") := rfl
section
variable {Γ : Gm} {l : Launch} {y : MethodName} {cc : ByteArray} {mL d mc ms : Nat} {pc n : Nat} {L st : List AV} {cs : Nat × Nat} {w : Nat → AC}
theorem qa_ext (hΓ : Ok Γ l y cc mL d mc ms) {w' : Nat → AC} (he : ∀ k, k < n → cEq (w k) (w' k)) (k : Γ pc L st cs n w') : Γ pc L st cs n w := by
  obtain ⟨p, e, s, m, args, below, meth, c, D, cT, A, Q, n0, ad0, R, rfl, hx, hb, hml, hown, hnm, hts, hK, hA, hRf, hRl, hRc, hRs⟩ := hΓ
  intro ad H locs ls hE hR hL
  exact k ad H locs ls hE (hR.ext he) hL
theorem qa_get (hΓ : Ok Γ l y cc mL d mc ms) {idx ci k k0 : Nat} {fin : Bool} {ty : FieldType} {fs : List AV} {v : AV} (hd : decode cc pc = .ok (.getfield idx, 3)) (hf : FLK y.cls idx ci k fin ty) (hk : k0 < n) (hw : w k0 = cObj ci fs) (hv : fs[k]? = some v) (kk : Γ (pc + 3) L (v :: st) cs n w) : Γ pc L (aR k0 :: st) cs n w := by
  obtain ⟨p, e, s, m, args, below, meth, c, D, cT, A, Q, n0, ad0, R, rfl, hx, hb, hml, hown, hnm, hts, hK, hA, hRf, hRl, hRc, hRs⟩ := hΓ
  intro ad H locs ls hE hR hL
  obtain ⟨C, T, N, ty0, f1, f2, f3, f4, f5, f6, f7, f8, f9⟩ := hf
  have he := wsW_get (cT := cT) (ad := ad) (w := w) hk
  rw [hw] at he
  exact va_get (D := D) (ci := ci) (v := rv ad v) (C := C) (T := T) (N := N) hx hb hts f2 hown hK.1 hR.1 k0 he f1 k f3 (hts _ f4) (fun _ h9 => h9) (by rw [List.getElem?_map, hv]; rfl) hd (kk ad H locs ls hE hR hL)
theorem qa_puti (hΓ : Ok Γ l y cc mL d mc ms) {idx ci k k0 : Nat} {fs : List AV} {x : Int32} (hd : decode cc pc = .ok (.putfield idx, 3)) (hf : FLK y.cls idx ci k false .int) (hk : k0 < n) (hw : w k0 = cObj ci fs) (hl : k < fs.length) (kk : Γ (pc + 3) L st cs n (upw w k0 (cObj ci (fs.set k (aI x))))) : Γ pc L (aI x :: aR k0 :: st) cs n w := by
  obtain ⟨p, e, s, m, args, below, meth, c, D, cT, A, Q, n0, ad0, R, rfl, hx, hb, hml, hown, hnm, hts, hK, hA, hRf, hRl, hRc, hRs⟩ := hΓ
  intro ad H locs ls hE hR hL
  obtain ⟨C, T, N, ty0, f1, f2, f3, f4, f5, f6, f7, f8, f9⟩ := hf
  have he := wsW_get (cT := cT) (ad := ad) (w := w) hk
  rw [hw] at he
  refine va_put (D := D) (ci := ci) (v := .int x) (ty := .int) (C := C) (T := T) (N := N) hx hb hts f2 ty0 f5 f6 hown hK.1 hR.1 hR.2.1 hR.2.2 k0 he f1 k f3 (hts _ f4) (fun _ h9 => h9) f7 f8 rfl rfl (by rw [List.length_map]; exact hl) hd (fun H1 locs1 g1 g2 g3 => kk ad H1 locs1 ls hE (Rp.set hk ?_ ?_ g3) hL)
  · show va_P D vwCl ((wsW cT ad n w).set k0 (ad k0, .inr (ci, (fs.set k (aI x)).map (rv ad)))) H1
    rw [List.map_set]
    exact g1
  · show va_D A ((wsW cT ad n w).set k0 (ad k0, .inr (ci, (fs.set k (aI x)).map (rv ad))))
    rw [List.map_set]
    exact g2
theorem qa_getN (hΓ : Ok Γ l y cc mL d mc ms) {idx ci k k0 : Nat} {fin : Bool} {ty : FieldType} {fs : List AV} {v : AV} (hd : decode cc pc = .ok (.getfield idx, 3)) (hf : FLN y.cls idx ci k fin ty) (hk : k0 < n) (hw : w k0 = cObj ci fs) (hv : fs[k]? = some v) (kk : Γ (pc + 3) L (v :: st) cs n w) : Γ pc L (aR k0 :: st) cs n w := by
  obtain ⟨p, e, s, m, args, below, meth, c, D, cT, A, Q, n0, ad0, R, rfl, hx, hb, hml, hown, hnm, hts, hK, hA, hRf, hRl, hRc, hRs⟩ := hΓ
  intro ad H locs ls hE hR hL
  obtain ⟨C, T, N, ty0, f1, f2, f3, f4, f5, f6, f7, f8, f9⟩ := hf
  have he := wsW_get (cT := cT) (ad := ad) (w := w) hk
  rw [hw] at he
  exact va_getN (D := D) (ci := ci) (v := rv ad v) (C := C) (T := T) (N := N) hx hb hts f2 hown hK.1 hR.1 k0 he f1 k f3 (va_Nw.use rfl (hK.2.2.2 _ f4)) (fun _ h9 => h9) (by rw [List.getElem?_map, hv]; rfl) hd (kk ad H locs ls hE hR hL)
theorem qa_putN (hΓ : Ok Γ l y cc mL d mc ms) {idx ci k k0 : Nat} {fs : List AV} {x : Int32} (hd : decode cc pc = .ok (.putfield idx, 3)) (hf : FLN y.cls idx ci k false .int) (hk : k0 < n) (hw : w k0 = cObj ci fs) (hl : k < fs.length) (kk : Γ (pc + 3) L st cs n (upw w k0 (cObj ci (fs.set k (aI x))))) : Γ pc L (aI x :: aR k0 :: st) cs n w := by
  obtain ⟨p, e, s, m, args, below, meth, c, D, cT, A, Q, n0, ad0, R, rfl, hx, hb, hml, hown, hnm, hts, hK, hA, hRf, hRl, hRc, hRs⟩ := hΓ
  intro ad H locs ls hE hR hL
  obtain ⟨C, T, N, ty0, f1, f2, f3, f4, f5, f6, f7, f8, f9⟩ := hf
  have he := wsW_get (cT := cT) (ad := ad) (w := w) hk
  rw [hw] at he
  refine va_putN (D := D) (ci := ci) (v := .int x) (ty := .int) (C := C) (T := T) (N := N) hx hb hts f2 ty0 f5 f6 hown hK.1 hR.1 hR.2.1 hR.2.2 k0 he f1 k f3 (va_Nw.use rfl (hK.2.2.2 _ f4)) (fun _ h9 => h9) f7 f8 rfl rfl (by rw [List.length_map]; exact hl) hd (fun H1 locs1 g1 g2 g3 => kk ad H1 locs1 ls hE (Rp.set hk ?_ ?_ g3) hL)
  · show va_P D vwCl ((wsW cT ad n w).set k0 (ad k0, .inr (ci, (fs.set k (aI x)).map (rv ad)))) H1
    rw [List.map_set]
    exact g1
  · show va_D A ((wsW cT ad n w).set k0 (ad k0, .inr (ci, (fs.set k (aI x)).map (rv ad))))
    rw [List.map_set]
    exact g2
theorem qa_putF (hΓ : Ok Γ l y cc mL d mc ms) {idx ci k k0 : Nat} {ty : FieldType} {fs : List AV} {v : AV} (hd : decode cc pc = .ok (.putfield idx, 3)) (hf : FLK y.cls idx ci k true ty) (hi : y.name = "<init>") (hC : ∀ C T N, vwCl[ci]? = some (C, T, N) → C = y.cls) (hn : ∀ ad : Nat → Nat, narrow ty (rv ad v) = rv ad v ∧ fits ty (rv ad v) = true) (hk : k0 < n) (hw : w k0 = cObj ci fs) (hl : k < fs.length) (kk : Γ (pc + 3) L st cs n (upw w k0 (cObj ci (fs.set k v)))) : Γ pc L (v :: aR k0 :: st) cs n w := by
  obtain ⟨p, e, s, m, args, below, meth, c, D, cT, A, Q, n0, ad0, R, rfl, hx, hb, hml, hown, hnm, hts, hK, hA, hRf, hRl, hRc, hRs⟩ := hΓ
  intro ad H locs ls hE hR hL
  obtain ⟨C, T, N, ty0, f1, f2, f3, f4, f5, f6, f7, f8, f9⟩ := hf
  have he := wsW_get (cT := cT) (ad := ad) (w := w) hk
  rw [hw] at he
  refine va_putF (D := D) (ci := ci) (v := rv ad v) (ty := ty) (C := C) (T := T) (N := N) hx hb hts f2 ty0 f5 f6 hown hK.1 hR.1 hR.2.1 hR.2.2 k0 he f1 k f3 (hts _ f4) (fun _ h9 => h9) f7 (hnm.trans hi) (f9.trans (hC C T N f1)) f8 (hn ad).1 (hn ad).2 (by rw [List.length_map]; exact hl) hd (fun H1 locs1 g1 g2 g3 => kk ad H1 locs1 ls hE (Rp.set hk ?_ ?_ g3) hL)
  · show va_P D vwCl ((wsW cT ad n w).set k0 (ad k0, .inr (ci, (fs.set k v).map (rv ad)))) H1
    rw [List.map_set]
    exact g1
  · show va_D A ((wsW cT ad n w).set k0 (ad k0, .inr (ci, (fs.set k v).map (rv ad))))
    rw [List.map_set]
    exact g2
theorem qa_iald (hΓ : Ok Γ l y cc mL d mc ms) {k0 N : Nat} {f : Nat → Int32} {i : Int32} (hd : decode cc pc = .ok (.iaload, 1)) (hk : k0 < n) (hw : w k0 = cArr 0 N f) (hin : vp_in i N) (kk : Γ (pc + 1) L (aI (f i.toNatClampNeg) :: st) cs n w) : Γ pc L (aI i :: aR k0 :: st) cs n w := by
  obtain ⟨p, e, s, m, args, below, meth, c, D, cT, A, Q, n0, ad0, R, rfl, hx, hb, hml, hown, hnm, hts, hK, hA, hRf, hRl, hRc, hRs⟩ := hΓ
  intro ad H locs ls hE hR hL
  have he := wsW_get (cT := cT) (ad := ad) (w := w) hk
  rw [hw] at he
  exact va_iald hx hb hK.1 hR.1 k0 0 he (ty_int cT) hin hd (kk ad H locs ls hE hR hL)
theorem qa_iast (hΓ : Ok Γ l y cc mL d mc ms) {k0 N : Nat} {f : Nat → Int32} {i x : Int32} (hd : decode cc pc = .ok (.iastore, 1)) (hk : k0 < n) (hw : w k0 = cArr 0 N f) (hin : vp_in i N) (kk : Γ (pc + 1) L st cs n (upw w k0 (cArr 0 N (upd f i.toNatClampNeg (x))))) : Γ pc L (aI x :: aI i :: aR k0 :: st) cs n w := by
  obtain ⟨p, e, s, m, args, below, meth, c, D, cT, A, Q, n0, ad0, R, rfl, hx, hb, hml, hown, hnm, hts, hK, hA, hRf, hRl, hRc, hRs⟩ := hΓ
  intro ad H locs ls hE hR hL
  have he := wsW_get (cT := cT) (ad := ad) (w := w) hk
  rw [hw] at he
  exact va_iast hx hb hK.1 hR.1 hR.2.1 hR.2.2 k0 0 he (ty_int cT) hin hd (fun H1 locs1 g1 g2 g3 => kk ad H1 locs1 ls hE (Rp.set hk g1 g2 g3) hL)
theorem qa_cald (hΓ : Ok Γ l y cc mL d mc ms) {k0 N : Nat} {f : Nat → Int32} {i : Int32} (hd : decode cc pc = .ok (.caload, 1)) (hk : k0 < n) (hw : w k0 = cArr 2 N f) (hin : vp_in i N) (kk : Γ (pc + 1) L (aI (f i.toNatClampNeg) :: st) cs n w) : Γ pc L (aI i :: aR k0 :: st) cs n w := by
  obtain ⟨p, e, s, m, args, below, meth, c, D, cT, A, Q, n0, ad0, R, rfl, hx, hb, hml, hown, hnm, hts, hK, hA, hRf, hRl, hRc, hRs⟩ := hΓ
  intro ad H locs ls hE hR hL
  have he := wsW_get (cT := cT) (ad := ad) (w := w) hk
  rw [hw] at he
  exact va_cald hx hb hK.1 hR.1 k0 2 he (ty_char cT) hin hd (kk ad H locs ls hE hR hL)
theorem qa_cast (hΓ : Ok Γ l y cc mL d mc ms) {k0 N : Nat} {f : Nat → Int32} {i x : Int32} (hd : decode cc pc = .ok (.castore, 1)) (hk : k0 < n) (hw : w k0 = cArr 2 N f) (hin : vp_in i N) (kk : Γ (pc + 1) L st cs n (upw w k0 (cArr 2 N (upd f i.toNatClampNeg (vp_nar .char x))))) : Γ pc L (aI x :: aI i :: aR k0 :: st) cs n w := by
  obtain ⟨p, e, s, m, args, below, meth, c, D, cT, A, Q, n0, ad0, R, rfl, hx, hb, hml, hown, hnm, hts, hK, hA, hRf, hRl, hRc, hRs⟩ := hΓ
  intro ad H locs ls hE hR hL
  have he := wsW_get (cT := cT) (ad := ad) (w := w) hk
  rw [hw] at he
  exact va_cast hx hb hK.1 hR.1 hR.2.1 hR.2.2 k0 2 he (ty_char cT) hin hd (fun H1 locs1 g1 g2 g3 => kk ad H1 locs1 ls hE (Rp.set hk g1 g2 g3) hL)
theorem qa_alen (hΓ : Ok Γ l y cc mL d mc ms) {k0 t N : Nat} {f : Nat → Int32} {v : Int32} (hd : decode cc pc = .ok (.arraylength, 1)) (hk : k0 < n) (hw : w k0 = cArr t N f) (ht : t = 0 ∨ t = 2) (hv : nI N = v) (kk : Γ (pc + 1) L (aI v :: st) cs n w) : Γ pc L (aR k0 :: st) cs n w := by
  obtain ⟨p, e, s, m, args, below, meth, c, D, cT, A, Q, n0, ad0, R, rfl, hx, hb, hml, hown, hnm, hts, hK, hA, hRf, hRl, hRc, hRs⟩ := hΓ
  intro ad H locs ls hE hR hL
  have he := wsW_get (cT := cT) (ad := ad) (w := w) hk
  rw [hw] at he
  rcases ht with rfl | rfl
  · exact va_alen hx hb hK.1 hR.1 k0 0 he (ty_int cT) hv hd (kk ad H locs ls hE hR hL)
  · exact va_alen hx hb hK.1 hR.1 k0 2 he (ty_char cT) hv hd (kk ad H locs ls hE hR hL)
theorem qa_alenR (hΓ : Ok Γ l y cc mL d mc ms) {k0 N : Nat} {f : Nat → Option Nat} {v : Int32} (hd : decode cc pc = .ok (.arraylength, 1)) (hk : k0 < n) (hw : w k0 = cRef N f) (hv : nI N = v) (kk : Γ (pc + 1) L (aI v :: st) cs n w) : Γ pc L (aR k0 :: st) cs n w := by
  obtain ⟨p, e, s, m, args, below, meth, c, D, cT, A, Q, n0, ad0, R, rfl, hx, hb, hml, hown, hnm, hts, hK, hA, hRf, hRl, hRc, hRs⟩ := hΓ
  intro ad H locs ls hE hR hL
  have he := wsW_get (cT := cT) (ad := ad) (w := w) hk
  rw [hw] at he
  exact va_alen hx hb hK.1 hR.1 k0 3 he (ty_ref cT) hv hd (kk ad H locs ls hE hR hL)
theorem qa_aald (hΓ : Ok Γ l y cc mL d mc ms) {k0 N : Nat} {f : Nat → Option Nat} {i : Int32} (hd : decode cc pc = .ok (.aaload, 1)) (hk : k0 < n) (hw : w k0 = cRef N f) (hin : vp_in i N) (kk : Γ (pc + 1) L (some (.inr (f i.toNatClampNeg)) :: st) cs n w) : Γ pc L (aI i :: aR k0 :: st) cs n w := by
  obtain ⟨p, e, s, m, args, below, meth, c, D, cT, A, Q, n0, ad0, R, rfl, hx, hb, hml, hown, hnm, hts, hK, hA, hRf, hRl, hRc, hRs⟩ := hΓ
  intro ad H locs ls hE hR hL
  have he := wsW_get (cT := cT) (ad := ad) (w := w) hk
  rw [hw] at he
  have e : va_rf ((f i.toNatClampNeg).map ad) = rv ad (some (.inr (f i.toNatClampNeg))) := by
    cases f i.toNatClampNeg <;> rfl
  refine va_aldq hx hb hK.1 hR.1 k0 3 he (ty_ref cT) hin hd ?_
  rw [e]
  exact kk ad H locs ls hE hR hL
theorem qa_aast (hΓ : Ok Γ l y cc mL d mc ms) {k0 N j ci : Nat} {fs : List AV} {f : Nat → Option Nat} {i : Int32} (hd : decode cc pc = .ok (.aastore, 1)) (hk : k0 < n) (hw : w k0 = cRef N f) (hj : j < n) (hwj : w j = cObj 0 fs) (hin : vp_in i N) (kk : Γ (pc + 1) L st cs n (upw w k0 (cRef N (va_up f i.toNatClampNeg (some j))))) : Γ pc L (aR j :: aI i :: aR k0 :: st) cs n w := by
  obtain ⟨p, e, s, m, args, below, meth, c, D, cT, A, Q, n0, ad0, R, rfl, hx, hb, hml, hown, hnm, hts, hK, hA, hRf, hRl, hRc, hRs⟩ := hΓ
  intro ad H locs ls hE hR hL
  have he := wsW_get (cT := cT) (ad := ad) (w := w) hk
  rw [hw] at he
  have hej := wsW_get (cT := cT) (ad := ad) (w := w) hj
  rw [hwj] at hej
  refine va_astq (r := (RX0, TX0, 15)) hx hb hK.1 hR.1 hR.2.1 hR.2.2 k0 3 j 0 he (ty_ref cT) hej rfl hin hd (fun H1 locs1 g1 g2 g3 => kk ad H1 locs1 ls hE ?_ hL)
  have e : (fun k => (va_up f i.toNatClampNeg (some j) k).map ad) = va_up (fun k => (f k).map ad) i.toNatClampNeg (some (ad j)) := by
    funext k
    by_cases h : k = i.toNatClampNeg <;> simp [va_up, h]
  refine Rp.set hk ?_ ?_ g3
  · show va_P D vwCl ((wsW cT ad n w).set k0 (ad k0, .inl (cT 3, N, .inr (.inr (.inr (.inr (fun k => (va_up f i.toNatClampNeg (some j) k).map ad))))))) H1
    rw [e]
    exact g1
  · show va_D A ((wsW cT ad n w).set k0 (ad k0, .inl (cT 3, N, .inr (.inr (.inr (.inr (fun k => (va_up f i.toNatClampNeg (some j) k).map ad)))))))
    rw [e]
    exact g2
theorem qa_copy (hΓ : Ok Γ l y cc mL d mc ms) {idx k0 k1 N : Nat} {f g : Nat → Int32} {x z v : Int32} (hd : decode cc pc = .ok (.invokestatic idx, 3)) (hl : Cond.methodLink y.cls idx arraycopyName ∈ wsL_law) (h0 : k0 < n) (hw0 : w k0 = cArr 0 N f) (h1 : k1 < n) (hw1 : w k1 = cArr 0 N g) (hx0 : x = 0) (hz0 : z = 0) (hv : v = nI N) (hN : N < 2 ^ 31) (hdd : 1 ≤ d) (hst : st = []) (kk : Γ (pc + 3) L st cs n (upw w k1 (cArr 0 N f))) : Γ pc L (aI v :: aI z :: aR k1 :: aI x :: aR k0 :: st) cs n w := by
  obtain ⟨p, e, s, m, args, below, meth, c, D, cT, A, Q, n0, ad0, R, rfl, hx, hb, hml, hown, hnm, hts, hK, hA, hRf, hRl, hRc, hRs⟩ := hΓ
  intro ad H locs ls hE hR hL
  have e0 := wsW_get (cT := cT) (ad := ad) (w := w) h0
  rw [hw0] at e0
  have e1 := wsW_get (cT := cT) (ad := ad) (w := w) h1
  rw [hw1] at e1
  subst hx0 hz0 hv hst
  have hz : (0 : Int32).toNatClampNeg = 0 := rfl
  refine va_copyi hx hb (by rw [hml]; exact hL.1.symm) hown (hts _ hl) (hts _ cpy_nat) (hts _ cpy_sta) (hts _ cpy_ini) hK.1 hR.1 hR.2.1 hR.2.2 k0 k1 0 0 e0 e1 (ty_int cT) (ty_int cT) rfl (by decide) (by decide) (nI_pos hN) (by rw [hz, nI_clamp hN]; omega) (by rw [hz, nI_clamp hN]; omega) (fun _ _ => rfl) (by omega) (by show 0 + (7 + 11) ≤ _; omega) hd (fun H1 locs1 g1 g2 g3 => kk ad H1 locs1 ls hE ?_ hL)
  have h9 : Rp D cT A s ad n (upw w k1 (cArr 0 N (va_cpy f g 0 0 (nI N).toNatClampNeg))) H1 locs1 := Rp.set h1 g1 g2 g3
  refine h9.ext fun k hk => ?_
  by_cases e : k = k1
  · subst e
    rw [upw_self, upw_self]
    refine Or.inr ⟨0, N, _, f, rfl, rfl, fun j hj => ?_⟩
    rw [nI_clamp hN]
    simp [va_cpy, hj]
  · rw [upw_ne _ _ _ e, upw_ne _ _ _ e]
    exact Or.inl rfl
end
