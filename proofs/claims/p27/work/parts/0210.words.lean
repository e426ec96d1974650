theorem mem_ps {big : List Cond} (ws : List Cond) (ps : List Nat) (h : ws.map some = ps.map (fun i => big[i]?)) : ∀ w ∈ ws, w ∈ big := by
  intro w hw
  have h1 : some w ∈ ps.map (fun i => big[i]?) := by rw [← h]; exact List.mem_map.mpr ⟨w, hw, rfl⟩
  obtain ⟨i, -, hi⟩ := List.mem_map.mp h1
  exact List.mem_of_getElem? hi
set_option maxRecDepth 20000 in
theorem wsL_law_i1 : ∀ w ∈ wsL_law_r1, w ∈ lw_tbl := mem_ps _ [17, 18, 9, 19, 20, 21, 22, 23, 24, 25, 26, 10, 140, 90, 91, 11, 141, 110, 111, 12, 142, 124, 125, 13] (by decide +kernel)
set_option maxRecDepth 20000 in
theorem wsL_law_g1 : wsL_law_r1.all goodWord = true := by decide +kernel
set_option maxRecDepth 20000 in
theorem wsL_law_i2 : ∀ w ∈ wsL_law_r2, w ∈ lw_tbl := mem_ps _ [143, 144, 145, 27, 28, 29, 30, 89, 32, 34, 36, 38, 39, 40, 31, 92, 93, 94, 95, 96, 99, 98, 113, 114] (by decide +kernel)
set_option maxRecDepth 20000 in
theorem wsL_law_g2 : wsL_law_r2.all goodWord = true := by decide +kernel
set_option maxRecDepth 20000 in
theorem wsL_law_i3 : ∀ w ∈ wsL_law_r3, w ∈ lw_tbl := mem_ps _ [115, 123, 116, 127, 128, 129, 130, 322, 323, 8, 324, 325, 326, 327, 328, 329, 330, 331, 338, 339, 340, 159, 160, 161] (by decide +kernel)
set_option maxRecDepth 20000 in
theorem wsL_law_g3 : wsL_law_r3.all goodWord = true := by decide +kernel
set_option maxRecDepth 20000 in
theorem wsL_law_i4 : ∀ w ∈ wsL_law_r4, w ∈ lw_tbl := mem_ps _ [162, 163, 164, 165, 166, 167, 168, 169, 170, 50, 52, 56, 57, 171, 172, 173, 174, 175, 176, 177, 178, 43, 180, 181] (by decide +kernel)
set_option maxRecDepth 20000 in
theorem wsL_law_g4 : wsL_law_r4.all goodWord = true := by decide +kernel
set_option maxRecDepth 20000 in
theorem wsL_law_i5 : ∀ w ∈ wsL_law_r5, w ∈ lw_tbl := mem_ps _ [182, 183, 184, 185, 186, 187, 188, 190, 191, 192, 193, 195, 196, 197, 198, 199, 200, 201, 202, 203, 204, 205, 206, 207] (by decide +kernel)
set_option maxRecDepth 20000 in
theorem wsL_law_g5 : wsL_law_r5.all goodWord = true := by decide +kernel
set_option maxRecDepth 20000 in
theorem wsL_law_i6 : ∀ w ∈ wsL_law_r6, w ∈ lw_tbl := mem_ps _ [208, 209, 210, 14, 211, 212, 213, 214, 215, 216, 217, 218, 46, 220, 219, 221, 222, 223, 224, 332, 333, 334, 335, 229] (by decide +kernel)
set_option maxRecDepth 20000 in
theorem wsL_law_g6 : wsL_law_r6.all goodWord = true := by decide +kernel
set_option maxRecDepth 20000 in
theorem wsL_law_i7 : ∀ w ∈ wsL_law_r7, w ∈ lw_tbl := mem_ps _ [336, 337, 225, 226, 227, 228, 230, 231, 232, 233, 234, 236, 0, 237, 238, 239, 240, 241, 242, 243, 244, 48, 245, 246] (by decide +kernel)
set_option maxRecDepth 20000 in
theorem wsL_law_g7 : wsL_law_r7.all goodWord = true := by decide +kernel
set_option maxRecDepth 20000 in
theorem wsL_law_i8 : ∀ w ∈ wsL_law_r8, w ∈ lw_tbl := mem_ps _ [247, 248, 341, 342, 343, 344, 345, 346, 347, 348, 349, 350, 351, 352, 353, 354, 355, 356, 357, 358, 101, 100, 318, 319] (by decide +kernel)
set_option maxRecDepth 20000 in
theorem wsL_law_g8 : wsL_law_r8.all goodWord = true := by decide +kernel
set_option maxRecDepth 20000 in
theorem wsL_law_i9 : ∀ w ∈ wsL_law_r9, w ∈ lw_tbl := mem_ps _ [15, 320, 314, 316, 6, 317, 321, 258, 259, 260, 261, 263, 262, 16, 44, 54, 359, 360, 361, 362, 363, 364, 365, 366] (by decide +kernel)
set_option maxRecDepth 20000 in
theorem wsL_law_g9 : wsL_law_r9.all goodWord = true := by decide +kernel
set_option maxRecDepth 20000 in
theorem wsL_law_i10 : ∀ w ∈ wsL_law_r10, w ∈ lw_tbl := mem_ps _ [278, 279, 367, 368, 369, 370, 371, 372, 373, 374, 375, 376, 377, 378, 379, 380, 381, 382, 383, 385, 7, 386, 284, 286] (by decide +kernel)
set_option maxRecDepth 20000 in
theorem wsL_law_g10 : wsL_law_r10.all goodWord = true := by decide +kernel
set_option maxRecDepth 20000 in
theorem wsL_law_i11 : ∀ w ∈ wsL_law_r11, w ∈ lw_tbl := mem_ps _ [3, 287, 288, 289, 290, 292, 4, 293, 387, 388, 389, 390, 391, 392, 393, 394, 395, 396, 397, 398, 399, 400, 401, 402] (by decide +kernel)
set_option maxRecDepth 20000 in
theorem wsL_law_g11 : wsL_law_r11.all goodWord = true := by decide +kernel
set_option maxRecDepth 20000 in
theorem wsL_law_i12 : ∀ w ∈ wsL_law_r12, w ∈ lw_tbl := mem_ps _ [403, 404, 405, 406, 407, 408, 409, 410, 411, 412, 413, 414, 415, 416, 417, 418, 419, 420, 421, 422, 264, 265, 266, 267] (by decide +kernel)
set_option maxRecDepth 20000 in
theorem wsL_law_g12 : wsL_law_r12.all goodWord = true := by decide +kernel
set_option maxRecDepth 20000 in
theorem wsL_law_i13 : ∀ w ∈ wsL_law_r13, w ∈ lw_tbl := mem_ps _ [268, 269, 270, 271, 272, 273, 274, 275, 276, 280, 282, 2, 283, 423, 424, 425, 426, 427, 257, 428, 429, 430, 431, 432] (by decide +kernel)
set_option maxRecDepth 20000 in
theorem wsL_law_g13 : wsL_law_r13.all goodWord = true := by decide +kernel
set_option maxRecDepth 20000 in
theorem wsL_law_i14 : ∀ w ∈ wsL_law_r14, w ∈ lw_tbl := mem_ps _ [433, 306, 307, 308, 309, 310, 311, 312, 313, 298, 299, 300, 301, 302, 304, 5, 305, 253, 255, 1, 256, 294, 295, 296] (by decide +kernel)
set_option maxRecDepth 20000 in
theorem wsL_law_g14 : wsL_law_r14.all goodWord = true := by decide +kernel
set_option maxRecDepth 20000 in
theorem wsL_law_i15 : ∀ w ∈ wsL_law_r15, w ∈ lw_tbl := mem_ps _ [297, 249, 250, 251, 252] (by decide +kernel)
set_option maxRecDepth 20000 in
theorem wsL_law_g15 : wsL_law_r15.all goodWord = true := by decide +kernel
theorem wsl_X0_i : ∀ w ∈ wsX00, w ∈ lw_tbl := mem_ps _ [58, 60, 62, 64, 66, 68, 70, 72, 74, 76, 78, 80, 82, 84, 86] (by decide +kernel)
theorem wsl_X0_g : wsX00.all goodWord = true := by decide +kernel
theorem wsl_X2_i : ∀ w ∈ wsX20, w ∈ lw_tbl := mem_ps _ [131, 133, 135, 137] (by decide +kernel)
theorem wsl_X2_g : wsX20.all goodWord = true := by decide +kernel
theorem wsl_X3_i : ∀ w ∈ wsX30, w ∈ lw_tbl := mem_ps _ [103, 105, 107] (by decide +kernel)
theorem wsl_X3_g : wsX30.all goodWord = true := by decide +kernel
theorem wsl_X4_i : ∀ w ∈ wsX40, w ∈ lw_tbl := mem_ps _ [118, 120] (by decide +kernel)
theorem wsl_X4_g : wsX40.all goodWord = true := by decide +kernel
theorem wsl_X5_i : ∀ w ∈ wsX50, w ∈ lw_tbl := mem_ps _ [146, 148, 150, 152, 154, 156] (by decide +kernel)
theorem wsl_X5_g : wsX50.all goodWord = true := by decide +kernel
theorem wsL_law_in : ∀ w ∈ wsL_law, w ∈ lw_tbl := by
  unfold wsL_law
  exact List.forall_mem_append.mpr ⟨List.forall_mem_append.mpr ⟨List.forall_mem_append.mpr ⟨List.forall_mem_append.mpr ⟨List.forall_mem_append.mpr ⟨List.forall_mem_append.mpr ⟨List.forall_mem_append.mpr ⟨wsL_law_i1, List.forall_mem_append.mpr ⟨wsL_law_i2, List.forall_mem_append.mpr ⟨wsL_law_i3, List.forall_mem_append.mpr ⟨wsL_law_i4, List.forall_mem_append.mpr ⟨wsL_law_i5, List.forall_mem_append.mpr ⟨wsL_law_i6, List.forall_mem_append.mpr ⟨wsL_law_i7, List.forall_mem_append.mpr ⟨wsL_law_i8, List.forall_mem_append.mpr ⟨wsL_law_i9, List.forall_mem_append.mpr ⟨wsL_law_i10, List.forall_mem_append.mpr ⟨wsL_law_i11, List.forall_mem_append.mpr ⟨wsL_law_i12, List.forall_mem_append.mpr ⟨wsL_law_i13, List.forall_mem_append.mpr ⟨wsL_law_i14, wsL_law_i15⟩⟩⟩⟩⟩⟩⟩⟩⟩⟩⟩⟩⟩⟩, wsl_X5_i⟩, wsl_X0_i⟩, wsl_X3_i⟩, wsl_X4_i⟩, wsl_X2_i⟩, (fun _ h => absurd h List.not_mem_nil)⟩
theorem wsL_law_gd : ∀ w ∈ wsL_law, goodWord w = true := by
  unfold wsL_law
  exact List.forall_mem_append.mpr ⟨List.forall_mem_append.mpr ⟨List.forall_mem_append.mpr ⟨List.forall_mem_append.mpr ⟨List.forall_mem_append.mpr ⟨List.forall_mem_append.mpr ⟨List.forall_mem_append.mpr ⟨(List.all_eq_true.mp wsL_law_g1), List.forall_mem_append.mpr ⟨(List.all_eq_true.mp wsL_law_g2), List.forall_mem_append.mpr ⟨(List.all_eq_true.mp wsL_law_g3), List.forall_mem_append.mpr ⟨(List.all_eq_true.mp wsL_law_g4), List.forall_mem_append.mpr ⟨(List.all_eq_true.mp wsL_law_g5), List.forall_mem_append.mpr ⟨(List.all_eq_true.mp wsL_law_g6), List.forall_mem_append.mpr ⟨(List.all_eq_true.mp wsL_law_g7), List.forall_mem_append.mpr ⟨(List.all_eq_true.mp wsL_law_g8), List.forall_mem_append.mpr ⟨(List.all_eq_true.mp wsL_law_g9), List.forall_mem_append.mpr ⟨(List.all_eq_true.mp wsL_law_g10), List.forall_mem_append.mpr ⟨(List.all_eq_true.mp wsL_law_g11), List.forall_mem_append.mpr ⟨(List.all_eq_true.mp wsL_law_g12), List.forall_mem_append.mpr ⟨(List.all_eq_true.mp wsL_law_g13), List.forall_mem_append.mpr ⟨(List.all_eq_true.mp wsL_law_g14), (List.all_eq_true.mp wsL_law_g15)⟩⟩⟩⟩⟩⟩⟩⟩⟩⟩⟩⟩⟩⟩, (List.all_eq_true.mp wsl_X5_g)⟩, (List.all_eq_true.mp wsl_X0_g)⟩, (List.all_eq_true.mp wsl_X3_g)⟩, (List.all_eq_true.mp wsl_X4_g)⟩, (List.all_eq_true.mp wsl_X2_g)⟩, (fun _ h => absurd h List.not_mem_nil)⟩
theorem wsL_GI : GoodIn wsL_law wsL_law := fun w h => ⟨h, good_of_word (wsL_law_gd w h)⟩
