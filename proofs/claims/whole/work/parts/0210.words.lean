theorem mem_ps {big : List Cond} (ws : List Cond) (ps : List Nat) (h : ws.map some = ps.map (fun i => big[i]?)) : ∀ w ∈ ws, w ∈ big := by
  intro w hw
  have h1 : some w ∈ ps.map (fun i => big[i]?) := by rw [← h]; exact List.mem_map.mpr ⟨w, hw, rfl⟩
  obtain ⟨i, -, hi⟩ := List.mem_map.mp h1
  exact List.mem_of_getElem? hi
set_option maxRecDepth 20000 in
theorem wsL_law_i1 : ∀ w ∈ wsL_law_r1, w ∈ lw_tbl := mem_ps _ [55, 56, 46, 536, 537, 51, 57, 58, 59, 60, 61, 62, 63, 64, 47, 185, 128, 129, 48, 186, 148, 149, 49, 187] (by decide +kernel)
set_option maxRecDepth 20000 in
theorem wsL_law_g1 : wsL_law_r1.all goodWord = true := by decide +kernel
set_option maxRecDepth 20000 in
theorem wsL_law_i2 : ∀ w ∈ wsL_law_r2, w ∈ lw_tbl := mem_ps _ [164, 165, 50, 188, 189, 190, 65, 66, 67, 68, 127, 70, 72, 74, 76, 77, 78, 69, 130, 131, 132, 133, 134, 137] (by decide +kernel)
set_option maxRecDepth 20000 in
theorem wsL_law_g2 : wsL_law_r2.all goodWord = true := by decide +kernel
set_option maxRecDepth 20000 in
theorem wsL_law_i3 : ∀ w ∈ wsL_law_r3, w ∈ lw_tbl := mem_ps _ [136, 151, 152, 153, 163, 154, 167, 168, 169, 170, 538, 539, 540, 541, 542, 543, 545, 546, 570, 547, 548, 204, 205, 206] (by decide +kernel)
set_option maxRecDepth 20000 in
theorem wsL_law_g3 : wsL_law_r3.all goodWord = true := by decide +kernel
set_option maxRecDepth 20000 in
theorem wsL_law_i4 : ∀ w ∈ wsL_law_r4, w ∈ lw_tbl := mem_ps _ [207, 208, 209, 210, 211, 212, 213, 214, 215, 216, 217, 139, 138, 218, 219, 52, 220, 221, 223, 0, 224, 225, 226, 227] (by decide +kernel)
set_option maxRecDepth 20000 in
theorem wsL_law_g4 : wsL_law_r4.all goodWord = true := by decide +kernel
set_option maxRecDepth 20000 in
theorem wsL_law_i5 : ∀ w ∈ wsL_law_r5, w ∈ lw_tbl := mem_ps _ [228, 229, 231, 230, 53, 81, 82, 84, 86, 88, 90, 92, 94, 95, 232, 233, 234, 235, 236, 237, 238, 239, 241, 242] (by decide +kernel)
set_option maxRecDepth 20000 in
theorem wsL_law_g5 : wsL_law_r5.all goodWord = true := by decide +kernel
set_option maxRecDepth 20000 in
theorem wsL_law_i6 : ∀ w ∈ wsL_law_r6, w ∈ lw_tbl := mem_ps _ [244, 245, 575, 576, 577, 578, 579, 580, 581, 582, 584, 14, 585, 544, 586, 588, 15, 589, 246, 247, 248, 249, 250, 251] (by decide +kernel)
set_option maxRecDepth 20000 in
theorem wsL_law_g6 : wsL_law_r6.all goodWord = true := by decide +kernel
set_option maxRecDepth 20000 in
theorem wsL_law_i7 : ∀ w ∈ wsL_law_r7, w ∈ lw_tbl := mem_ps _ [252, 253, 255, 590, 591, 592, 593, 594, 596, 16, 597, 598, 600, 17, 601, 256, 257, 258, 259, 260, 261, 262, 263, 264] (by decide +kernel)
set_option maxRecDepth 20000 in
theorem wsL_law_g7 : wsL_law_r7.all goodWord = true := by decide +kernel
set_option maxRecDepth 20000 in
theorem wsL_law_i8 : ∀ w ∈ wsL_law_r8, w ∈ lw_tbl := mem_ps _ [265, 266, 267, 268, 269, 270, 271, 272, 273, 274, 54, 275, 276, 277, 278, 279, 281, 1, 282, 283, 285, 2, 286, 287] (by decide +kernel)
set_option maxRecDepth 20000 in
theorem wsL_law_g8 : wsL_law_r8.all goodWord = true := by decide +kernel
set_option maxRecDepth 20000 in
theorem wsL_law_i9 : ∀ w ∈ wsL_law_r9, w ∈ lw_tbl := mem_ps _ [288, 289, 290, 295, 291, 292, 293, 294, 296, 297, 298, 299, 301, 302, 303, 305, 3, 306, 307, 308, 309, 602, 603, 604] (by decide +kernel)
set_option maxRecDepth 20000 in
theorem wsL_law_g9 : wsL_law_r9.all goodWord = true := by decide +kernel
set_option maxRecDepth 20000 in
theorem wsL_law_i10 : ∀ w ∈ wsL_law_r10, w ∈ lw_tbl := mem_ps _ [605, 549, 606, 608, 18, 609, 610, 612, 19, 613, 614, 616, 20, 617, 618, 620, 21, 621, 622, 624, 22, 625, 626, 628] (by decide +kernel)
set_option maxRecDepth 20000 in
theorem wsL_law_g10 : wsL_law_r10.all goodWord = true := by decide +kernel
set_option maxRecDepth 20000 in
theorem wsL_law_i11 : ∀ w ∈ wsL_law_r11, w ∈ lw_tbl := mem_ps _ [23, 629, 630, 632, 24, 633, 310, 311, 312, 313, 314, 315, 316, 317, 634, 635, 636, 637, 318, 319, 320, 321, 322, 323] (by decide +kernel)
set_option maxRecDepth 20000 in
theorem wsL_law_g11 : wsL_law_r11.all goodWord = true := by decide +kernel
set_option maxRecDepth 20000 in
theorem wsL_law_i12 : ∀ w ∈ wsL_law_r12, w ∈ lw_tbl := mem_ps _ [324, 325, 155, 638, 639, 640, 641, 326, 327, 328, 329, 642, 643, 644, 645, 330, 331, 332, 333, 334, 335, 336, 337, 174] (by decide +kernel)
set_option maxRecDepth 20000 in
theorem wsL_law_g12 : wsL_law_r12.all goodWord = true := by decide +kernel
set_option maxRecDepth 20000 in
theorem wsL_law_i13 : ∀ w ∈ wsL_law_r13, w ∈ lw_tbl := mem_ps _ [172, 175, 338, 339, 340, 341, 342, 344, 4, 345, 346, 348, 5, 349, 350, 352, 6, 353, 355, 357, 7, 358, 359, 361] (by decide +kernel)
set_option maxRecDepth 20000 in
theorem wsL_law_g13 : wsL_law_r13.all goodWord = true := by decide +kernel
set_option maxRecDepth 20000 in
theorem wsL_law_i14 : ∀ w ∈ wsL_law_r14, w ∈ lw_tbl := mem_ps _ [8, 362, 363, 365, 9, 366, 369, 370, 371, 372, 373, 374, 646, 647, 648, 649, 550, 650, 652, 25, 653, 654, 656, 26] (by decide +kernel)
set_option maxRecDepth 20000 in
theorem wsL_law_g14 : wsL_law_r14.all goodWord = true := by decide +kernel
set_option maxRecDepth 20000 in
theorem wsL_law_i15 : ∀ w ∈ wsL_law_r15, w ∈ lw_tbl := mem_ps _ [657, 658, 660, 27, 661, 662, 664, 28, 665, 666, 668, 29, 669, 670, 672, 30, 673, 674, 676, 31, 677, 678, 680, 32] (by decide +kernel)
set_option maxRecDepth 20000 in
theorem wsL_law_g15 : wsL_law_r15.all goodWord = true := by decide +kernel
set_option maxRecDepth 20000 in
theorem wsL_law_i16 : ∀ w ∈ wsL_law_r16, w ∈ lw_tbl := mem_ps _ [681, 375, 376, 377, 378, 379, 380, 381, 382, 383, 384, 385, 386, 682, 683, 684, 685, 387, 388, 389, 390, 391, 392, 393] (by decide +kernel)
set_option maxRecDepth 20000 in
theorem wsL_law_g16 : wsL_law_r16.all goodWord = true := by decide +kernel
set_option maxRecDepth 20000 in
theorem wsL_law_i17 : ∀ w ∈ wsL_law_r17, w ∈ lw_tbl := mem_ps _ [394, 395, 396, 397, 398, 686, 687, 688, 689, 399, 400, 401, 402, 403, 404, 405, 690, 691, 692, 693, 406, 407, 408, 409] (by decide +kernel)
set_option maxRecDepth 20000 in
theorem wsL_law_g17 : wsL_law_r17.all goodWord = true := by decide +kernel
set_option maxRecDepth 20000 in
theorem wsL_law_i18 : ∀ w ∈ wsL_law_r18, w ∈ lw_tbl := mem_ps _ [410, 411, 412, 413, 414, 415, 416, 417, 418, 419, 420, 421, 422, 423, 424, 425, 426, 427, 428, 430, 10, 431, 432, 694] (by decide +kernel)
set_option maxRecDepth 20000 in
theorem wsL_law_g18 : wsL_law_r18.all goodWord = true := by decide +kernel
set_option maxRecDepth 20000 in
theorem wsL_law_i19 : ∀ w ∈ wsL_law_r19, w ∈ lw_tbl := mem_ps _ [695, 696, 697, 698, 700, 33, 701, 702, 704, 34, 705, 706, 708, 35, 709, 710, 712, 36, 713, 714, 716, 37, 717, 433] (by decide +kernel)
set_option maxRecDepth 20000 in
theorem wsL_law_g19 : wsL_law_r19.all goodWord = true := by decide +kernel
set_option maxRecDepth 20000 in
theorem wsL_law_i20 : ∀ w ∈ wsL_law_r20, w ∈ lw_tbl := mem_ps _ [434, 435, 436, 437, 438, 439, 440, 441, 442, 443, 718, 719, 720, 721, 722, 724, 38, 725, 444, 445, 446, 447, 448, 449] (by decide +kernel)
set_option maxRecDepth 20000 in
theorem wsL_law_g20 : wsL_law_r20.all goodWord = true := by decide +kernel
set_option maxRecDepth 20000 in
theorem wsL_law_i21 : ∀ w ∈ wsL_law_r21, w ∈ lw_tbl := mem_ps _ [726, 727, 728, 729, 730, 450, 451, 452, 453, 454, 455, 456, 457, 458, 731, 732, 733, 734, 735, 737, 39, 738, 459, 460] (by decide +kernel)
set_option maxRecDepth 20000 in
theorem wsL_law_g21 : wsL_law_r21.all goodWord = true := by decide +kernel
set_option maxRecDepth 20000 in
theorem wsL_law_i22 : ∀ w ∈ wsL_law_r22, w ∈ lw_tbl := mem_ps _ [461, 462, 463, 464, 465, 466, 467, 468, 469, 739, 740, 741, 742, 743, 745, 40, 746, 470, 471, 472, 473, 474, 475, 747] (by decide +kernel)
set_option maxRecDepth 20000 in
theorem wsL_law_g22 : wsL_law_r22.all goodWord = true := by decide +kernel
set_option maxRecDepth 20000 in
theorem wsL_law_i23 : ∀ w ∈ wsL_law_r23, w ∈ lw_tbl := mem_ps _ [748, 749, 750, 476, 477, 478, 479, 480, 481, 482, 483, 484, 486, 11, 487, 751, 752, 753, 754, 488, 489, 490, 491, 492] (by decide +kernel)
set_option maxRecDepth 20000 in
theorem wsL_law_g23 : wsL_law_r23.all goodWord = true := by decide +kernel
set_option maxRecDepth 20000 in
theorem wsL_law_i24 : ∀ w ∈ wsL_law_r24, w ∈ lw_tbl := mem_ps _ [494, 12, 495, 496, 497, 498, 499, 755, 756, 757, 758, 759, 761, 41, 762, 763, 765, 42, 766, 500, 501, 502, 503, 504] (by decide +kernel)
set_option maxRecDepth 20000 in
theorem wsL_law_g24 : wsL_law_r24.all goodWord = true := by decide +kernel
set_option maxRecDepth 20000 in
theorem wsL_law_i25 : ∀ w ∈ wsL_law_r25, w ∈ lw_tbl := mem_ps _ [506, 13, 507, 767, 768, 769, 770, 771, 773, 43, 774, 508, 509, 510, 511, 775, 776, 777, 778, 512, 513, 514, 515, 779] (by decide +kernel)
set_option maxRecDepth 20000 in
theorem wsL_law_g25 : wsL_law_r25.all goodWord = true := by decide +kernel
set_option maxRecDepth 20000 in
theorem wsL_law_i26 : ∀ w ∈ wsL_law_r26, w ∈ lw_tbl := mem_ps _ [780, 781, 782, 516, 517, 518, 519, 520, 521, 522, 523, 783, 784, 785, 786, 787, 789, 44, 790, 524, 525, 526, 527, 791] (by decide +kernel)
set_option maxRecDepth 20000 in
theorem wsL_law_g26 : wsL_law_r26.all goodWord = true := by decide +kernel
set_option maxRecDepth 20000 in
theorem wsL_law_i27 : ∀ w ∈ wsL_law_r27, w ∈ lw_tbl := mem_ps _ [792, 793, 794, 528, 529, 530, 531, 532, 533, 534, 535, 571, 572, 573, 574] (by decide +kernel)
set_option maxRecDepth 20000 in
theorem wsL_law_g27 : wsL_law_r27.all goodWord = true := by decide +kernel
theorem wsl_X0_i : ∀ w ∈ wsX00, w ∈ lw_tbl := mem_ps _ [96, 98, 100, 102, 104, 106, 108, 110, 112, 114, 116, 118, 120, 122, 124] (by decide +kernel)
theorem wsl_X0_g : wsX00.all goodWord = true := by decide +kernel
theorem wsl_X2_i : ∀ w ∈ wsX20, w ∈ lw_tbl := mem_ps _ [176, 178, 180, 182] (by decide +kernel)
theorem wsl_X2_g : wsX20.all goodWord = true := by decide +kernel
theorem wsl_X3_i : ∀ w ∈ wsX30, w ∈ lw_tbl := mem_ps _ [141, 143, 145] (by decide +kernel)
theorem wsl_X3_g : wsX30.all goodWord = true := by decide +kernel
theorem wsl_X4_i : ∀ w ∈ wsX40, w ∈ lw_tbl := mem_ps _ [158, 160] (by decide +kernel)
theorem wsl_X4_g : wsX40.all goodWord = true := by decide +kernel
theorem wsl_X5_i : ∀ w ∈ wsX50, w ∈ lw_tbl := mem_ps _ [191, 193, 195, 197, 199, 201] (by decide +kernel)
theorem wsl_X5_g : wsX50.all goodWord = true := by decide +kernel
theorem wsl_X6_i : ∀ w ∈ wsX60, w ∈ lw_tbl := mem_ps _ [551, 553, 555, 557, 559, 561, 563, 565, 567] (by decide +kernel)
theorem wsl_X6_g : wsX60.all goodWord = true := by decide +kernel
theorem wsL_law_in : ∀ w ∈ wsL_law, w ∈ lw_tbl := by
  unfold wsL_law
  exact List.forall_mem_append.mpr ⟨List.forall_mem_append.mpr ⟨List.forall_mem_append.mpr ⟨List.forall_mem_append.mpr ⟨List.forall_mem_append.mpr ⟨List.forall_mem_append.mpr ⟨List.forall_mem_append.mpr ⟨List.forall_mem_append.mpr ⟨wsL_law_i1, List.forall_mem_append.mpr ⟨wsL_law_i2, List.forall_mem_append.mpr ⟨wsL_law_i3, List.forall_mem_append.mpr ⟨wsL_law_i4, List.forall_mem_append.mpr ⟨wsL_law_i5, List.forall_mem_append.mpr ⟨wsL_law_i6, List.forall_mem_append.mpr ⟨wsL_law_i7, List.forall_mem_append.mpr ⟨wsL_law_i8, List.forall_mem_append.mpr ⟨wsL_law_i9, List.forall_mem_append.mpr ⟨wsL_law_i10, List.forall_mem_append.mpr ⟨wsL_law_i11, List.forall_mem_append.mpr ⟨wsL_law_i12, List.forall_mem_append.mpr ⟨wsL_law_i13, List.forall_mem_append.mpr ⟨wsL_law_i14, List.forall_mem_append.mpr ⟨wsL_law_i15, List.forall_mem_append.mpr ⟨wsL_law_i16, List.forall_mem_append.mpr ⟨wsL_law_i17, List.forall_mem_append.mpr ⟨wsL_law_i18, List.forall_mem_append.mpr ⟨wsL_law_i19, List.forall_mem_append.mpr ⟨wsL_law_i20, List.forall_mem_append.mpr ⟨wsL_law_i21, List.forall_mem_append.mpr ⟨wsL_law_i22, List.forall_mem_append.mpr ⟨wsL_law_i23, List.forall_mem_append.mpr ⟨wsL_law_i24, List.forall_mem_append.mpr ⟨wsL_law_i25, List.forall_mem_append.mpr ⟨wsL_law_i26, wsL_law_i27⟩⟩⟩⟩⟩⟩⟩⟩⟩⟩⟩⟩⟩⟩⟩⟩⟩⟩⟩⟩⟩⟩⟩⟩⟩⟩, wsl_X5_i⟩, wsl_X6_i⟩, wsl_X0_i⟩, wsl_X3_i⟩, wsl_X4_i⟩, wsl_X2_i⟩, (fun _ h => absurd h List.not_mem_nil)⟩
theorem wsL_law_gd : ∀ w ∈ wsL_law, goodWord w = true := by
  unfold wsL_law
  exact List.forall_mem_append.mpr ⟨List.forall_mem_append.mpr ⟨List.forall_mem_append.mpr ⟨List.forall_mem_append.mpr ⟨List.forall_mem_append.mpr ⟨List.forall_mem_append.mpr ⟨List.forall_mem_append.mpr ⟨List.forall_mem_append.mpr ⟨(List.all_eq_true.mp wsL_law_g1), List.forall_mem_append.mpr ⟨(List.all_eq_true.mp wsL_law_g2), List.forall_mem_append.mpr ⟨(List.all_eq_true.mp wsL_law_g3), List.forall_mem_append.mpr ⟨(List.all_eq_true.mp wsL_law_g4), List.forall_mem_append.mpr ⟨(List.all_eq_true.mp wsL_law_g5), List.forall_mem_append.mpr ⟨(List.all_eq_true.mp wsL_law_g6), List.forall_mem_append.mpr ⟨(List.all_eq_true.mp wsL_law_g7), List.forall_mem_append.mpr ⟨(List.all_eq_true.mp wsL_law_g8), List.forall_mem_append.mpr ⟨(List.all_eq_true.mp wsL_law_g9), List.forall_mem_append.mpr ⟨(List.all_eq_true.mp wsL_law_g10), List.forall_mem_append.mpr ⟨(List.all_eq_true.mp wsL_law_g11), List.forall_mem_append.mpr ⟨(List.all_eq_true.mp wsL_law_g12), List.forall_mem_append.mpr ⟨(List.all_eq_true.mp wsL_law_g13), List.forall_mem_append.mpr ⟨(List.all_eq_true.mp wsL_law_g14), List.forall_mem_append.mpr ⟨(List.all_eq_true.mp wsL_law_g15), List.forall_mem_append.mpr ⟨(List.all_eq_true.mp wsL_law_g16), List.forall_mem_append.mpr ⟨(List.all_eq_true.mp wsL_law_g17), List.forall_mem_append.mpr ⟨(List.all_eq_true.mp wsL_law_g18), List.forall_mem_append.mpr ⟨(List.all_eq_true.mp wsL_law_g19), List.forall_mem_append.mpr ⟨(List.all_eq_true.mp wsL_law_g20), List.forall_mem_append.mpr ⟨(List.all_eq_true.mp wsL_law_g21), List.forall_mem_append.mpr ⟨(List.all_eq_true.mp wsL_law_g22), List.forall_mem_append.mpr ⟨(List.all_eq_true.mp wsL_law_g23), List.forall_mem_append.mpr ⟨(List.all_eq_true.mp wsL_law_g24), List.forall_mem_append.mpr ⟨(List.all_eq_true.mp wsL_law_g25), List.forall_mem_append.mpr ⟨(List.all_eq_true.mp wsL_law_g26), (List.all_eq_true.mp wsL_law_g27)⟩⟩⟩⟩⟩⟩⟩⟩⟩⟩⟩⟩⟩⟩⟩⟩⟩⟩⟩⟩⟩⟩⟩⟩⟩⟩, (List.all_eq_true.mp wsl_X5_g)⟩, (List.all_eq_true.mp wsl_X6_g)⟩, (List.all_eq_true.mp wsl_X0_g)⟩, (List.all_eq_true.mp wsl_X3_g)⟩, (List.all_eq_true.mp wsl_X4_g)⟩, (List.all_eq_true.mp wsl_X2_g)⟩, (fun _ h => absurd h List.not_mem_nil)⟩
theorem wsL_GI : GoodIn wsL_law wsL_law := fun w h => ⟨h, good_of_word (wsL_law_gd w h)⟩
