theorem mem_ix {big : List Cond} (ws : List Cond) (ps : List Nat) (hp : ws = ps.filterMap (fun i => big[i]?)) : ∀ w ∈ ws, w ∈ big := by
  intro w hw
  rw [hp] at hw
  obtain ⟨i, -, hi⟩ := List.mem_filterMap.mp hw
  exact List.mem_of_getElem? hi
set_option maxRecDepth 20000 in
theorem lin_1 : ∀ w ∈ wsL_law_r1, w ∈ lw_tbl := mem_ix _ [39, 40, 29, 560, 561, 34, 41, 42, 43, 44, 45, 46, 47, 48, 30, 152, 103, 104, 31, 153, 154, 49, 50, 51] (by decide +kernel)
set_option maxRecDepth 20000 in
theorem lin_2 : ∀ w ∈ wsL_law_r2, w ∈ lw_tbl := mem_ix _ [52, 55, 58, 102, 70, 72, 75, 77, 53, 78, 105, 106, 107, 108, 125, 109, 110, 32, 126, 127, 129, 131, 133, 135] (by decide +kernel)
set_option maxRecDepth 20000 in
theorem lin_3 : ∀ w ∈ wsL_law_r3, w ∈ lw_tbl := mem_ix _ [111, 112, 113, 114, 115, 116, 33, 117, 118, 119, 562, 563, 564, 565, 567, 568, 569, 570, 571, 572, 573, 574, 575, 576] (by decide +kernel)
set_option maxRecDepth 20000 in
theorem lin_4 : ∀ w ∈ wsL_law_r4, w ∈ lw_tbl := mem_ix _ [577, 578, 579, 580, 581, 582, 583, 585, 586, 639, 587, 588, 589, 162, 163, 164, 165, 56, 59, 166, 167, 168, 169, 170] (by decide +kernel)
set_option maxRecDepth 20000 in
theorem lin_5 : ∀ w ∈ wsL_law_r5, w ∈ lw_tbl := mem_ix _ [171, 172, 173, 174, 175, 640, 641, 642, 643, 566, 584, 644, 645, 646, 176, 177, 178, 179, 71, 180, 181, 182, 647, 648] (by decide +kernel)
set_option maxRecDepth 20000 in
theorem lin_6 : ∀ w ∈ wsL_law_r6, w ∈ lw_tbl := mem_ix _ [649, 650, 183, 184, 185, 186, 193, 194, 35, 187, 188, 189, 190, 191, 192, 195, 196, 197, 198, 199, 201, 204, 207, 210] (by decide +kernel)
set_option maxRecDepth 20000 in
theorem lin_7 : ∀ w ∈ wsL_law_r7, w ∈ lw_tbl := mem_ix _ [213, 216, 235, 236, 237, 238, 69, 66, 651, 652, 653, 654, 655, 656, 657, 239, 240, 241, 242, 243, 244, 245, 246, 248] (by decide +kernel)
set_option maxRecDepth 20000 in
theorem lin_8 : ∀ w ∈ wsL_law_r8, w ∈ lw_tbl := mem_ix _ [249, 250, 251, 252, 253, 254, 255, 256, 257, 258, 259, 260, 261, 262, 263, 658, 659, 660, 661, 662, 664, 11, 665, 264] (by decide +kernel)
set_option maxRecDepth 20000 in
theorem lin_9 : ∀ w ∈ wsL_law_r9, w ∈ lw_tbl := mem_ix _ [265, 266, 267, 268, 269, 270, 271, 272, 273, 274, 666, 667, 668, 669, 275, 276, 277, 278, 279, 280, 281, 282, 670, 671] (by decide +kernel)
set_option maxRecDepth 20000 in
theorem lin_10 : ∀ w ∈ wsL_law_r10, w ∈ lw_tbl := mem_ix _ [672, 673, 283, 284, 285, 286, 287, 288, 289, 290, 674, 675, 676, 677, 291, 292, 293, 294, 200, 203, 206, 209, 212, 215] (by decide +kernel)
set_option maxRecDepth 20000 in
theorem lin_11 : ∀ w ∈ wsL_law_r11, w ∈ lw_tbl := mem_ix _ [219, 295, 296, 297, 298, 299, 300, 302, 0, 303, 67, 304, 305, 36, 306, 307, 308, 309, 310, 311, 312, 313, 314, 316] (by decide +kernel)
set_option maxRecDepth 20000 in
theorem lin_12 : ∀ w ∈ wsL_law_r12, w ∈ lw_tbl := mem_ix _ [1, 317, 57, 202, 208, 60, 205, 211, 318, 319, 320, 321, 322, 323, 324, 325, 327, 328, 329, 330, 332, 334, 2, 335] (by decide +kernel)
set_option maxRecDepth 20000 in
theorem lin_13 : ∀ w ∈ wsL_law_r13, w ∈ lw_tbl := mem_ix _ [336, 338, 3, 339, 214, 218, 341, 342, 343, 344, 345, 346, 347, 349, 4, 350, 351, 353, 5, 354, 62, 355, 356, 357] (by decide +kernel)
set_option maxRecDepth 20000 in
theorem lin_14 : ∀ w ∈ wsL_law_r14, w ∈ lw_tbl := mem_ix _ [358, 359, 360, 362, 361, 37, 363, 364, 365, 366, 367, 368, 369, 370, 371, 373, 6, 374, 376, 378, 7, 379, 380, 381] (by decide +kernel)
set_option maxRecDepth 20000 in
theorem lin_15 : ∀ w ∈ wsL_law_r15, w ∈ lw_tbl := mem_ix _ [382, 383, 384, 385, 386, 387, 388, 390, 8, 391, 392, 393, 395, 9, 396, 397, 399, 10, 400, 73, 401, 402, 403, 404] (by decide +kernel)
set_option maxRecDepth 20000 in
theorem lin_16 : ∀ w ∈ wsL_law_r16, w ∈ lw_tbl := mem_ix _ [64, 405, 406, 407, 408, 410, 411, 412, 413, 678, 679, 680, 681, 682, 684, 12, 685, 686, 688, 13, 689, 690, 692, 14] (by decide +kernel)
set_option maxRecDepth 20000 in
theorem lin_17 : ∀ w ∈ wsL_law_r17, w ∈ lw_tbl := mem_ix _ [693, 694, 696, 15, 697, 698, 700, 16, 701, 702, 704, 17, 705, 414, 415, 416, 417, 128, 132, 134, 418, 419, 420, 421] (by decide +kernel)
set_option maxRecDepth 20000 in
theorem lin_18 : ∀ w ∈ wsL_law_r18, w ∈ lw_tbl := mem_ix _ [422, 423, 424, 425, 426, 427, 428, 429, 430, 431, 217, 432, 433, 434, 435, 436, 437, 438, 439, 440, 441, 442, 443, 444] (by decide +kernel)
set_option maxRecDepth 20000 in
theorem lin_19 : ∀ w ∈ wsL_law_r19, w ∈ lw_tbl := mem_ix _ [706, 707, 708, 709, 710, 712, 18, 713, 714, 716, 19, 717, 718, 720, 20, 721, 445, 446, 447, 448, 130, 449, 450, 451] (by decide +kernel)
set_option maxRecDepth 20000 in
theorem lin_20 : ∀ w ∈ wsL_law_r20, w ∈ lw_tbl := mem_ix _ [452, 722, 723, 724, 725, 726, 728, 21, 729, 453, 454, 455, 456, 457, 730, 731, 732, 733, 458, 459, 460, 461, 63, 462] (by decide +kernel)
set_option maxRecDepth 20000 in
theorem lin_21 : ∀ w ∈ wsL_law_r21, w ∈ lw_tbl := mem_ix _ [463, 464, 465, 466, 467, 38, 468, 469, 470, 471, 734, 735, 736, 737, 738, 740, 22, 741, 742, 743, 744, 472, 473, 474] (by decide +kernel)
set_option maxRecDepth 20000 in
theorem lin_22 : ∀ w ∈ wsL_law_r22, w ∈ lw_tbl := mem_ix _ [475, 74, 76, 476, 477, 478, 745, 746, 747, 748, 479, 480, 481, 482, 65, 749, 750, 751, 752, 483, 484, 485, 486, 487] (by decide +kernel)
set_option maxRecDepth 20000 in
theorem lin_23 : ∀ w ∈ wsL_law_r23, w ∈ lw_tbl := mem_ix _ [488, 489, 490, 491, 753, 754, 755, 756, 492, 493, 494, 495, 68, 496, 497, 498, 499, 500, 501, 502, 503, 504, 505, 506] (by decide +kernel)
set_option maxRecDepth 20000 in
theorem lin_24 : ∀ w ∈ wsL_law_r24, w ∈ lw_tbl := mem_ix _ [507, 508, 509, 510, 511, 512, 513, 514, 515, 516, 517, 518, 519, 520, 521, 522, 523, 524, 757, 758, 759, 760, 761, 763] (by decide +kernel)
set_option maxRecDepth 20000 in
theorem lin_25 : ∀ w ∈ wsL_law_r25, w ∈ lw_tbl := mem_ix _ [23, 764, 765, 766, 767, 525, 526, 527, 528, 529, 530, 531, 532, 768, 769, 770, 771, 772, 774, 24, 775, 533, 534, 535] (by decide +kernel)
set_option maxRecDepth 20000 in
theorem lin_26 : ∀ w ∈ wsL_law_r26, w ∈ lw_tbl := mem_ix _ [536, 537, 538, 539, 540, 541, 776, 777, 778, 779, 780, 782, 25, 783, 784, 786, 26, 787, 542, 543, 544, 545, 546, 788] (by decide +kernel)
set_option maxRecDepth 20000 in
theorem lin_27 : ∀ w ∈ wsL_law_r27, w ∈ lw_tbl := mem_ix _ [789, 790, 791, 547, 548, 549, 550, 551, 552, 553, 554, 61, 555, 792, 793, 794, 795, 796, 798, 27, 799, 800, 801, 802] (by decide +kernel)
set_option maxRecDepth 20000 in
theorem lin_28 : ∀ w ∈ wsL_law_r28, w ∈ lw_tbl := mem_ix _ [556, 557, 558, 559, 803, 804, 805, 806] (by decide +kernel)
set_option maxRecDepth 20000 in
theorem linX4 : ∀ w ∈ wsX40, w ∈ lw_tbl := by decide +kernel
set_option maxRecDepth 20000 in
theorem linX5 : ∀ w ∈ wsX50, w ∈ lw_tbl := by decide +kernel
set_option maxRecDepth 20000 in
theorem linX3 : ∀ w ∈ wsX30, w ∈ lw_tbl := by decide +kernel
set_option maxRecDepth 20000 in
theorem linX1 : ∀ w ∈ wsX10, w ∈ lw_tbl := by decide +kernel
set_option maxRecDepth 20000 in
theorem linX0 : ∀ w ∈ wsX00, w ∈ lw_tbl := by decide +kernel
set_option maxRecDepth 20000 in
theorem linX2 : ∀ w ∈ wsX20, w ∈ lw_tbl := by decide +kernel
theorem wsL_law_in : ∀ w ∈ wsL_law, w ∈ lw_tbl := List.forall_mem_append.mpr ⟨(List.forall_mem_append.mpr ⟨(List.forall_mem_append.mpr ⟨(List.forall_mem_append.mpr ⟨(List.forall_mem_append.mpr ⟨(List.forall_mem_append.mpr ⟨(List.forall_mem_append.mpr ⟨(List.forall_mem_append.mpr ⟨lin_1, (List.forall_mem_append.mpr ⟨lin_2, (List.forall_mem_append.mpr ⟨lin_3, (List.forall_mem_append.mpr ⟨lin_4, (List.forall_mem_append.mpr ⟨lin_5, (List.forall_mem_append.mpr ⟨lin_6, (List.forall_mem_append.mpr ⟨lin_7, (List.forall_mem_append.mpr ⟨lin_8, (List.forall_mem_append.mpr ⟨lin_9, (List.forall_mem_append.mpr ⟨lin_10, (List.forall_mem_append.mpr ⟨lin_11, (List.forall_mem_append.mpr ⟨lin_12, (List.forall_mem_append.mpr ⟨lin_13, (List.forall_mem_append.mpr ⟨lin_14, (List.forall_mem_append.mpr ⟨lin_15, (List.forall_mem_append.mpr ⟨lin_16, (List.forall_mem_append.mpr ⟨lin_17, (List.forall_mem_append.mpr ⟨lin_18, (List.forall_mem_append.mpr ⟨lin_19, (List.forall_mem_append.mpr ⟨lin_20, (List.forall_mem_append.mpr ⟨lin_21, (List.forall_mem_append.mpr ⟨lin_22, (List.forall_mem_append.mpr ⟨lin_23, (List.forall_mem_append.mpr ⟨lin_24, (List.forall_mem_append.mpr ⟨lin_25, (List.forall_mem_append.mpr ⟨lin_26, (List.forall_mem_append.mpr ⟨lin_27, lin_28⟩)⟩)⟩)⟩)⟩)⟩)⟩)⟩)⟩)⟩)⟩)⟩)⟩)⟩)⟩)⟩)⟩)⟩)⟩)⟩)⟩)⟩)⟩)⟩)⟩)⟩)⟩), linX4⟩), linX5⟩), linX3⟩), linX1⟩), linX0⟩), linX2⟩), fun _ h => absurd h List.not_mem_nil⟩
