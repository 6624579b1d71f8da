theorem mem_pl {big ws : List Cond} (ps : List Nat) (hp : ws = ps.filterMap (fun i => big[i]?)) : ∀ w ∈ ws, w ∈ big := by
  intro w hw
  rw [hp] at hw
  obtain ⟨i, -, hi⟩ := List.mem_filterMap.mp hw
  exact List.mem_of_getElem? hi
theorem mem_cut {L T : List Cond} (m : Nat) (hl : L.length ≤ 10 * m) (h : ∀ i, i < m → ∀ w ∈ (L.drop (10 * i)).take 10, w ∈ T) : ∀ w ∈ L, w ∈ T := by
  intro w hw
  obtain ⟨j, hj, e⟩ := List.mem_iff_getElem.mp hw
  refine h (j / 10) (by omega) w ?_
  refine List.mem_of_getElem? (i := j % 10) ?_
  rw [List.getElem?_take_of_lt (by omega), List.getElem?_drop, show 10 * (j / 10) + j % 10 = j by omega, List.getElem?_eq_getElem hj, e]
theorem tin_0_0 : ∀ w ∈ (tblG_0.drop (10 * 0)).take 10, w ∈ lw_tbl := mem_pl [115, 93, 94, 137, 125, 114, 189, 190, 111, 69] (by decide +kernel)
theorem tin_0_1 : ∀ w ∈ (tblG_0.drop (10 * 1)).take 10, w ∈ lw_tbl := mem_pl [196, 113, 188, 116, 121, 123, 253, 401, 147, 118] (by decide +kernel)
theorem tin_0_2 : ∀ w ∈ (tblG_0.drop (10 * 2)).take 10, w ∈ lw_tbl := mem_pl [126, 153, 149, 438, 397, 423, 422, 419, 421, 5] (by decide +kernel)
theorem tin_0_3 : ∀ w ∈ (tblG_0.drop (10 * 3)).take 10, w ∈ lw_tbl := mem_pl [418, 414, 395, 396, 415, 417, 4, 413, 151, 433] (by decide +kernel)
theorem tin_0_4 : ∀ w ∈ (tblG_0.drop (10 * 4)).take 10, w ∈ lw_tbl := mem_pl [251, 252, 434, 399, 400, 435, 437, 6, 70, 439] (by decide +kernel)
theorem tin_0_5 : ∀ w ∈ (tblG_0.drop (10 * 5)).take 10, w ∈ lw_tbl := mem_pl [411, 412, 432, 466, 156, 155, 154, 692, 446, 380] (by decide +kernel)
theorem tin_0_6 : ∀ w ∈ (tblG_0.drop (10 * 6)).take 10, w ∈ lw_tbl := mem_pl [445, 67, 676, 379, 674, 689, 691, 12, 697, 693] (by decide +kernel)
theorem tin_0_7 : ∀ w ∈ (tblG_0.drop (10 * 7)).take 10, w ∈ lw_tbl := mem_pl [672, 673, 694, 696, 13, 688, 384, 846, 388, 752] (by decide +kernel)
theorem tin_0 : ∀ w ∈ tblG_0, w ∈ lw_tbl := mem_cut 8 (by decide +kernel) (fun i hi => by
  rcases (show i = 0 ∨ i = 1 ∨ i = 2 ∨ i = 3 ∨ i = 4 ∨ i = 5 ∨ i = 6 ∨ i = 7 by omega) with rfl | rfl | rfl | rfl | rfl | rfl | rfl | rfl
  · exact tin_0_0
  · exact tin_0_1
  · exact tin_0_2
  · exact tin_0_3
  · exact tin_0_4
  · exact tin_0_5
  · exact tin_0_6
  · exact tin_0_7)
theorem tin_1_0 : ∀ w ∈ (tblG_1.drop (10 * 0)).take 10, w ∈ lw_tbl := mem_pl [382, 383, 410, 823, 851, 852, 386, 387, 853, 821] (by decide +kernel)
theorem tin_1_1 : ∀ w ∈ (tblG_1.drop (10 * 1)).take 10, w ∈ lw_tbl := mem_pl [822, 850, 192, 842, 843, 844, 845, 847, 849, 20] (by decide +kernel)
theorem tin_1_2 : ∀ w ∈ (tblG_1.drop (10 * 2)).take 10, w ∈ lw_tbl := mem_pl [72, 841, 194, 857, 835, 430, 431, 836, 464, 465] (by decide +kernel)
theorem tin_1_3 : ∀ w ∈ (tblG_1.drop (10 * 3)).take 10, w ∈ lw_tbl := mem_pl [837, 686, 687, 838, 840, 19, 854, 856, 21, 834] (by decide +kernel)
theorem tin_1_4 : ∀ w ∈ (tblG_1.drop (10 * 4)).take 10, w ∈ lw_tbl := mem_pl [178, 179, 177, 600, 117, 597, 598, 599, 602, 596] (by decide +kernel)
theorem tin_1_5 : ∀ w ∈ (tblG_1.drop (10 * 5)).take 10, w ∈ lw_tbl := mem_pl [594, 595, 71, 593, 284, 285, 286, 283, 607, 282] (by decide +kernel)
theorem tin_1_6 : ∀ w ∈ (tblG_1.drop (10 * 6)).take 10, w ∈ lw_tbl := mem_pl [79, 606, 144, 145, 172, 143, 276, 457, 274, 275] (by decide +kernel)
theorem tin_1_7 : ∀ w ∈ (tblG_1.drop (10 * 7)).take 10, w ∈ lw_tbl := mem_pl [456, 449, 452, 448, 451, 453, 454, 455, 443, 772] (by decide +kernel)
theorem tin_1 : ∀ w ∈ tblG_1, w ∈ lw_tbl := mem_cut 8 (by decide +kernel) (fun i hi => by
  rcases (show i = 0 ∨ i = 1 ∨ i = 2 ∨ i = 3 ∨ i = 4 ∨ i = 5 ∨ i = 6 ∨ i = 7 by omega) with rfl | rfl | rfl | rfl | rfl | rfl | rfl | rfl
  · exact tin_1_0
  · exact tin_1_1
  · exact tin_1_2
  · exact tin_1_3
  · exact tin_1_4
  · exact tin_1_5
  · exact tin_1_6
  · exact tin_1_7)
theorem tin_2_0 : ∀ w ∈ (tblG_2.drop (10 * 0)).take 10, w ∈ lw_tbl := mem_pl [281, 280, 726, 278, 279, 751, 642, 260, 405, 729] (by decide +kernel)
theorem tin_2_1 : ∀ w ∈ (tblG_2.drop (10 * 1)).take 10, w ∈ lw_tbl := mem_pl [727, 728, 732, 730, 731, 725, 782, 781, 778, 779] (by decide +kernel)
theorem tin_2_2 : ∀ w ∈ (tblG_2.drop (10 * 2)).take 10, w ∈ lw_tbl := mem_pl [780, 784, 749, 750, 777, 409, 100, 109, 101, 99] (by decide +kernel)
theorem tin_2_3 : ∀ w ∈ (tblG_2.drop (10 * 3)).take 10, w ∈ lw_tbl := mem_pl [102, 569, 119, 257, 258, 259, 256, 273, 272, 304] (by decide +kernel)
theorem tin_2_4 : ∀ w ∈ (tblG_2.drop (10 * 4)).take 10, w ∈ lw_tbl := mem_pl [1291, 303, 313, 1292, 310, 311, 312, 80, 309, 319] (by decide +kernel)
theorem tin_2_5 : ∀ w ∈ (tblG_2.drop (10 * 5)).take 10, w ∈ lw_tbl := mem_pl [328, 320, 321, 82, 322, 323, 324, 325, 317, 318] (by decide +kernel)
theorem tin_2_6 : ∀ w ∈ (tblG_2.drop (10 * 6)).take 10, w ∈ lw_tbl := mem_pl [81, 326, 327, 316, 343, 351, 347, 349, 350, 84] (by decide +kernel)
theorem tin_2_7 : ∀ w ∈ (tblG_2.drop (10 * 7)).take 10, w ∈ lw_tbl := mem_pl [346, 341, 342, 83, 344, 345, 340, 358, 360, 362] (by decide +kernel)
theorem tin_2 : ∀ w ∈ tblG_2, w ∈ lw_tbl := mem_cut 8 (by decide +kernel) (fun i hi => by
  rcases (show i = 0 ∨ i = 1 ∨ i = 2 ∨ i = 3 ∨ i = 4 ∨ i = 5 ∨ i = 6 ∨ i = 7 by omega) with rfl | rfl | rfl | rfl | rfl | rfl | rfl | rfl
  · exact tin_2_0
  · exact tin_2_1
  · exact tin_2_2
  · exact tin_2_3
  · exact tin_2_4
  · exact tin_2_5
  · exact tin_2_6
  · exact tin_2_7)
theorem tin_3_0 : ∀ w ∈ (tblG_3.drop (10 * 0)).take 10, w ∈ lw_tbl := mem_pl [357, 355, 356, 354, 338, 339, 352, 353, 337, 369] (by decide +kernel)
theorem tin_3_1 : ∀ w ∈ (tblG_3.drop (10 * 1)).take 10, w ∈ lw_tbl := mem_pl [373, 372, 377, 376, 367, 368, 85, 370, 371, 374] (by decide +kernel)
theorem tin_3_2 : ∀ w ∈ (tblG_3.drop (10 * 2)).take 10, w ∈ lw_tbl := mem_pl [375, 366, 332, 333, 334, 335, 336, 364, 365, 331] (by decide +kernel)
theorem tin_3_3 : ∀ w ∈ (tblG_3.drop (10 * 3)).take 10, w ∈ lw_tbl := mem_pl [300, 301, 302, 306, 307, 308, 314, 315, 329, 330] (by decide +kernel)
theorem tin_3_4 : ∀ w ∈ (tblG_3.drop (10 * 4)).take 10, w ∈ lw_tbl := mem_pl [299, 296, 297, 298, 295, 292, 293, 294, 290, 269] (by decide +kernel)
theorem tin_3_5 : ∀ w ∈ (tblG_3.drop (10 * 5)).take 10, w ∈ lw_tbl := mem_pl [271, 2, 68, 277, 287, 289, 3, 381, 385, 268] (by decide +kernel)
theorem tin_3_6 : ∀ w ∈ (tblG_3.drop (10 * 6)).take 10, w ∈ lw_tbl := mem_pl [265, 267, 1, 264, 250, 254, 255, 261, 263, 0] (by decide +kernel)
theorem tin_3_7 : ∀ w ∈ (tblG_3.drop (10 * 7)).take 10, w ∈ lw_tbl := mem_pl [249, 92, 95, 96, 204, 110, 205, 206, 208, 209] (by decide +kernel)
theorem tin_3 : ∀ w ∈ tblG_3, w ∈ lw_tbl := mem_cut 8 (by decide +kernel) (fun i hi => by
  rcases (show i = 0 ∨ i = 1 ∨ i = 2 ∨ i = 3 ∨ i = 4 ∨ i = 5 ∨ i = 6 ∨ i = 7 by omega) with rfl | rfl | rfl | rfl | rfl | rfl | rfl | rfl
  · exact tin_3_0
  · exact tin_3_1
  · exact tin_3_2
  · exact tin_3_3
  · exact tin_3_4
  · exact tin_3_5
  · exact tin_3_6
  · exact tin_3_7)
theorem tin_4_0 : ∀ w ∈ (tblG_4.drop (10 * 0)).take 10, w ∈ lw_tbl := mem_pl [210, 211, 139, 140, 212, 173, 174, 213, 184, 185] (by decide +kernel)
theorem tin_4_1 : ∀ w ∈ (tblG_4.drop (10 * 1)).take 10, w ∈ lw_tbl := mem_pl [214, 98, 142, 176, 187, 91, 483, 77, 550, 78] (by decide +kernel)
theorem tin_4_2 : ∀ w ∈ (tblG_4.drop (10 * 2)).take 10, w ∈ lw_tbl := mem_pl [103, 566, 567, 568, 482, 241, 246, 247, 248, 245] (by decide +kernel)
theorem tin_4_3 : ∀ w ∈ (tblG_4.drop (10 * 3)).take 10, w ∈ lw_tbl := mem_pl [207, 120, 398, 576, 406, 407, 408, 589, 122, 124] (by decide +kernel)
theorem tin_4_4 : ∀ w ∈ (tblG_4.drop (10 * 4)).take 10, w ∈ lw_tbl := mem_pl [152, 585, 424, 586, 588, 9, 429, 590, 591, 592] (by decide +kernel)
theorem tin_4_5 : ∀ w ∈ (tblG_4.drop (10 * 5)).take 10, w ∈ lw_tbl := mem_pl [603, 604, 605, 584, 622, 86, 621, 620, 127, 180] (by decide +kernel)
theorem tin_4_6 : ∀ w ∈ (tblG_4.drop (10 * 6)).take 10, w ∈ lw_tbl := mem_pl [617, 619, 10, 638, 394, 639, 640, 641, 616, 654] (by decide +kernel)
theorem tin_4_7 : ∀ w ∈ (tblG_4.drop (10 * 7)).take 10, w ∈ lw_tbl := mem_pl [653, 650, 652, 11, 656, 458, 649, 150, 463, 663] (by decide +kernel)
theorem tin_4 : ∀ w ∈ tblG_4, w ∈ lw_tbl := mem_cut 8 (by decide +kernel) (fun i hi => by
  rcases (show i = 0 ∨ i = 1 ∨ i = 2 ∨ i = 3 ∨ i = 4 ∨ i = 5 ∨ i = 6 ∨ i = 7 by omega) with rfl | rfl | rfl | rfl | rfl | rfl | rfl | rfl
  · exact tin_4_0
  · exact tin_4_1
  · exact tin_4_2
  · exact tin_4_3
  · exact tin_4_4
  · exact tin_4_5
  · exact tin_4_6
  · exact tin_4_7)
theorem tin_5_0 : ∀ w ∈ (tblG_5.drop (10 * 0)).take 10, w ∈ lw_tbl := mem_pl [671, 670, 685, 684, 713, 710, 712, 15, 709, 706] (by decide +kernel)
theorem tin_5_1 : ∀ w ∈ (tblG_5.drop (10 * 1)).take 10, w ∈ lw_tbl := mem_pl [708, 14, 714, 704, 722, 723, 724, 721, 402, 403] (by decide +kernel)
theorem tin_5_2 : ∀ w ∈ (tblG_5.drop (10 * 2)).take 10, w ∈ lw_tbl := mem_pl [404, 739, 748, 467, 747, 769, 770, 771, 768, 765] (by decide +kernel)
theorem tin_5_3 : ∀ w ∈ (tblG_5.drop (10 * 3)).take 10, w ∈ lw_tbl := mem_pl [767, 17, 774, 775, 776, 764, 761, 763, 16, 760] (by decide +kernel)
theorem tin_5_4 : ∀ w ∈ (tblG_5.drop (10 * 4)).take 10, w ∈ lw_tbl := mem_pl [792, 799, 808, 807, 820, 819, 816, 818, 18, 815] (by decide +kernel)
theorem tin_5_5 : ∀ w ∈ (tblG_5.drop (10 * 5)).take 10, w ∈ lw_tbl := mem_pl [831, 832, 833, 830, 471, 472, 473, 470, 193, 195] (by decide +kernel)
theorem tin_5_6 : ∀ w ∈ (tblG_5.drop (10 * 6)).take 10, w ∈ lw_tbl := mem_pl [468, 469, 864, 393, 148, 462, 440, 441, 442, 459] (by decide +kernel)
theorem tin_5_7 : ∀ w ∈ (tblG_5.drop (10 * 7)).take 10, w ∈ lw_tbl := mem_pl [461, 7, 428, 876, 875, 885, 889, 893, 897, 901] (by decide +kernel)
theorem tin_5 : ∀ w ∈ tblG_5, w ∈ lw_tbl := mem_cut 8 (by decide +kernel) (fun i hi => by
  rcases (show i = 0 ∨ i = 1 ∨ i = 2 ∨ i = 3 ∨ i = 4 ∨ i = 5 ∨ i = 6 ∨ i = 7 by omega) with rfl | rfl | rfl | rfl | rfl | rfl | rfl | rfl
  · exact tin_5_0
  · exact tin_5_1
  · exact tin_5_2
  · exact tin_5_3
  · exact tin_5_4
  · exact tin_5_5
  · exact tin_5_6
  · exact tin_5_7)
theorem tin_6_0 : ∀ w ∈ (tblG_6.drop (10 * 0)).take 10, w ∈ lw_tbl := mem_pl [882, 884, 23, 886, 888, 24, 890, 892, 25, 894] (by decide +kernel)
theorem tin_6_1 : ∀ w ∈ (tblG_6.drop (10 * 1)).take 10, w ∈ lw_tbl := mem_pl [896, 26, 898, 900, 27, 881, 873, 874, 878, 880] (by decide +kernel)
theorem tin_6_2 : ∀ w ∈ (tblG_6.drop (10 * 2)).take 10, w ∈ lw_tbl := mem_pl [22, 872, 919, 920, 918, 916, 917, 915, 910, 911] (by decide +kernel)
