theorem mem_pl {big ws : List Cond} (ps : List Nat) (hp : ws = ps.filterMap (fun i => big[i]?)) : ∀ w ∈ ws, w ∈ big := by
  intro w hw
  rw [hp] at hw
  obtain ⟨i, -, hi⟩ := List.mem_filterMap.mp hw
  exact List.mem_of_getElem? hi
theorem tin_0 : ∀ w ∈ tblG_0, w ∈ lw_tbl := mem_pl [56, 36, 37, 77, 65, 55, 129, 130, 52, 19] (by decide +kernel)
theorem tin_1 : ∀ w ∈ tblG_1, w ∈ lw_tbl := mem_pl [136, 54, 128, 57, 61, 63, 229, 200, 87, 59] (by decide +kernel)
theorem tin_2 : ∀ w ∈ tblG_2, w ∈ lw_tbl := mem_pl [66, 93, 89, 234, 212, 221, 220, 217, 219, 2] (by decide +kernel)
theorem tin_3 : ∀ w ∈ tblG_3, w ∈ lw_tbl := mem_pl [216, 209, 210, 211, 213, 215, 1, 208, 91, 226] (by decide +kernel)
theorem tin_4 : ∀ w ∈ tblG_4, w ∈ lw_tbl := mem_pl [227, 228, 230, 198, 199, 231, 233, 3, 20, 235] (by decide +kernel)
theorem tin_5 : ∀ w ∈ tblG_5, w ∈ lw_tbl := mem_pl [206, 207, 225, 454, 96, 95, 94, 524, 439, 249] (by decide +kernel)
theorem tin_6 : ∀ w ∈ tblG_6, w ∈ lw_tbl := mem_pl [438, 17, 511, 248, 509, 521, 523, 10, 529, 525] (by decide +kernel)
theorem tin_7 : ∀ w ∈ tblG_7, w ∈ lw_tbl := mem_pl [507, 508, 526, 528, 11, 520, 253, 573, 419, 412] (by decide +kernel)
theorem tin_8 : ∀ w ∈ tblG_8, w ∈ lw_tbl := mem_pl [251, 252, 205, 550, 578, 579, 417, 418, 580, 548] (by decide +kernel)
theorem tin_9 : ∀ w ∈ tblG_9, w ∈ lw_tbl := mem_pl [549, 577, 132, 569, 570, 571, 572, 574, 576, 14] (by decide +kernel)
theorem tin_10 : ∀ w ∈ tblG_10, w ∈ lw_tbl := mem_pl [22, 568, 134, 584, 562, 223, 224, 563, 452, 453] (by decide +kernel)
theorem tin_11 : ∀ w ∈ tblG_11, w ∈ lw_tbl := mem_pl [564, 518, 519, 565, 567, 13, 581, 583, 15, 561] (by decide +kernel)
theorem tin_12 : ∀ w ∈ tblG_12, w ∈ lw_tbl := mem_pl [118, 119, 117, 246, 58, 243, 244, 245, 250, 242] (by decide +kernel)
theorem tin_13 : ∀ w ∈ tblG_13, w ∈ lw_tbl := mem_pl [240, 241, 21, 239, 185, 186, 187, 184, 258, 183] (by decide +kernel)
theorem tin_14 : ∀ w ∈ tblG_14, w ∈ lw_tbl := mem_pl [23, 257, 84, 85, 112, 83, 338, 405, 336, 337] (by decide +kernel)
theorem tin_15 : ∀ w ∈ tblG_15, w ∈ lw_tbl := mem_pl [404, 442, 445, 441, 444, 446, 402, 403, 436, 192] (by decide +kernel)
theorem tin_16 : ∀ w ∈ tblG_16, w ∈ lw_tbl := mem_pl [191, 413, 189, 190, 411, 360, 481, 392, 204, 43] (by decide +kernel)
theorem tin_17 : ∀ w ∈ tblG_17, w ∈ lw_tbl := mem_pl [50, 44, 42, 35, 38, 39, 18, 144, 51, 145] (by decide +kernel)
theorem tin_18 : ∀ w ∈ tblG_18, w ∈ lw_tbl := mem_pl [146, 148, 149, 150, 151, 79, 80, 152, 113, 114] (by decide +kernel)
theorem tin_19 : ∀ w ∈ tblG_19, w ∈ lw_tbl := mem_pl [153, 124, 125, 154, 41, 82, 116, 127, 34, 197] (by decide +kernel)
