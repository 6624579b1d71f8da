theorem tin_20 : ∀ w ∈ tblG_20, w ∈ lw_tbl := mem_pl [201, 202, 203, 196, 259, 29, 60, 62, 64, 92] (by decide +kernel)
theorem tin_21 : ∀ w ∈ tblG_21, w ∈ lw_tbl := mem_pl [182, 188, 193, 195, 0, 222, 236, 237, 238, 254] (by decide +kernel)
theorem tin_22 : ∀ w ∈ tblG_22, w ∈ lw_tbl := mem_pl [255, 256, 181, 339, 28, 335, 334, 67, 120, 331] (by decide +kernel)
theorem tin_23 : ∀ w ∈ tblG_23, w ∈ lw_tbl := mem_pl [333, 5, 355, 356, 357, 358, 359, 330, 401, 400] (by decide +kernel)
theorem tin_24 : ∀ w ∈ tblG_24, w ∈ lw_tbl := mem_pl [397, 399, 8, 407, 415, 485, 90, 451, 501, 506] (by decide +kernel)
theorem tin_25 : ∀ w ∈ tblG_25, w ∈ lw_tbl := mem_pl [505, 517, 516, 147, 388, 385, 387, 7, 384, 365] (by decide +kernel)
theorem tin_26 : ∀ w ∈ tblG_26, w ∈ lw_tbl := mem_pl [27, 381, 383, 6, 478, 479, 480, 476, 389, 390] (by decide +kernel)
theorem tin_27 : ∀ w ∈ tblG_27, w ∈ lw_tbl := mem_pl [391, 364, 408, 409, 410, 416, 396, 423, 547, 546] (by decide +kernel)
theorem tin_28 : ∀ w ∈ tblG_28, w ∈ lw_tbl := mem_pl [543, 545, 12, 542, 558, 559, 560, 557, 458, 459] (by decide +kernel)
theorem tin_29 : ∀ w ∈ tblG_29, w ∈ lw_tbl := mem_pl [460, 457, 133, 135, 455, 456, 588, 428, 88, 450] (by decide +kernel)
theorem tin_30 : ∀ w ∈ tblG_30, w ∈ lw_tbl := mem_pl [433, 434, 435, 447, 449, 9, 432, 464, 465, 463] (by decide +kernel)
theorem tin_31 : ∀ w ∈ tblG_31, w ∈ lw_tbl := mem_pl [469, 468, 461, 462, 16, 466, 467, 473, 474, 475] (by decide +kernel)
theorem tin_32 : ∀ w ∈ tblG_32, w ∈ lw_tbl := mem_pl [327, 328, 329, 361, 362, 363, 482, 483, 484, 393] (by decide +kernel)
theorem tin_33 : ∀ w ∈ tblG_33, w ∈ lw_tbl := mem_pl [394, 395, 472, 491, 489, 490, 488, 498, 499, 500] (by decide +kernel)
theorem tin_34 : ∀ w ∈ tblG_34, w ∈ lw_tbl := mem_pl [502, 503, 504, 513, 514, 515, 497, 495, 496, 178] (by decide +kernel)
theorem tin_35 : ∀ w ∈ tblG_35, w ∈ lw_tbl := mem_pl [179, 180, 494, 535, 533, 534, 532, 539, 540, 541] (by decide +kernel)
theorem tin_36 : ∀ w ∈ tblG_36, w ∈ lw_tbl := mem_pl [420, 421, 422, 538, 554, 555, 556, 585, 586, 587] (by decide +kernel)
theorem tin_37 : ∀ w ∈ tblG_37, w ∈ lw_tbl := mem_pl [553, 30, 31, 32, 33, 425, 426, 427, 429, 430] (by decide +kernel)
theorem tin_38 : ∀ w ∈ tblG_38, w ∈ lw_tbl := mem_pl [431, 470, 471, 486, 487, 492, 493, 530, 531, 536] (by decide +kernel)
theorem tin_39 : ∀ w ∈ tblG_39, w ∈ lw_tbl := mem_pl [537, 551, 552, 40, 53, 81, 86, 115, 126, 131] (by decide +kernel)
theorem tin_40 : ∀ w ∈ tblG_40, w ∈ lw_tbl := mem_pl [247, 437, 440, 443, 510, 512] (by decide +kernel)
theorem tin_tblF : tblF.all (fun w => decide (w ∈ lw_tbl)) = true := by decide +kernel
theorem tblG_in : ∀ w ∈ tblG, w ∈ lw_tbl := by
  have all_in : ∀ {L : List Cond}, L.all (fun w => decide (w ∈ lw_tbl)) = true → ∀ w ∈ L, w ∈ lw_tbl := fun h w hw => of_decide_eq_true (List.all_eq_true.mp h w hw)
  intro w hw
  unfold tblG at hw
  rcases List.mem_append.mp hw with h | hw
  · exact tin_0 w h
  rcases List.mem_append.mp hw with h | hw
  · exact tin_1 w h
  rcases List.mem_append.mp hw with h | hw
  · exact tin_2 w h
  rcases List.mem_append.mp hw with h | hw
  · exact tin_3 w h
  rcases List.mem_append.mp hw with h | hw
  · exact tin_4 w h
  rcases List.mem_append.mp hw with h | hw
  · exact tin_5 w h
  rcases List.mem_append.mp hw with h | hw
  · exact tin_6 w h
  rcases List.mem_append.mp hw with h | hw
  · exact tin_7 w h
  rcases List.mem_append.mp hw with h | hw
  · exact tin_8 w h
  rcases List.mem_append.mp hw with h | hw
  · exact tin_9 w h
  rcases List.mem_append.mp hw with h | hw
  · exact tin_10 w h
  rcases List.mem_append.mp hw with h | hw
  · exact tin_11 w h
  rcases List.mem_append.mp hw with h | hw
  · exact tin_12 w h
  rcases List.mem_append.mp hw with h | hw
  · exact tin_13 w h
  rcases List.mem_append.mp hw with h | hw
  · exact tin_14 w h
  rcases List.mem_append.mp hw with h | hw
  · exact tin_15 w h
  rcases List.mem_append.mp hw with h | hw
  · exact tin_16 w h
  rcases List.mem_append.mp hw with h | hw
  · exact tin_17 w h
  rcases List.mem_append.mp hw with h | hw
  · exact tin_18 w h
  rcases List.mem_append.mp hw with h | hw
  · exact tin_19 w h
  rcases List.mem_append.mp hw with h | hw
  · exact tin_20 w h
  rcases List.mem_append.mp hw with h | hw
  · exact tin_21 w h
  rcases List.mem_append.mp hw with h | hw
  · exact tin_22 w h
  rcases List.mem_append.mp hw with h | hw
  · exact tin_23 w h
  rcases List.mem_append.mp hw with h | hw
  · exact tin_24 w h
  rcases List.mem_append.mp hw with h | hw
  · exact tin_25 w h
  rcases List.mem_append.mp hw with h | hw
  · exact tin_26 w h
  rcases List.mem_append.mp hw with h | hw
  · exact tin_27 w h
  rcases List.mem_append.mp hw with h | hw
  · exact tin_28 w h
  rcases List.mem_append.mp hw with h | hw
  · exact tin_29 w h
  rcases List.mem_append.mp hw with h | hw
  · exact tin_30 w h
  rcases List.mem_append.mp hw with h | hw
  · exact tin_31 w h
  rcases List.mem_append.mp hw with h | hw
  · exact tin_32 w h
  rcases List.mem_append.mp hw with h | hw
  · exact tin_33 w h
  rcases List.mem_append.mp hw with h | hw
  · exact tin_34 w h
  rcases List.mem_append.mp hw with h | hw
  · exact tin_35 w h
  rcases List.mem_append.mp hw with h | hw
  · exact tin_36 w h
  rcases List.mem_append.mp hw with h | hw
  · exact tin_37 w h
  rcases List.mem_append.mp hw with h | hw
  · exact tin_38 w h
  rcases List.mem_append.mp hw with h | hw
  · exact tin_39 w h
  rcases List.mem_append.mp hw with h | hw
  · exact tin_40 w h
  exact all_in tin_tblF w hw
