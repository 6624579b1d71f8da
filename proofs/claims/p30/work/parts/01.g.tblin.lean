theorem tin_5 : ∀ w ∈ tblG_5, w ∈ lw_tbl := mem_pl [201, 202, 203, 196, 259, 29, 60, 62, 64, 92, 182, 188, 193, 195, 0, 222, 236, 237, 238, 254, 255, 256, 181, 339, 28, 335, 334, 67, 120, 331, 333, 5, 355, 356, 357, 358, 359, 330, 401, 400] (by decide +kernel)
theorem tin_6 : ∀ w ∈ tblG_6, w ∈ lw_tbl := mem_pl [397, 399, 8, 407, 415, 485, 90, 451, 501, 506, 505, 517, 516, 147, 388, 385, 387, 7, 384, 365, 27, 381, 383, 6, 478, 479, 480, 476, 389, 390, 391, 364, 408, 409, 410, 416, 396, 423, 547, 546] (by decide +kernel)
theorem tin_7 : ∀ w ∈ tblG_7, w ∈ lw_tbl := mem_pl [543, 545, 12, 542, 558, 559, 560, 557, 458, 459, 460, 457, 133, 135, 455, 456, 588, 428, 88, 450, 433, 434, 435, 447, 449, 9, 432, 464, 465, 463, 469, 468, 461, 462, 16, 466, 467, 473, 474, 475] (by decide +kernel)
theorem tin_8 : ∀ w ∈ tblG_8, w ∈ lw_tbl := mem_pl [327, 328, 329, 361, 362, 363, 482, 483, 484, 393, 394, 395, 472, 491, 489, 490, 488, 498, 499, 500, 502, 503, 504, 513, 514, 515, 497, 495, 496, 178, 179, 180, 494, 535, 533, 534, 532, 539, 540, 541] (by decide +kernel)
theorem tin_9 : ∀ w ∈ tblG_9, w ∈ lw_tbl := mem_pl [420, 421, 422, 538, 554, 555, 556, 585, 586, 587, 553, 30, 31, 32, 33, 425, 426, 427, 429, 430, 431, 470, 471, 486, 487, 492, 493, 530, 531, 536, 537, 551, 552, 40, 53, 81, 86, 115, 126, 131] (by decide +kernel)
theorem tin_10 : ∀ w ∈ tblG_10, w ∈ lw_tbl := mem_pl [247, 437, 440, 443, 510, 512] (by decide +kernel)
theorem tin_tblF : tblF.all (fun w => decide (w ∈ lw_tbl)) = true := by decide +kernel
theorem tblG_in : ∀ w ∈ tblG, w ∈ lw_tbl := by
  have all_in : ∀ {L : List Cond}, L.all (fun w => decide (w ∈ lw_tbl)) = true → ∀ w ∈ L, w ∈ lw_tbl := fun h w hw => of_decide_eq_true (List.all_eq_true.mp h w hw)
  intro w hw
  unfold tblG at hw
  rcases List.mem_append.mp hw with h | hw
  · exact tin_0 w h
  rcases List.mem_append.mp hw with h | hw
  · exact tin_1 w h
  rcases List.mem_append.mp hw with h | hw
  · exact tin_2 w h
  rcases List.mem_append.mp hw with h | hw
  · exact tin_3 w h
  rcases List.mem_append.mp hw with h | hw
  · exact tin_4 w h
  rcases List.mem_append.mp hw with h | hw
  · exact tin_5 w h
  rcases List.mem_append.mp hw with h | hw
  · exact tin_6 w h
  rcases List.mem_append.mp hw with h | hw
  · exact tin_7 w h
  rcases List.mem_append.mp hw with h | hw
  · exact tin_8 w h
  rcases List.mem_append.mp hw with h | hw
  · exact tin_9 w h
  rcases List.mem_append.mp hw with h | hw
  · exact tin_10 w h
  exact all_in tin_tblF w hw
