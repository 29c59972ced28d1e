theorem mem_ps {big : List Cond} (ws : List Cond) (ps : List Nat) (hp : ps.map (fun i => big[i]?) = ws.map some) : ∀ w ∈ ws, w ∈ big := by
  intro w hw
  have h1 : some w ∈ ws.map some := List.mem_map.mpr ⟨w, hw, rfl⟩
  rw [← hp] at h1
  obtain ⟨i, -, hi⟩ := List.mem_map.mp h1
  exact List.mem_of_getElem? hi
set_option maxRecDepth 20000 in
theorem wsL_in_r1 : ∀ w ∈ wsL_law0_r1, w ∈ lw_tbl := mem_ps _ [49, 50, 34, 772, 773, 39, 1095, 1096, 1094, 51, 52, 53, 54, 55, 56, 57, 58, 35, 168, 79, 169, 81, 170, 83] (by decide +kernel)
set_option maxRecDepth 20000 in
theorem wsL_in_r2 : ∀ w ∈ wsL_law0_r2, w ∈ lw_tbl := mem_ps _ [84, 36, 171, 97, 98, 37, 172, 173, 113, 38, 60, 61, 62, 63, 66, 69, 86, 87, 88, 96, 89, 90, 100, 101] (by decide +kernel)
set_option maxRecDepth 20000 in
theorem wsL_in_r3 : ∀ w ∈ wsL_law0_r3, w ∈ lw_tbl := mem_ps _ [102, 103, 104, 105, 114, 115, 116, 117, 120, 122, 124, 167, 125, 127, 129, 131, 133, 135, 137, 140, 118, 774, 775, 776] (by decide +kernel)
set_option maxRecDepth 20000 in
theorem wsL_in_r4 : ∀ w ∈ wsL_law0_r4, w ∈ lw_tbl := mem_ps _ [777, 781, 782, 783, 784, 785, 786, 787, 788, 789, 790, 791, 793, 794, 795, 796, 797, 798, 799, 800, 801, 802, 191, 192] (by decide +kernel)
set_option maxRecDepth 20000 in
theorem wsL_in_r5 : ∀ w ∈ wsL_law0_r5, w ∈ lw_tbl := mem_ps _ [33, 193, 194, 195, 196, 197, 198, 199, 271, 44, 287, 45, 200, 201, 202, 203, 43, 288, 289, 290, 291, 299, 300, 303] (by decide +kernel)
set_option maxRecDepth 20000 in
theorem wsL_in_r6 : ∀ w ∈ wsL_law0_r6, w ∈ lw_tbl := mem_ps _ [305, 307, 292, 294, 297, 858, 859, 860, 861, 792, 778, 862, 863, 864, 854, 855, 856, 857, 326, 327, 328, 329, 330, 331] (by decide +kernel)
set_option maxRecDepth 20000 in
theorem wsL_in_r7 : ∀ w ∈ wsL_law0_r7, w ∈ lw_tbl := mem_ps _ [332, 333, 296, 298, 334, 336, 1, 337, 338, 46, 354, 355, 356, 358, 359, 360, 361, 362, 363, 364, 365, 865, 866, 867] (by decide +kernel)
set_option maxRecDepth 20000 in
theorem wsL_in_r8 : ∀ w ∈ wsL_law0_r8, w ∈ lw_tbl := mem_ps _ [868, 869, 871, 14, 872, 873, 874, 875, 366, 367, 368, 369, 370, 371, 372, 304, 876, 877, 878, 879, 373, 374, 375, 376] (by decide +kernel)
set_option maxRecDepth 20000 in
theorem wsL_in_r9 : ∀ w ∈ wsL_law0_r9, w ∈ lw_tbl := mem_ps _ [377, 378, 379, 306, 293, 380, 381, 382, 383, 880, 881, 882, 883, 385, 386, 387, 388, 389, 390, 391, 308, 141, 392, 394] (by decide +kernel)
set_option maxRecDepth 20000 in
theorem wsL_in_r10 : ∀ w ∈ wsL_law0_r10, w ∈ lw_tbl := mem_ps _ [2, 395, 398, 399, 400, 401, 295, 402, 403, 404, 405, 406, 407, 408, 409, 410, 411, 412, 413, 414, 417, 418, 419, 420] (by decide +kernel)
set_option maxRecDepth 20000 in
theorem wsL_in_r11 : ∀ w ∈ wsL_law0_r11, w ∈ lw_tbl := mem_ps _ [422, 423, 424, 425, 426, 427, 301, 428, 429, 430, 431, 432, 433, 47, 434, 435, 436, 437, 438, 440, 3, 441, 446, 447] (by decide +kernel)
set_option maxRecDepth 20000 in
theorem wsL_in_r12 : ∀ w ∈ wsL_law0_r12, w ∈ lw_tbl := mem_ps _ [48, 448, 442, 444, 4, 445, 449, 451, 5, 452, 453, 454, 455, 456, 457, 458, 459, 460, 64, 70, 461, 462, 463, 464] (by decide +kernel)
set_option maxRecDepth 20000 in
theorem wsL_in_r13 : ∀ w ∈ wsL_law0_r13, w ∈ lw_tbl := mem_ps _ [67, 468, 469, 470, 466, 467, 471, 473, 6, 474, 884, 885, 886, 887, 888, 889, 890, 891, 893, 15, 894, 895, 897, 16] (by decide +kernel)
set_option maxRecDepth 20000 in
theorem wsL_in_r14 : ∀ w ∈ wsL_law0_r14, w ∈ lw_tbl := mem_ps _ [898, 899, 901, 17, 902, 903, 904, 905, 906, 908, 18, 909, 910, 911, 912, 913, 915, 19, 916, 917, 919, 20, 920, 779] (by decide +kernel)
set_option maxRecDepth 20000 in
theorem wsL_in_r15 : ∀ w ∈ wsL_law0_r15, w ∈ lw_tbl := mem_ps _ [921, 923, 21, 924, 780, 475, 476, 477, 478, 479, 480, 481, 482, 483, 484, 925, 926, 927, 928, 929, 931, 22, 932, 486] (by decide +kernel)
set_option maxRecDepth 20000 in
theorem wsL_in_r16 : ∀ w ∈ wsL_law0_r16, w ∈ lw_tbl := mem_ps _ [487, 488, 489, 490, 491, 492, 119, 933, 934, 935, 936, 493, 494, 495, 496, 497, 498, 499, 500, 501, 502, 503, 937, 938] (by decide +kernel)
set_option maxRecDepth 20000 in
theorem wsL_in_r17 : ∀ w ∈ wsL_law0_r17, w ∈ lw_tbl := mem_ps _ [939, 940, 941, 942, 943, 944, 946, 23, 947, 505, 506, 507, 508, 509, 510, 511, 512, 513, 514, 515, 516, 948, 949, 950] (by decide +kernel)
set_option maxRecDepth 20000 in
theorem wsL_in_r18 : ∀ w ∈ wsL_law0_r18, w ∈ lw_tbl := mem_ps _ [951, 952, 953, 954, 955, 956, 957, 958, 517, 518, 519, 520, 521, 522, 523, 68, 959, 960, 961, 962, 524, 525, 526, 527] (by decide +kernel)
