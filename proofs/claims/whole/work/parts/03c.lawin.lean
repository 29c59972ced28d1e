set_option maxRecDepth 20000 in
theorem wsL_in_r19 : ∀ w ∈ wsL_law0_r19, w ∈ lw_tbl := mem_ps _ [528, 529, 530, 531, 71, 963, 964, 965, 966, 967, 532, 533, 534, 535, 536, 537, 538, 65, 539, 968, 969, 970, 971, 972] (by decide +kernel)
set_option maxRecDepth 20000 in
theorem wsL_in_r20 : ∀ w ∈ wsL_law0_r20, w ∈ lw_tbl := mem_ps _ [541, 542, 543, 544, 545, 546, 547, 132, 134, 973, 974, 975, 976, 548, 549, 550, 551, 552, 553, 554, 130, 977, 978, 979] (by decide +kernel)
set_option maxRecDepth 20000 in
theorem wsL_in_r21 : ∀ w ∈ wsL_law0_r21, w ∈ lw_tbl := mem_ps _ [980, 555, 556, 557, 558, 559, 560, 561, 136, 981, 982, 983, 984, 562, 563, 564, 565, 566, 567, 568, 139, 569, 985, 986] (by decide +kernel)
set_option maxRecDepth 20000 in
theorem wsL_in_r22 : ∀ w ∈ wsL_law0_r22, w ∈ lw_tbl := mem_ps _ [987, 988, 571, 572, 573, 574, 575, 576, 577, 121, 123, 126, 128, 578, 579, 989, 990, 991, 992, 580, 581, 582, 583, 584] (by decide +kernel)
set_option maxRecDepth 20000 in
theorem wsL_in_r23 : ∀ w ∈ wsL_law0_r23, w ∈ lw_tbl := mem_ps _ [585, 586, 302, 993, 994, 995, 996, 587, 588, 589, 590, 591, 592, 593, 997, 998, 999, 1000, 594, 595, 596, 597, 598, 599] (by decide +kernel)
set_option maxRecDepth 20000 in
theorem wsL_in_r24 : ∀ w ∈ wsL_law0_r24, w ∈ lw_tbl := mem_ps _ [600, 601, 1001, 1002, 1003, 1004, 602, 603, 604, 605, 606, 607, 608, 610, 611, 612, 613, 614, 616, 7, 617, 1005, 1006, 1007] (by decide +kernel)
set_option maxRecDepth 20000 in
theorem wsL_in_r25 : ∀ w ∈ wsL_law0_r25, w ∈ lw_tbl := mem_ps _ [1008, 618, 619, 620, 621, 622, 623, 624, 625, 626, 627, 628, 629, 1009, 1010, 1011, 1012, 630, 631, 632, 633, 634, 635, 636] (by decide +kernel)
set_option maxRecDepth 20000 in
theorem wsL_in_r26 : ∀ w ∈ wsL_law0_r26, w ∈ lw_tbl := mem_ps _ [637, 638, 639, 640, 641, 643, 8, 644, 646, 647, 648, 649, 650, 651, 652, 1013, 1014, 1015, 1016, 1017, 1019, 24, 1020, 1021] (by decide +kernel)
set_option maxRecDepth 20000 in
theorem wsL_in_r27 : ∀ w ∈ wsL_law0_r27, w ∈ lw_tbl := mem_ps _ [1022, 1023, 1024, 1025, 1027, 25, 1028, 653, 654, 655, 656, 657, 658, 659, 660, 661, 662, 663, 1029, 1030, 1031, 1032, 1033, 1035] (by decide +kernel)
set_option maxRecDepth 20000 in
theorem wsL_in_r28 : ∀ w ∈ wsL_law0_r28, w ∈ lw_tbl := mem_ps _ [26, 1036, 664, 665, 666, 667, 668, 669, 670, 671, 672, 673, 674, 675, 677, 9, 678, 679, 680, 681, 682, 683, 684, 685] (by decide +kernel)
set_option maxRecDepth 20000 in
theorem wsL_in_r29 : ∀ w ∈ wsL_law0_r29, w ∈ lw_tbl := mem_ps _ [686, 687, 1037, 1038, 1039, 1040, 1041, 1043, 27, 1044, 688, 689, 690, 691, 692, 693, 694, 695, 697, 10, 698, 699, 700, 1045] (by decide +kernel)
set_option maxRecDepth 20000 in
theorem wsL_in_r30 : ∀ w ∈ wsL_law0_r30, w ∈ lw_tbl := mem_ps _ [1046, 1047, 1048, 1049, 1051, 28, 1052, 1053, 1055, 29, 1056, 701, 702, 703, 704, 705, 706, 707, 1057, 1058, 1059, 1060, 708, 709] (by decide +kernel)
set_option maxRecDepth 20000 in
theorem wsL_in_r31 : ∀ w ∈ wsL_law0_r31, w ∈ lw_tbl := mem_ps _ [710, 711, 712, 713, 714, 715, 717, 11, 718, 719, 720, 721, 722, 723, 724, 725, 726, 138, 728, 729, 730, 731, 732, 733] (by decide +kernel)
set_option maxRecDepth 20000 in
theorem wsL_in_r32 : ∀ w ∈ wsL_law0_r32, w ∈ lw_tbl := mem_ps _ [734, 735, 736, 1061, 1062, 1063, 1064, 1065, 1067, 30, 1068, 1069, 1071, 31, 1072, 1073, 1075, 32, 1076, 737, 738, 739, 740, 741] (by decide +kernel)
set_option maxRecDepth 20000 in
theorem wsL_in_r33 : ∀ w ∈ wsL_law0_r33, w ∈ lw_tbl := mem_ps _ [742, 743, 744, 745, 746, 747, 748, 749, 751, 12, 752, 753, 755, 13, 756, 1077, 1078, 1079, 1080, 757, 758, 759, 760, 761] (by decide +kernel)
set_option maxRecDepth 20000 in
theorem wsL_in_r34 : ∀ w ∈ wsL_law0_r34, w ∈ lw_tbl := mem_ps _ [762, 763, 1081, 1082, 1083, 1084, 764, 765, 766, 767, 768, 769, 770, 771, 1085, 1086, 1087, 1088, 1089, 187, 188, 189, 190, 1090] (by decide +kernel)
set_option maxRecDepth 20000 in
theorem wsL_in_r35 : ∀ w ∈ wsL_law0_r35, w ∈ lw_tbl := mem_ps _ [1091, 1092, 1093] (by decide +kernel)
theorem wsL_in_X5 : ∀ w ∈ wsX50, w ∈ lw_tbl := by decide +kernel
theorem wsL_in_X6 : ∀ w ∈ wsX60, w ∈ lw_tbl := by decide +kernel
theorem wsL_in_X3 : ∀ w ∈ wsX30, w ∈ lw_tbl := by decide +kernel
theorem wsL_in_X2 : ∀ w ∈ wsX20, w ∈ lw_tbl := by decide +kernel
theorem wsL_in_X1 : ∀ w ∈ wsX10, w ∈ lw_tbl := by decide +kernel
theorem wsL_in_X4 : ∀ w ∈ wsX40, w ∈ lw_tbl := by decide +kernel
theorem wsL_in_X0 : ∀ w ∈ wsX00, w ∈ lw_tbl := by decide +kernel
theorem wsL_law_in0 : ∀ w ∈ wsL_law0, w ∈ lw_tbl := by
  intro w h
  refine (List.mem_append.mp h).elim (fun h => ?_) (fun h => absurd h List.not_mem_nil)
  refine (List.mem_append.mp h).elim (fun h => ?_) (fun h => wsL_in_X0 w h)
  refine (List.mem_append.mp h).elim (fun h => ?_) (fun h => wsL_in_X4 w h)
  refine (List.mem_append.mp h).elim (fun h => ?_) (fun h => wsL_in_X1 w h)
  refine (List.mem_append.mp h).elim (fun h => ?_) (fun h => wsL_in_X2 w h)
  refine (List.mem_append.mp h).elim (fun h => ?_) (fun h => wsL_in_X3 w h)
  refine (List.mem_append.mp h).elim (fun h => ?_) (fun h => wsL_in_X6 w h)
  refine (List.mem_append.mp h).elim (fun h => ?_) (fun h => wsL_in_X5 w h)
  refine (List.mem_append.mp h).elim (fun h => wsL_in_r1 w h) (fun h => ?_)
  refine (List.mem_append.mp h).elim (fun h => wsL_in_r2 w h) (fun h => ?_)
  refine (List.mem_append.mp h).elim (fun h => wsL_in_r3 w h) (fun h => ?_)
  refine (List.mem_append.mp h).elim (fun h => wsL_in_r4 w h) (fun h => ?_)
  refine (List.mem_append.mp h).elim (fun h => wsL_in_r5 w h) (fun h => ?_)
  refine (List.mem_append.mp h).elim (fun h => wsL_in_r6 w h) (fun h => ?_)
  refine (List.mem_append.mp h).elim (fun h => wsL_in_r7 w h) (fun h => ?_)
  refine (List.mem_append.mp h).elim (fun h => wsL_in_r8 w h) (fun h => ?_)
  refine (List.mem_append.mp h).elim (fun h => wsL_in_r9 w h) (fun h => ?_)
  refine (List.mem_append.mp h).elim (fun h => wsL_in_r10 w h) (fun h => ?_)
  refine (List.mem_append.mp h).elim (fun h => wsL_in_r11 w h) (fun h => ?_)
  refine (List.mem_append.mp h).elim (fun h => wsL_in_r12 w h) (fun h => ?_)
  refine (List.mem_append.mp h).elim (fun h => wsL_in_r13 w h) (fun h => ?_)
  refine (List.mem_append.mp h).elim (fun h => wsL_in_r14 w h) (fun h => ?_)
  refine (List.mem_append.mp h).elim (fun h => wsL_in_r15 w h) (fun h => ?_)
  refine (List.mem_append.mp h).elim (fun h => wsL_in_r16 w h) (fun h => ?_)
  refine (List.mem_append.mp h).elim (fun h => wsL_in_r17 w h) (fun h => ?_)
  refine (List.mem_append.mp h).elim (fun h => wsL_in_r18 w h) (fun h => ?_)
  refine (List.mem_append.mp h).elim (fun h => wsL_in_r19 w h) (fun h => ?_)
  refine (List.mem_append.mp h).elim (fun h => wsL_in_r20 w h) (fun h => ?_)
  refine (List.mem_append.mp h).elim (fun h => wsL_in_r21 w h) (fun h => ?_)
  refine (List.mem_append.mp h).elim (fun h => wsL_in_r22 w h) (fun h => ?_)
  refine (List.mem_append.mp h).elim (fun h => wsL_in_r23 w h) (fun h => ?_)
  refine (List.mem_append.mp h).elim (fun h => wsL_in_r24 w h) (fun h => ?_)
  refine (List.mem_append.mp h).elim (fun h => wsL_in_r25 w h) (fun h => ?_)
  refine (List.mem_append.mp h).elim (fun h => wsL_in_r26 w h) (fun h => ?_)
  refine (List.mem_append.mp h).elim (fun h => wsL_in_r27 w h) (fun h => ?_)
  refine (List.mem_append.mp h).elim (fun h => wsL_in_r28 w h) (fun h => ?_)
  refine (List.mem_append.mp h).elim (fun h => wsL_in_r29 w h) (fun h => ?_)
  refine (List.mem_append.mp h).elim (fun h => wsL_in_r30 w h) (fun h => ?_)
  refine (List.mem_append.mp h).elim (fun h => wsL_in_r31 w h) (fun h => ?_)
  refine (List.mem_append.mp h).elim (fun h => wsL_in_r32 w h) (fun h => ?_)
  refine (List.mem_append.mp h).elim (fun h => wsL_in_r33 w h) (fun h => ?_)
  refine (List.mem_append.mp h).elim (fun h => wsL_in_r34 w h) (fun h => ?_)
  exact wsL_in_r35 w h
theorem wsL_law_x0 : ∀ w ∈ (vx_atS RX5 57 "java/lang/IllegalStateException" ["java/lang/RuntimeException", "java/lang/Exception"]).filter goodWord, w ∈ lw_tbl := by decide +kernel
theorem wsL_law_x1 : ∀ w ∈ (vx_atS RX5 94 "java/lang/IllegalArgumentException" ["java/lang/RuntimeException", "java/lang/Exception"]).filter goodWord, w ∈ lw_tbl := by decide +kernel
theorem wsL_law_x2 : ∀ w ∈ (vx_atS RX5 245 "java/lang/IndexOutOfBoundsException" ["java/lang/RuntimeException", "java/lang/Exception"]).filter goodWord, w ∈ lw_tbl := by decide +kernel
theorem wsL_law_in : ∀ w ∈ wsL_law, w ∈ lw_tbl := fun w h => (List.mem_append.mp h).elim (fun h => (List.mem_append.mp h).elim (fun h => (List.mem_append.mp h).elim (fun h => wsL_law_in0 w h) (fun h => wsL_law_x0 w h)) (fun h => wsL_law_x1 w h)) (fun h => wsL_law_x2 w h)
theorem inlX0 : ∀ w ∈ wsX00, w ∈ wsL_law := fun _ h => List.mem_append_left _ (List.mem_append_left _ (List.mem_append_left _ (List.mem_append_left _ (List.mem_append_right _ h))))
theorem inX0 : ∀ w ∈ wsX00, w ∈ lw_tbl := fun w h => wsL_law_in w (inlX0 w h)
theorem inlX1 : ∀ w ∈ wsX10, w ∈ wsL_law := fun _ h => List.mem_append_left _ (List.mem_append_left _ (List.mem_append_left _ (List.mem_append_left _ (List.mem_append_left _ (List.mem_append_left _ (List.mem_append_right _ h))))))
theorem inX1 : ∀ w ∈ wsX10, w ∈ lw_tbl := fun w h => wsL_law_in w (inlX1 w h)
theorem inlX2 : ∀ w ∈ wsX20, w ∈ wsL_law := fun _ h => List.mem_append_left _ (List.mem_append_left _ (List.mem_append_left _ (List.mem_append_left _ (List.mem_append_left _ (List.mem_append_left _ (List.mem_append_left _ (List.mem_append_right _ h)))))))
theorem inX2 : ∀ w ∈ wsX20, w ∈ lw_tbl := fun w h => wsL_law_in w (inlX2 w h)
theorem inlX3 : ∀ w ∈ wsX30, w ∈ wsL_law := fun _ h => List.mem_append_left _ (List.mem_append_left _ (List.mem_append_left _ (List.mem_append_left _ (List.mem_append_left _ (List.mem_append_left _ (List.mem_append_left _ (List.mem_append_left _ (List.mem_append_right _ h))))))))
theorem inX3 : ∀ w ∈ wsX30, w ∈ lw_tbl := fun w h => wsL_law_in w (inlX3 w h)
theorem inlX4 : ∀ w ∈ wsX40, w ∈ wsL_law := fun _ h => List.mem_append_left _ (List.mem_append_left _ (List.mem_append_left _ (List.mem_append_left _ (List.mem_append_left _ (List.mem_append_right _ h)))))
theorem inX4 : ∀ w ∈ wsX40, w ∈ lw_tbl := fun w h => wsL_law_in w (inlX4 w h)
theorem inlX5 : ∀ w ∈ wsX50, w ∈ wsL_law := fun _ h => List.mem_append_left _ (List.mem_append_left _ (List.mem_append_left _ (List.mem_append_left _ (List.mem_append_left _ (List.mem_append_left _ (List.mem_append_left _ (List.mem_append_left _ (List.mem_append_left _ (List.mem_append_left _ (List.mem_append_right _ h))))))))))
theorem inX5 : ∀ w ∈ wsX50, w ∈ lw_tbl := fun w h => wsL_law_in w (inlX5 w h)
theorem inlX6 : ∀ w ∈ wsX60, w ∈ wsL_law := fun _ h => List.mem_append_left _ (List.mem_append_left _ (List.mem_append_left _ (List.mem_append_left _ (List.mem_append_left _ (List.mem_append_left _ (List.mem_append_left _ (List.mem_append_left _ (List.mem_append_left _ (List.mem_append_right _ h)))))))))
theorem inX6 : ∀ w ∈ wsX60, w ∈ lw_tbl := fun w h => wsL_law_in w (inlX6 w h)
theorem inJ6 : ∀ w ∈ wsJ60, w ∈ lw_tbl := by decide +kernel
theorem inJ9 : ∀ w ∈ wsJ90, w ∈ lw_tbl := by decide +kernel
theorem inJ0 : ∀ w ∈ wsJ00, w ∈ lw_tbl := by decide +kernel
