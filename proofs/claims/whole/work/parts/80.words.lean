/-! every word of the contracts stands among the tables, by its place (by program: mkwords.py) -/
theorem z_in {big ws : List Cond} (ps : List Nat) (hp : ws = ps.filterMap (fun i => big[i]?)) : ∀ w ∈ ws, w ∈ big := by
  intro w hw
  rw [hp] at hw
  obtain ⟨i, -, hi⟩ := List.mem_filterMap.mp hw
  exact List.mem_of_getElem? hi
set_option maxRecDepth 20000 in
theorem zin_1 : ∀ w ∈ wsL_law0_r1, w ∈ lw_tbl := z_in [84, 85, 62, 846, 847, 68, 1117, 86, 87, 88, 89, 90, 91, 92, 179, 94, 63, 121, 122, 66, 180, 181, 147, 148] rfl
set_option maxRecDepth 20000 in
theorem zin_2 : ∀ w ∈ wsL_law0_r2, w ∈ lw_tbl := z_in [67, 182, 96, 97, 98, 120, 101, 103, 105, 123, 124, 125, 133, 135, 126, 127, 65, 128, 137, 129, 130, 64, 131, 132] rfl
set_option maxRecDepth 20000 in
theorem zin_3 : ∀ w ∈ wsL_law0_r3, w ∈ lw_tbl := z_in [150, 151, 152, 167, 169, 0, 170, 183, 184, 185, 171, 172, 173, 174, 99, 107, 175, 176, 177, 178, 138, 139, 136, 848] rfl
set_option maxRecDepth 20000 in
theorem zin_4 : ∀ w ∈ wsL_law0_r4, w ∈ lw_tbl := z_in [849, 850, 851, 856, 857, 941, 858, 859, 862, 863, 864, 865, 866, 867, 868, 869, 870, 871, 872, 873, 874, 875, 876, 877] rfl
set_option maxRecDepth 20000 in
theorem zin_5 : ∀ w ∈ wsL_law0_r5, w ∈ lw_tbl := z_in [878, 881, 852, 854, 39, 855, 860, 861, 879, 880, 201, 202, 61, 203, 204, 205, 206, 207, 208, 209, 210, 211, 212, 72] rfl
set_option maxRecDepth 20000 in
theorem zin_6 : ∀ w ∈ wsL_law0_r6, w ∈ lw_tbl := z_in [946, 947, 948, 949, 950, 952, 40, 953, 883, 942, 943, 944, 945, 279, 280, 281, 282, 283, 284, 285, 286, 100, 314, 315] rfl
set_option maxRecDepth 20000 in
theorem zin_7 : ∀ w ∈ wsL_law0_r7, w ∈ lw_tbl := z_in [74, 314, 102, 287, 289, 2, 290, 291, 292, 293, 294, 73, 310, 311, 312, 313, 317, 318, 319, 331, 336, 340, 342, 389] rfl
set_option maxRecDepth 20000 in
theorem zin_8 : ∀ w ∈ wsL_law0_r8, w ∈ lw_tbl := z_in [390, 391, 392, 393, 395, 3, 396, 397, 399, 4, 400, 401, 403, 5, 404, 443, 409, 76, 410, 444, 405, 406, 75, 407] rfl
set_option maxRecDepth 20000 in
theorem zin_9 : ∀ w ∈ wsL_law0_r9, w ∈ lw_tbl := z_in [408, 411, 412, 413, 414, 415, 416, 77, 417, 418, 1122, 419, 430, 431, 432, 433, 434, 436, 437, 438, 439, 440, 442, 441] rfl
set_option maxRecDepth 20000 in
theorem zin_10 : ∀ w ∈ wsL_law0_r10, w ∈ lw_tbl := z_in [78, 445, 446, 447, 448, 449, 450, 79, 451, 452, 453, 80, 454, 455, 456, 457, 458, 459, 460, 461, 462, 320, 323, 326] rfl
set_option maxRecDepth 20000 in
theorem zin_11 : ∀ w ∈ wsL_law0_r11, w ∈ lw_tbl := z_in [328, 334, 338, 344, 346, 348, 350, 352, 354, 954, 955, 956, 957, 958, 960, 41, 961, 463, 464, 465, 466, 467, 468, 469] rfl
set_option maxRecDepth 20000 in
theorem zin_12 : ∀ w ∈ wsL_law0_r12, w ∈ lw_tbl := z_in [337, 325, 332, 470, 472, 6, 473, 474, 475, 476, 477, 478, 479, 327, 480, 481, 482, 483, 485, 486, 487, 489, 7, 490] rfl
set_option maxRecDepth 20000 in
theorem zin_13 : ∀ w ∈ wsL_law0_r13, w ∈ lw_tbl := z_in [108, 106, 491, 492, 493, 494, 962, 963, 964, 965, 966, 968, 42, 969, 970, 971, 972, 973, 975, 43, 976, 977, 979, 44] rfl
set_option maxRecDepth 20000 in
theorem zin_14 : ∀ w ∈ wsL_law0_r14, w ∈ lw_tbl := z_in [980, 495, 496, 497, 498, 499, 500, 501, 335, 502, 503, 504, 505, 506, 507, 81, 508, 509, 510, 511, 981, 982, 983, 984] rfl
set_option maxRecDepth 20000 in
theorem zin_15 : ∀ w ∈ wsL_law0_r15, w ∈ lw_tbl := z_in [985, 987, 45, 988, 512, 513, 514, 515, 516, 517, 518, 339, 341, 343, 519, 520, 521, 522, 523, 524, 989, 990, 991, 992] rfl
set_option maxRecDepth 20000 in
theorem zin_16 : ∀ w ∈ wsL_law0_r16, w ∈ lw_tbl := z_in [993, 994, 995, 525, 526, 527, 528, 529, 530, 531, 532, 533, 534, 535, 536, 538, 8, 539, 996, 997, 998, 999, 540, 541] rfl
set_option maxRecDepth 20000 in
theorem zin_17 : ∀ w ∈ wsL_law0_r17, w ∈ lw_tbl := z_in [542, 543, 544, 545, 546, 547, 549, 9, 550, 551, 553, 10, 554, 555, 556, 557, 558, 560, 11, 561, 562, 564, 12, 565] rfl
set_option maxRecDepth 20000 in
theorem zin_18 : ∀ w ∈ wsL_law0_r18, w ∈ lw_tbl := z_in [566, 568, 13, 569, 104, 322, 570, 572, 14, 573, 330, 574, 576, 15, 577, 349, 351, 578, 579, 580, 581, 321, 324, 582] rfl
set_option maxRecDepth 20000 in
theorem zin_19 : ∀ w ∈ wsL_law0_r19, w ∈ lw_tbl := z_in [583, 584, 585, 586, 588, 16, 589, 590, 592, 17, 593, 594, 595, 597, 18, 598, 603, 604, 83, 599, 601, 19, 602, 606] rfl
set_option maxRecDepth 20000 in
theorem zin_20 : ∀ w ∈ wsL_law0_r20, w ∈ lw_tbl := z_in [607, 612, 613, 614, 615, 608, 609, 82, 610, 611, 625, 626, 628, 20, 629, 345, 630, 632, 21, 633, 1000, 1001, 1002, 1003] rfl
set_option maxRecDepth 20000 in
theorem zin_21 : ∀ w ∈ wsL_law0_r21, w ∈ lw_tbl := z_in [1004, 1006, 46, 1007, 1008, 1010, 47, 1011, 1012, 1014, 48, 1015, 1016, 1018, 49, 1019, 1020, 1022, 50, 1023, 1024, 1026, 51, 1027] rfl
set_option maxRecDepth 20000 in
theorem zin_22 : ∀ w ∈ wsL_law0_r22, w ∈ lw_tbl := z_in [1028, 1030, 52, 1031, 634, 635, 636, 637, 638, 639, 640, 1032, 1033, 1034, 1035, 641, 642, 643, 644, 645, 646, 647, 347, 1036] rfl
set_option maxRecDepth 20000 in
theorem zin_23 : ∀ w ∈ wsL_law0_r23, w ∈ lw_tbl := z_in [1037, 1038, 1039, 648, 649, 650, 651, 652, 653, 654, 603, 655, 657, 22, 658, 659, 660, 661, 662, 663, 665, 23, 666, 667] rfl
set_option maxRecDepth 20000 in
theorem zin_24 : ∀ w ∈ wsL_law0_r24, w ∈ lw_tbl := z_in [668, 669, 670, 671, 672, 673, 674, 675, 676, 678, 24, 679, 680, 681, 682, 683, 684, 686, 25, 687, 353, 688, 689, 690] rfl
set_option maxRecDepth 20000 in
theorem zin_25 : ∀ w ∈ wsL_law0_r25, w ∈ lw_tbl := z_in [691, 692, 694, 26, 695, 696, 698, 27, 699, 700, 702, 28, 703, 704, 705, 707, 29, 708, 709, 711, 30, 712, 713, 715] rfl
set_option maxRecDepth 20000 in
theorem zin_26 : ∀ w ∈ wsL_law0_r26, w ∈ lw_tbl := z_in [31, 716, 717, 718, 719, 720, 329, 333, 1040, 1041, 1042, 1043, 1044, 1046, 53, 1047, 1048, 1050, 54, 1051, 1052, 1054, 55, 1055] rfl
set_option maxRecDepth 20000 in
theorem zin_27 : ∀ w ∈ wsL_law0_r27, w ∈ lw_tbl := z_in [1056, 1058, 56, 1059, 1060, 1062, 57, 1063, 721, 722, 723, 724, 725, 726, 727, 1064, 1065, 1066, 1067, 728, 729, 730, 731, 732] rfl
set_option maxRecDepth 20000 in
theorem zin_28 : ∀ w ∈ wsL_law0_r28, w ∈ lw_tbl := z_in [733, 734, 1068, 1069, 1070, 1071, 735, 736, 737, 738, 739, 740, 741, 157, 742, 743, 744, 745, 153, 154, 155, 156, 746, 748] rfl
set_option maxRecDepth 20000 in
theorem zin_29 : ∀ w ∈ wsL_law0_r29, w ∈ lw_tbl := z_in [32, 749, 750, 751, 752, 753, 754, 755, 756, 757, 758, 759, 760, 762, 33, 763, 764, 766, 34, 767, 768, 770, 35, 771] rfl
set_option maxRecDepth 20000 in
theorem zin_30 : ∀ w ∈ wsL_law0_r30, w ∈ lw_tbl := z_in [772, 773, 774, 775, 776, 777, 779, 36, 780, 781, 782, 783, 784, 1072, 1073, 1074, 1075, 882, 1088, 1076, 1078, 58, 1079, 1080] rfl
set_option maxRecDepth 20000 in
theorem zin_31 : ∀ w ∈ wsL_law0_r31, w ∈ lw_tbl := z_in [1082, 59, 1083, 1084, 1086, 60, 1087, 785, 786, 787, 788, 789, 790, 791, 792, 793, 794, 355, 1089, 1090, 1091, 1092, 795, 796] rfl
set_option maxRecDepth 20000 in
theorem zin_32 : ∀ w ∈ wsL_law0_r32, w ∈ lw_tbl := z_in [797, 798, 799, 800, 801, 1093, 1094, 1095, 1096, 802, 803, 804, 805, 806, 807, 808, 1097, 1098, 1099, 1100, 810, 811, 812, 813] rfl
set_option maxRecDepth 20000 in
theorem zin_33 : ∀ w ∈ wsL_law0_r33, w ∈ lw_tbl := z_in [814, 815, 816, 1101, 1102, 1103, 1104, 817, 818, 819, 820, 821, 822, 823, 1105, 1106, 1107, 1108, 824, 825, 826, 827, 828, 829] rfl
set_option maxRecDepth 20000 in
theorem zin_34 : ∀ w ∈ wsL_law0_r34, w ∈ lw_tbl := z_in [830, 1109, 1110, 1111, 1112, 831, 832, 833, 834, 835, 836, 837, 838, 840, 37, 841, 842, 844, 38, 845, 1113, 1114, 1115, 1116] rfl
set_option maxRecDepth 20000 in
theorem zin_X4 : ∀ w ∈ wsX40, w ∈ lw_tbl := z_in [186, 188, 190, 192, 194, 196, 198] rfl
set_option maxRecDepth 20000 in
theorem zin_X5 : ∀ w ∈ wsX50, w ∈ lw_tbl := z_in [884, 886, 888, 890, 892, 894, 896, 898, 900, 902, 904, 906, 908, 910, 912, 914, 916, 918, 920, 922, 924, 926, 928, 930, 932, 934, 936, 938] rfl
set_option maxRecDepth 20000 in
theorem zin_X2 : ∀ w ∈ wsX20, w ∈ lw_tbl := z_in [109, 111, 113, 115, 117] rfl
set_option maxRecDepth 20000 in
theorem zin_Jx4a65c : ∀ w ∈ wsJx4a65c0, w ∈ lw_tbl := z_in [144, 140, 142] rfl
set_option maxRecDepth 20000 in
theorem zin_X0 : ∀ w ∈ wsX00, w ∈ lw_tbl := z_in [158, 160, 162, 164] rfl
set_option maxRecDepth 20000 in
theorem zin_X3 : ∀ w ∈ wsX30, w ∈ lw_tbl := z_in [356, 358, 360, 362, 364, 366, 368, 370, 372, 374, 376, 378, 380, 382, 384, 386] rfl
set_option maxRecDepth 20000 in
theorem zin_X1 : ∀ w ∈ wsX10, w ∈ lw_tbl := z_in [616, 618, 620, 622] rfl
theorem wsL_law_in0 : ∀ w ∈ wsL_law0, w ∈ lw_tbl := fun w h => (List.mem_append.mp h).elim ((fun w h => (List.mem_append.mp h).elim ((fun w h => (List.mem_append.mp h).elim ((fun w h => (List.mem_append.mp h).elim ((fun w h => (List.mem_append.mp h).elim ((fun w h => (List.mem_append.mp h).elim ((fun w h => (List.mem_append.mp h).elim ((fun w h => (List.mem_append.mp h).elim ((fun w h => (List.mem_append.mp h).elim (zin_1 w) ((fun w h => (List.mem_append.mp h).elim (zin_2 w) ((fun w h => (List.mem_append.mp h).elim (zin_3 w) ((fun w h => (List.mem_append.mp h).elim (zin_4 w) ((fun w h => (List.mem_append.mp h).elim (zin_5 w) ((fun w h => (List.mem_append.mp h).elim (zin_6 w) ((fun w h => (List.mem_append.mp h).elim (zin_7 w) ((fun w h => (List.mem_append.mp h).elim (zin_8 w) ((fun w h => (List.mem_append.mp h).elim (zin_9 w) ((fun w h => (List.mem_append.mp h).elim (zin_10 w) ((fun w h => (List.mem_append.mp h).elim (zin_11 w) ((fun w h => (List.mem_append.mp h).elim (zin_12 w) ((fun w h => (List.mem_append.mp h).elim (zin_13 w) ((fun w h => (List.mem_append.mp h).elim (zin_14 w) ((fun w h => (List.mem_append.mp h).elim (zin_15 w) ((fun w h => (List.mem_append.mp h).elim (zin_16 w) ((fun w h => (List.mem_append.mp h).elim (zin_17 w) ((fun w h => (List.mem_append.mp h).elim (zin_18 w) ((fun w h => (List.mem_append.mp h).elim (zin_19 w) ((fun w h => (List.mem_append.mp h).elim (zin_20 w) ((fun w h => (List.mem_append.mp h).elim (zin_21 w) ((fun w h => (List.mem_append.mp h).elim (zin_22 w) ((fun w h => (List.mem_append.mp h).elim (zin_23 w) ((fun w h => (List.mem_append.mp h).elim (zin_24 w) ((fun w h => (List.mem_append.mp h).elim (zin_25 w) ((fun w h => (List.mem_append.mp h).elim (zin_26 w) ((fun w h => (List.mem_append.mp h).elim (zin_27 w) ((fun w h => (List.mem_append.mp h).elim (zin_28 w) ((fun w h => (List.mem_append.mp h).elim (zin_29 w) ((fun w h => (List.mem_append.mp h).elim (zin_30 w) ((fun w h => (List.mem_append.mp h).elim (zin_31 w) ((fun w h => (List.mem_append.mp h).elim (zin_32 w) ((fun w h => (List.mem_append.mp h).elim (zin_33 w) ((zin_34) w)) w)) w)) w)) w)) w)) w)) w)) w)) w)) w)) w)) w)) w)) w)) w)) w)) w)) w)) w)) w)) w)) w)) w)) w)) w)) w)) w)) w)) w)) w)) w)) w)) w) (zin_X4 w)) w) (zin_X5 w)) w) (zin_X2 w)) w) (zin_Jx4a65c w)) w) (zin_X0 w)) w) (zin_X3 w)) w) (zin_X1 w)) w) (fun h => absurd h List.not_mem_nil)
theorem wsL_law_x0 : ∀ w ∈ (vx_atS RX4 232 "java/lang/IllegalArgumentException" ["java/lang/RuntimeException", "java/lang/Exception"]).filter goodWord, w ∈ lw_tbl := by decide +kernel
theorem wsL_law_x1 : ∀ w ∈ (vx_atS RX4 260 "java/lang/IllegalStateException" ["java/lang/RuntimeException", "java/lang/Exception"]).filter goodWord, w ∈ lw_tbl := by decide +kernel
theorem wsL_law_in : ∀ w ∈ wsL_law, w ∈ lw_tbl := fun w h => (List.mem_append.mp h).elim (fun h => (List.mem_append.mp h).elim (fun h => wsL_law_in0 w h) (fun h => wsL_law_x0 w h)) (fun h => wsL_law_x1 w h)
