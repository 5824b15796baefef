theorem kd_by {big : List Cond} (ws : List Cond) (ps : List Nat) (hp : ws = ps.filterMap (fun i => big[i]?)) : ∀ w ∈ ws, w ∈ big := by
  intro w hw
  rw [hp] at hw
  obtain ⟨i, -, hi⟩ := List.mem_filterMap.mp hw
  exact List.mem_of_getElem? hi
theorem kd_apin {big a b : List Cond} (ha : ∀ w ∈ a, w ∈ big) (hb : ∀ w ∈ b, w ∈ big) : ∀ w ∈ a ++ b, w ∈ big := fun w h => (List.mem_append.mp h).elim (ha w) (hb w)
set_option maxRecDepth 20000 in
theorem in_wsL_law_r1 : ∀ w ∈ wsL_law_r1, w ∈ lw_tbl := kd_by _ [92, 93, 73, 757, 758, 84, 94, 95, 96, 97, 98, 99, 100, 101, 74, 258, 115, 117, 75, 134, 135, 76, 144, 145] (by decide +kernel)
set_option maxRecDepth 20000 in
theorem in_wsL_law_r2 : ∀ w ∈ wsL_law_r2, w ∈ lw_tbl := kd_by _ [77, 154, 155, 78, 164, 165, 79, 259, 174, 175, 80, 260, 188, 189, 81, 261, 198, 199, 82, 262, 263, 264, 265, 266] (by decide +kernel)
set_option maxRecDepth 20000 in
theorem in_wsL_law_r3 : ∀ w ∈ wsL_law_r3, w ∈ lw_tbl := kd_by _ [267, 103, 104, 105, 114, 106, 107, 118, 119, 120, 121, 122, 123, 126, 136, 137, 138, 139, 146, 147, 148, 149, 156, 157] (by decide +kernel)
set_option maxRecDepth 20000 in
theorem in_wsL_law_r4 : ∀ w ∈ wsL_law_r4, w ∈ lw_tbl := kd_by _ [158, 159, 166, 167, 168, 169, 177, 178, 179, 180, 181, 191, 192, 193, 194, 201, 202, 203, 204, 234, 206, 83, 236, 237] (by decide +kernel)
set_option maxRecDepth 20000 in
theorem in_wsL_law_r5 : ∀ w ∈ wsL_law_r5, w ∈ lw_tbl := kd_by _ [239, 241, 243, 208, 209, 210, 211, 213, 215, 218, 219, 220, 759, 760, 761, 762, 769, 770, 771, 773, 776, 782, 783, 854] (by decide +kernel)
set_option maxRecDepth 20000 in
theorem in_wsL_law_r6 : ∀ w ∈ wsL_law_r6, w ∈ lw_tbl := kd_by _ [784, 785, 787, 789, 794, 795, 790, 763, 764, 765, 766, 767, 768, 289, 290, 291, 292, 295, 0, 296, 299, 1, 300, 301] (by decide +kernel)
set_option maxRecDepth 20000 in
theorem in_wsL_law_r7 : ∀ w ∈ wsL_law_r7, w ∈ lw_tbl := kd_by _ [855, 856, 857, 858, 859, 772, 860, 861, 862, 302, 303, 304, 305, 308, 2, 309, 863, 864, 865, 866, 310, 311, 312, 313] (by decide +kernel)
set_option maxRecDepth 20000 in
theorem in_wsL_law_r8 : ∀ w ∈ wsL_law_r8, w ∈ lw_tbl := kd_by _ [316, 3, 317, 318, 320, 4, 321, 323, 324, 325, 326, 327, 329, 330, 331, 85, 332, 333, 334, 335, 336, 1104, 337, 338] (by decide +kernel)
set_option maxRecDepth 20000 in
theorem in_wsL_law_r9 : ∀ w ∈ wsL_law_r9, w ∈ lw_tbl := kd_by _ [339, 340, 341, 1103, 343, 344, 345, 346, 347, 348, 349, 350, 351, 352, 86, 353, 357, 358, 87, 359, 360, 361, 362, 354] (by decide +kernel)
set_option maxRecDepth 20000 in
theorem in_wsL_law_r10 : ∀ w ∈ wsL_law_r10, w ∈ lw_tbl := kd_by _ [355, 356, 363, 364, 365, 366, 367, 88, 368, 369, 370, 371, 372, 373, 374, 375, 376, 377, 378, 379, 380, 381, 382, 383] (by decide +kernel)
set_option maxRecDepth 20000 in
theorem in_wsL_law_r11 : ∀ w ∈ wsL_law_r11, w ∈ lw_tbl := kd_by _ [384, 386, 387, 89, 388, 389, 390, 391, 392, 393, 394, 395, 397, 399, 401, 402, 403, 404, 405, 90, 406, 407, 408, 409] (by decide +kernel)
set_option maxRecDepth 20000 in
theorem in_wsL_law_r12 : ∀ w ∈ wsL_law_r12, w ∈ lw_tbl := kd_by _ [410, 411, 412, 413, 414, 415, 416, 417, 867, 868, 869, 870, 871, 873, 42, 874, 774, 775, 777, 875, 877, 43, 878, 882] (by decide +kernel)
set_option maxRecDepth 20000 in
theorem in_wsL_law_r13 : ∀ w ∈ wsL_law_r13, w ∈ lw_tbl := kd_by _ [883, 879, 880, 881, 884, 885, 886, 420, 421, 422, 423, 426, 5, 427, 428, 431, 6, 432, 437, 435, 7, 436, 440, 8] (by decide +kernel)
set_option maxRecDepth 20000 in
theorem in_wsL_law_r14 : ∀ w ∈ wsL_law_r14, w ∈ lw_tbl := kd_by _ [441, 444, 9, 445, 448, 10, 449, 452, 11, 453, 454, 456, 12, 457, 459, 460, 463, 13, 464, 467, 14, 468, 469, 470] (by decide +kernel)
set_option maxRecDepth 20000 in
theorem in_wsL_law_r15 : ∀ w ∈ wsL_law_r15, w ∈ lw_tbl := kd_by _ [471, 472, 475, 476, 473, 485, 483, 484, 472, 474, 477, 478, 473, 479, 480, 481, 487, 490, 491, 488, 503, 504, 1092, 1093] (by decide +kernel)
set_option maxRecDepth 20000 in
theorem in_wsL_law_r16 : ∀ w ∈ wsL_law_r16, w ∈ lw_tbl := kd_by _ [501, 502, 504, 1094, 1095, 1096, 1097, 487, 489, 492, 493, 488, 494, 495, 496, 497, 498, 500, 887, 888, 889, 890, 778, 779] (by decide +kernel)
set_option maxRecDepth 20000 in
theorem in_wsL_law_r17 : ∀ w ∈ wsL_law_r17, w ∈ lw_tbl := kd_by _ [780, 786, 781, 891, 892, 893, 505, 506, 507, 508, 511, 15, 512, 516, 16, 517, 894, 895, 896, 897, 902, 898, 900, 44] (by decide +kernel)
set_option maxRecDepth 20000 in
theorem in_wsL_law_r18 : ∀ w ∈ wsL_law_r18, w ∈ lw_tbl := kd_by _ [901, 518, 519, 520, 521, 522, 524, 17, 525, 528, 18, 529, 530, 532, 19, 533, 534, 537, 538, 535, 542, 543, 543, 534] (by decide +kernel)
set_option maxRecDepth 20000 in
theorem in_wsL_law_r19 : ∀ w ∈ wsL_law_r19, w ∈ lw_tbl := kd_by _ [536, 539, 540, 541, 903, 904, 905, 906, 907, 909, 45, 910, 911, 913, 46, 914, 915, 917, 47, 918, 919, 921, 48, 922] (by decide +kernel)
set_option maxRecDepth 20000 in
theorem in_wsL_law_r20 : ∀ w ∈ wsL_law_r20, w ∈ lw_tbl := kd_by _ [923, 925, 49, 926, 544, 545, 546, 547, 548, 549, 550, 134, 144, 154, 164, 927, 928, 929, 930, 931, 551, 552, 553, 554] (by decide +kernel)
set_option maxRecDepth 20000 in
theorem in_wsL_law_r21 : ∀ w ∈ wsL_law_r21, w ∈ lw_tbl := kd_by _ [555, 556, 556, 932, 933, 934, 935, 936, 937, 557, 558, 559, 560, 563, 20, 564, 565, 568, 21, 569, 570, 571, 573, 22] (by decide +kernel)
set_option maxRecDepth 20000 in
theorem in_wsL_law_r22 : ∀ w ∈ wsL_law_r22, w ∈ lw_tbl := kd_by _ [574, 577, 23, 578, 581, 24, 582, 938, 939, 940, 941, 942, 944, 50, 945, 946, 948, 51, 949, 950, 952, 52, 953, 954] (by decide +kernel)
set_option maxRecDepth 20000 in
theorem in_wsL_law_r23 : ∀ w ∈ wsL_law_r23, w ∈ lw_tbl := kd_by _ [956, 53, 957, 583, 584, 585, 586, 589, 25, 590, 592, 593, 594, 595, 596, 597, 958, 959, 960, 961, 962, 964, 54, 965] (by decide +kernel)
set_option maxRecDepth 20000 in
theorem in_wsL_law_r24 : ∀ w ∈ wsL_law_r24, w ∈ lw_tbl := kd_by _ [966, 968, 55, 969, 970, 972, 56, 973, 974, 975, 976, 598, 599, 600, 601, 602, 603, 604, 607, 26, 608, 609, 610, 611] (by decide +kernel)
set_option maxRecDepth 20000 in
theorem in_wsL_law_r25 : ∀ w ∈ wsL_law_r25, w ∈ lw_tbl := kd_by _ [612, 613, 614, 977, 978, 979, 980, 981, 982, 983, 984, 986, 57, 987, 615, 616, 617, 618, 621, 27, 622, 625, 28, 626] (by decide +kernel)
set_option maxRecDepth 20000 in
theorem in_wsL_law_r26 : ∀ w ∈ wsL_law_r26, w ∈ lw_tbl := kd_by _ [627, 629, 29, 630, 633, 30, 634, 988, 989, 990, 991, 992, 993, 995, 58, 996, 997, 999, 59, 1000, 635, 636, 637, 638] (by decide +kernel)
set_option maxRecDepth 20000 in
theorem in_wsL_law_r27 : ∀ w ∈ wsL_law_r27, w ∈ lw_tbl := kd_by _ [641, 31, 642, 1001, 1002, 1003, 1004, 643, 644, 645, 646, 649, 32, 650, 1005, 1006, 1007, 1008, 651, 652, 653, 654, 657, 33] (by decide +kernel)
set_option maxRecDepth 20000 in
theorem in_wsL_law_r28 : ∀ w ∈ wsL_law_r28, w ∈ lw_tbl := kd_by _ [658, 659, 659, 1009, 1010, 1011, 1012, 1013, 1015, 60, 1016, 1017, 1019, 61, 1020, 660, 661, 662, 663, 664, 664, 1021, 1022, 1023] (by decide +kernel)
set_option maxRecDepth 20000 in
theorem in_wsL_law_r29 : ∀ w ∈ wsL_law_r29, w ∈ lw_tbl := kd_by _ [1024, 1025, 1027, 62, 1028, 1029, 1031, 63, 1032, 665, 666, 667, 668, 671, 34, 672, 673, 674, 91, 675, 676, 679, 680, 677] (by decide +kernel)
set_option maxRecDepth 20000 in
theorem in_wsL_law_r30 : ∀ w ∈ wsL_law_r30, w ∈ lw_tbl := kd_by _ [694, 688, 35, 689, 690, 691, 692, 693, 676, 678, 681, 682, 677, 683, 684, 685, 124, 125, 696, 697, 698, 699, 700, 701] (by decide +kernel)
set_option maxRecDepth 20000 in
theorem in_wsL_law_r31 : ∀ w ∈ wsL_law_r31, w ∈ lw_tbl := kd_by _ [704, 36, 705, 1033, 1034, 1035, 1036, 1037, 788, 1038, 1040, 64, 1041, 1042, 1044, 65, 1045, 1046, 1048, 66, 1049, 1050, 1052, 67] (by decide +kernel)
set_option maxRecDepth 20000 in
theorem in_wsL_law_r32 : ∀ w ∈ wsL_law_r32, w ∈ lw_tbl := kd_by _ [1053, 1054, 1055, 1056, 1057, 706, 707, 708, 709, 712, 37, 713, 716, 38, 717, 1058, 1059, 1060, 1061, 791, 792, 793, 718, 719] (by decide +kernel)
set_option maxRecDepth 20000 in
theorem in_wsL_law_r33 : ∀ w ∈ wsL_law_r33, w ∈ lw_tbl := kd_by _ [720, 721, 1062, 1063, 1064, 1065, 722, 723, 724, 725, 728, 39, 729, 1066, 1067, 1068, 1069, 1070, 1072, 68, 1073, 1074, 1076, 69] (by decide +kernel)
set_option maxRecDepth 20000 in
theorem in_wsL_law_r34 : ∀ w ∈ wsL_law_r34, w ∈ lw_tbl := kd_by _ [1077, 731, 732, 733, 734, 735, 736, 738, 40, 739, 740, 741, 742, 743, 744, 745, 746, 748, 41, 749, 750, 751, 752, 753] (by decide +kernel)
set_option maxRecDepth 20000 in
theorem in_wsL_law_r35 : ∀ w ∈ wsL_law_r35, w ∈ lw_tbl := kd_by _ [754, 756, 1078, 1079, 1080, 1081, 1082, 796, 1083, 1085, 70, 1086, 1087, 1088, 1090, 71, 1091] (by decide +kernel)
set_option maxRecDepth 20000 in
theorem in_wsX00 : ∀ w ∈ wsX00, w ∈ lw_tbl := kd_by _ [170, 171, 172] (by decide +kernel)
set_option maxRecDepth 20000 in
theorem in_wsX10 : ∀ w ∈ wsX10, w ∈ lw_tbl := kd_by _ [127, 129, 131] (by decide +kernel)
set_option maxRecDepth 20000 in
theorem in_wsX20 : ∀ w ∈ wsX20, w ∈ lw_tbl := kd_by _ [195] (by decide +kernel)
set_option maxRecDepth 20000 in
theorem in_wsX30 : ∀ w ∈ wsX30, w ∈ lw_tbl := kd_by _ [140, 141, 142] (by decide +kernel)
set_option maxRecDepth 20000 in
theorem in_wsX40 : ∀ w ∈ wsX40, w ∈ lw_tbl := kd_by _ [160, 161, 162] (by decide +kernel)
set_option maxRecDepth 20000 in
theorem in_wsX50 : ∀ w ∈ wsX50, w ∈ lw_tbl := kd_by _ [183, 185] (by decide +kernel)
set_option maxRecDepth 20000 in
theorem in_wsX60 : ∀ w ∈ wsX60, w ∈ lw_tbl := kd_by _ [109, 111] (by decide +kernel)
set_option maxRecDepth 20000 in
theorem in_wsX70 : ∀ w ∈ wsX70, w ∈ lw_tbl := kd_by _ [245, 247, 249, 251, 253, 255] (by decide +kernel)
set_option maxRecDepth 20000 in
theorem in_wsX80 : ∀ w ∈ wsX80, w ∈ lw_tbl := kd_by _ [221, 223, 225, 227, 229, 231] (by decide +kernel)
set_option maxRecDepth 20000 in
theorem in_wsX90 : ∀ w ∈ wsX90, w ∈ lw_tbl := kd_by _ [150, 151, 152] (by decide +kernel)
set_option maxRecDepth 20000 in
theorem in_wsX100 : ∀ w ∈ wsX100, w ∈ lw_tbl := kd_by _ [268, 270, 272, 274, 276, 278, 280, 282, 284, 286] (by decide +kernel)
set_option maxRecDepth 20000 in
theorem in_wsX110 : ∀ w ∈ wsX110, w ∈ lw_tbl := kd_by _ [797, 799, 801, 803, 805, 807, 809, 811, 813, 815, 817, 819, 821, 823, 825, 827, 829, 831, 833, 835, 837, 839, 841, 843, 845, 847, 849, 851] (by decide +kernel)
theorem wsL_law_in : ∀ w ∈ wsL_law, w ∈ lw_tbl := kd_apin (kd_apin (kd_apin (kd_apin (kd_apin (kd_apin (kd_apin (kd_apin (kd_apin (kd_apin (kd_apin (kd_apin (kd_apin (kd_apin in_wsL_law_r1 (kd_apin in_wsL_law_r2 (kd_apin in_wsL_law_r3 (kd_apin in_wsL_law_r4 (kd_apin in_wsL_law_r5 (kd_apin in_wsL_law_r6 (kd_apin in_wsL_law_r7 (kd_apin in_wsL_law_r8 (kd_apin in_wsL_law_r9 (kd_apin in_wsL_law_r10 (kd_apin in_wsL_law_r11 (kd_apin in_wsL_law_r12 (kd_apin in_wsL_law_r13 (kd_apin in_wsL_law_r14 (kd_apin in_wsL_law_r15 (kd_apin in_wsL_law_r16 (kd_apin in_wsL_law_r17 (kd_apin in_wsL_law_r18 (kd_apin in_wsL_law_r19 (kd_apin in_wsL_law_r20 (kd_apin in_wsL_law_r21 (kd_apin in_wsL_law_r22 (kd_apin in_wsL_law_r23 (kd_apin in_wsL_law_r24 (kd_apin in_wsL_law_r25 (kd_apin in_wsL_law_r26 (kd_apin in_wsL_law_r27 (kd_apin in_wsL_law_r28 (kd_apin in_wsL_law_r29 (kd_apin in_wsL_law_r30 (kd_apin in_wsL_law_r31 (kd_apin in_wsL_law_r32 (kd_apin in_wsL_law_r33 (kd_apin in_wsL_law_r34 (in_wsL_law_r35))))))))))))))))))))))))))))))))))) in_wsX100) in_wsX110) in_wsX60) in_wsX10) in_wsX30) in_wsX90) in_wsX40) in_wsX00) in_wsX50) in_wsX20) in_wsX70) in_wsX80) (fun _ h => absurd h List.not_mem_nil)
theorem inX0 : ∀ w ∈ wsX00, w ∈ lw_tbl := fun w h => wsL_law_in w (inlX0 w h)
theorem inX1 : ∀ w ∈ wsX10, w ∈ lw_tbl := fun w h => wsL_law_in w (inlX1 w h)
theorem inX2 : ∀ w ∈ wsX20, w ∈ lw_tbl := fun w h => wsL_law_in w (inlX2 w h)
theorem inX3 : ∀ w ∈ wsX30, w ∈ lw_tbl := fun w h => wsL_law_in w (inlX3 w h)
theorem inX4 : ∀ w ∈ wsX40, w ∈ lw_tbl := fun w h => wsL_law_in w (inlX4 w h)
theorem inX5 : ∀ w ∈ wsX50, w ∈ lw_tbl := fun w h => wsL_law_in w (inlX5 w h)
theorem inX6 : ∀ w ∈ wsX60, w ∈ lw_tbl := fun w h => wsL_law_in w (inlX6 w h)
theorem inX7 : ∀ w ∈ wsX70, w ∈ lw_tbl := fun w h => wsL_law_in w (inlX7 w h)
theorem inX8 : ∀ w ∈ wsX80, w ∈ lw_tbl := fun w h => wsL_law_in w (inlX8 w h)
theorem inX9 : ∀ w ∈ wsX90, w ∈ lw_tbl := fun w h => wsL_law_in w (inlX9 w h)
theorem inX10 : ∀ w ∈ wsX100, w ∈ lw_tbl := fun w h => wsL_law_in w (inlX10 w h)
theorem inX11 : ∀ w ∈ wsX110, w ∈ lw_tbl := fun w h => wsL_law_in w (inlX11 w h)
