theorem in_ps {big ws : List Cond} (ps : List Nat) (hp : ws = ps.filterMap (fun i => big[i]?)) : ∀ w ∈ ws, w ∈ big := by
  intro w h
  rw [hp] at h
  obtain ⟨i, -, hi⟩ := List.mem_filterMap.mp h
  exact List.mem_of_getElem? hi
theorem in_app {a b c : List Cond} (h1 : ∀ w ∈ a, w ∈ c) (h2 : ∀ w ∈ b, w ∈ c) : ∀ w ∈ a ++ b, w ∈ c := fun w h => (List.mem_append.mp h).elim (h1 w) (h2 w)
set_option maxRecDepth 20000 in
theorem i_wsL_law0_r1 : ∀ w ∈ wsL_law0_r1, w ∈ lw_tbl := in_ps [62, 63, 37, 834, 835, 48, 943, 64, 65, 66, 67, 68, 69, 70, 71, 38, 272, 192, 193, 45, 274, 208, 273, 210] (by decide +kernel)
set_option maxRecDepth 20000 in
theorem i_wsL_law0_r2 : ∀ w ∈ wsL_law0_r2, w ∈ lw_tbl := in_ps [46, 72, 73, 74, 75, 76, 77, 39, 170, 90, 172, 92, 174, 125, 175, 176, 94, 40, 148, 44, 79, 80, 81, 83] (by decide +kernel)
set_option maxRecDepth 20000 in
theorem i_wsL_law0_r3 : ∀ w ∈ wsL_law0_r3, w ∈ lw_tbl := in_ps [96, 97, 98, 99, 100, 43, 126, 101, 102, 103, 111, 113, 104, 105, 42, 106, 115, 107, 108, 41, 109, 110, 150, 151] (by decide +kernel)
set_option maxRecDepth 20000 in
theorem i_wsL_law0_r4 : ∀ w ∈ wsL_law0_r4, w ∈ lw_tbl := in_ps [152, 153, 195, 196, 197, 198, 200, 211, 212, 213, 214, 215, 260, 217, 262, 219, 47, 220, 221, 222, 223, 224, 228, 226] (by decide +kernel)
set_option maxRecDepth 20000 in
theorem i_wsL_law0_r5 : ∀ w ∈ wsL_law0_r5, w ∈ lw_tbl := in_ps [227, 225, 836, 837, 838, 839, 841, 842, 843, 844, 845, 846, 848, 849, 850, 851, 852, 853, 854, 855, 856, 944, 857, 858] (by decide +kernel)
set_option maxRecDepth 20000 in
theorem i_wsL_law0_r6 : ∀ w ∈ wsL_law0_r6, w ∈ lw_tbl := in_ps [859, 860, 861, 862, 863, 864, 865, 866, 867, 868, 869, 870, 872, 873, 286, 287, 36, 288, 289, 290, 291, 292, 293, 366] (by decide +kernel)
set_option maxRecDepth 20000 in
theorem i_wsL_law0_r7 : ∀ w ∈ wsL_law0_r7, w ∈ lw_tbl := in_ps [367, 173, 294, 295, 296, 297, 298, 299, 300, 52, 368, 369, 370, 371, 128, 129, 372, 374, 1, 375, 376, 132, 377, 378] (by decide +kernel)
set_option maxRecDepth 20000 in
theorem i_wsL_law0_r8 : ∀ w ∈ wsL_law0_r8, w ∈ lw_tbl := in_ps [53, 379, 130, 380, 381, 382, 949, 950, 951, 952, 956, 957, 953, 954, 955, 958, 960, 17, 961, 840, 962, 964, 18, 965] (by decide +kernel)
set_option maxRecDepth 20000 in
theorem i_wsL_law0_r9 : ∀ w ∈ wsL_law0_r9, w ∈ lw_tbl := in_ps [966, 967, 969, 19, 970, 847, 945, 946, 947, 948, 383, 384, 385, 386, 387, 388, 389, 177, 971, 972, 973, 974, 390, 391] (by decide +kernel)
set_option maxRecDepth 20000 in
theorem i_wsL_law0_r10 : ∀ w ∈ wsL_law0_r10, w ∈ lw_tbl := in_ps [392, 393, 394, 395, 396, 154, 397, 398, 399, 400, 401, 402, 403, 975, 976, 977, 978, 404, 405, 406, 407, 408, 409, 410] (by decide +kernel)
set_option maxRecDepth 20000 in
theorem i_wsL_law0_r11 : ∀ w ∈ wsL_law0_r11, w ∈ lw_tbl := in_ps [84, 411, 413, 2, 414, 171, 261, 979, 980, 981, 982, 415, 416, 417, 418, 419, 420, 421, 134, 422, 423, 424, 425, 426] (by decide +kernel)
set_option maxRecDepth 20000 in
theorem i_wsL_law0_r12 : ∀ w ∈ wsL_law0_r12, w ∈ lw_tbl := in_ps [427, 428, 429, 82, 430, 431, 432, 433, 434, 232, 239, 435, 436, 437, 438, 457, 738, 439, 440, 441, 442, 114, 443, 444] (by decide +kernel)
set_option maxRecDepth 20000 in
theorem i_wsL_law0_r13 : ∀ w ∈ wsL_law0_r13, w ∈ lw_tbl := in_ps [445, 446, 447, 448, 54, 449, 450, 451, 55, 452, 453, 454, 455, 456, 458, 459, 460, 61, 461, 734, 735, 462, 464, 3] (by decide +kernel)
set_option maxRecDepth 20000 in
theorem i_wsL_law0_r14 : ∀ w ∈ wsL_law0_r14, w ∈ lw_tbl := in_ps [465, 474, 475, 476, 466, 468, 4, 469, 470, 471, 472, 473, 477, 478, 479, 480, 481, 483, 5, 484, 116, 117, 485, 487] (by decide +kernel)
set_option maxRecDepth 20000 in
theorem i_wsL_law0_r15 : ∀ w ∈ wsL_law0_r15, w ∈ lw_tbl := in_ps [486, 56, 1003, 1004, 1005, 1006, 1007, 1008, 1009, 1010, 1012, 24, 1013, 1014, 1016, 25, 1017, 1018, 1020, 26, 1021, 1022, 1024, 27] (by decide +kernel)
set_option maxRecDepth 20000 in
theorem i_wsL_law0_r16 : ∀ w ∈ wsL_law0_r16, w ∈ lw_tbl := in_ps [1025, 987, 989, 20, 990, 1026, 1027, 1028, 488, 489, 490, 491, 492, 493, 494, 202, 495, 496, 497, 498, 264, 499, 500, 501] (by decide +kernel)
set_option maxRecDepth 20000 in
theorem i_wsL_law0_r17 : ∀ w ∈ wsL_law0_r17, w ∈ lw_tbl := in_ps [502, 230, 234, 236, 238, 515, 516, 57, 503, 505, 6, 506, 507, 508, 509, 510, 511, 512, 513, 514, 517, 518, 519, 520] (by decide +kernel)
set_option maxRecDepth 20000 in
theorem i_wsL_law0_r18 : ∀ w ∈ wsL_law0_r18, w ∈ lw_tbl := in_ps [521, 523, 526, 530, 737, 534, 539, 733, 544, 548, 566, 567, 568, 569, 201, 570, 572, 7, 573, 574, 575, 576, 1029, 1030] (by decide +kernel)
set_option maxRecDepth 20000 in
theorem i_wsL_law0_r19 : ∀ w ∈ wsL_law0_r19, w ∈ lw_tbl := in_ps [1031, 1032, 1033, 1035, 28, 1036, 1037, 1039, 29, 1040, 871, 577, 578, 579, 580, 581, 582, 583, 522, 525, 584, 586, 8, 587] (by decide +kernel)
set_option maxRecDepth 20000 in
theorem i_wsL_law0_r20 : ∀ w ∈ wsL_law0_r20, w ∈ lw_tbl := in_ps [588, 589, 590, 591, 593, 594, 595, 596, 531, 524, 528, 160, 540, 597, 599, 9, 600, 601, 602, 604, 10, 605, 157, 159] (by decide +kernel)
set_option maxRecDepth 20000 in
theorem i_wsL_law0_r21 : ∀ w ∈ wsL_law0_r21, w ∈ lw_tbl := in_ps [536, 155, 619, 178, 606, 607, 608, 609, 610, 611, 613, 11, 614, 615, 616, 617, 618, 156, 158, 620, 621, 622, 623, 624] (by decide +kernel)
set_option maxRecDepth 20000 in
theorem i_wsL_law0_r22 : ∀ w ∈ wsL_law0_r22, w ∈ lw_tbl := in_ps [625, 626, 627, 628, 58, 629, 630, 631, 632, 633, 635, 637, 646, 647, 648, 649, 650, 652, 12, 653, 654, 656, 13, 657] (by decide +kernel)
set_option maxRecDepth 20000 in
theorem i_wsL_law0_r23 : ∀ w ∈ wsL_law0_r23, w ∈ lw_tbl := in_ps [658, 660, 14, 661, 701, 666, 667, 702, 662, 663, 59, 664, 665, 668, 669, 670, 671, 672, 673, 60, 674, 675, 1101, 676] (by decide +kernel)
set_option maxRecDepth 20000 in
theorem i_wsL_law0_r24 : ∀ w ∈ wsL_law0_r24, w ∈ lw_tbl := in_ps [692, 693, 694, 695, 696, 698, 699, 700, 703, 704, 705, 706, 707, 545, 708, 709, 710, 711, 627, 634, 712, 713, 714, 716] (by decide +kernel)
set_option maxRecDepth 20000 in
theorem i_wsL_law0_r25 : ∀ w ∈ wsL_law0_r25, w ∈ lw_tbl := in_ps [15, 717, 636, 718, 719, 720, 721, 722, 532, 527, 723, 724, 725, 726, 541, 537, 457, 727, 728, 729, 730, 731, 543, 732] (by decide +kernel)
set_option maxRecDepth 20000 in
theorem i_wsL_law0_r26 : ∀ w ∈ wsL_law0_r26, w ∈ lw_tbl := in_ps [547, 535, 736, 748, 1045, 1046, 1047, 1048, 1049, 1051, 30, 1052, 1053, 1055, 31, 1056, 1057, 1059, 32, 1060, 1061, 1063, 33, 1064] (by decide +kernel)
set_option maxRecDepth 20000 in
theorem i_wsL_law0_r27 : ∀ w ∈ wsL_law0_r27, w ∈ lw_tbl := in_ps [1065, 1067, 34, 1068, 1069, 1071, 35, 1072, 749, 750, 751, 752, 753, 754, 755, 756, 757, 758, 759, 1073, 1074, 1075, 1076, 760] (by decide +kernel)
set_option maxRecDepth 20000 in
theorem i_wsL_law0_r28 : ∀ w ∈ wsL_law0_r28, w ∈ lw_tbl := in_ps [761, 762, 763, 764, 765, 766, 767, 768, 769, 770, 771, 772, 773, 774, 775, 776, 777, 778, 638, 779, 781, 16, 782, 783] (by decide +kernel)
set_option maxRecDepth 20000 in
theorem i_wsL_law0_r29 : ∀ w ∈ wsL_law0_r29, w ∈ lw_tbl := in_ps [983, 984, 985, 986, 991, 993, 21, 994, 995, 997, 22, 998, 999, 1001, 23, 1002, 784, 785, 786, 787, 788, 789, 790, 791] (by decide +kernel)
set_option maxRecDepth 20000 in
theorem i_wsL_law0_r30 : ∀ w ∈ wsL_law0_r30, w ∈ lw_tbl := in_ps [792, 793, 794, 795, 796, 797, 798, 799, 800, 801, 802, 1041, 1042, 1043, 1044, 803, 804, 805, 806, 807, 808, 809, 131, 133] (by decide +kernel)
set_option maxRecDepth 20000 in
theorem i_wsL_law0_r31 : ∀ w ∈ wsL_law0_r31, w ∈ lw_tbl := in_ps [127, 810, 1077, 1078, 1079, 1080, 811, 812, 813, 814, 815, 816, 817, 263, 229, 231, 233, 235, 237, 240, 818, 819, 1081, 1082] (by decide +kernel)
set_option maxRecDepth 20000 in
theorem i_wsL_law0_r32 : ∀ w ∈ wsL_law0_r32, w ∈ lw_tbl := in_ps [1083, 1084, 820, 821, 822, 823, 824, 825, 826, 529, 538, 533, 542, 546, 1085, 1086, 1087, 1088, 282, 283, 284, 285, 1089, 1090] (by decide +kernel)
set_option maxRecDepth 20000 in
theorem i_wsL_law0_r33 : ∀ w ∈ wsL_law0_r33, w ∈ lw_tbl := in_ps [1091, 1092, 827, 828, 829, 830, 831, 832, 833, 1093, 1094, 1095, 1096] (by decide +kernel)
set_option maxRecDepth 20000 in
theorem i_wsX100 : ∀ w ∈ wsX100, w ∈ lw_tbl := by decide +kernel
set_option maxRecDepth 20000 in
theorem i_wsX110 : ∀ w ∈ wsX110, w ∈ lw_tbl := by decide +kernel
set_option maxRecDepth 20000 in
theorem i_wsX80 : ∀ w ∈ wsX80, w ∈ lw_tbl := by decide +kernel
set_option maxRecDepth 20000 in
theorem i_wsX70 : ∀ w ∈ wsX70, w ∈ lw_tbl := by decide +kernel
set_option maxRecDepth 20000 in
theorem i_wsX30 : ∀ w ∈ wsX30, w ∈ lw_tbl := by decide +kernel
set_option maxRecDepth 20000 in
theorem i_wsX90 : ∀ w ∈ wsX90, w ∈ lw_tbl := by decide +kernel
set_option maxRecDepth 20000 in
theorem i_wsX10 : ∀ w ∈ wsX10, w ∈ lw_tbl := by decide +kernel
set_option maxRecDepth 20000 in
theorem i_wsX00 : ∀ w ∈ wsX00, w ∈ lw_tbl := by decide +kernel
set_option maxRecDepth 20000 in
theorem i_wsJx4a65c0 : ∀ w ∈ wsJx4a65c0, w ∈ lw_tbl := by decide +kernel
set_option maxRecDepth 20000 in
theorem i_wsX20 : ∀ w ∈ wsX20, w ∈ lw_tbl := by decide +kernel
set_option maxRecDepth 20000 in
theorem i_wsX40 : ∀ w ∈ wsX40, w ∈ lw_tbl := by decide +kernel
set_option maxRecDepth 20000 in
theorem i_wsX60 : ∀ w ∈ wsX60, w ∈ lw_tbl := by decide +kernel
set_option maxRecDepth 20000 in
theorem i_wsX50 : ∀ w ∈ wsX50, w ∈ lw_tbl := by decide +kernel
theorem i_law0 : ∀ w ∈ wsL_law0, w ∈ lw_tbl := in_app (in_app (in_app (in_app (in_app (in_app (in_app (in_app (in_app (in_app (in_app (in_app (in_app (in_app (in_app i_wsL_law0_r1 (in_app i_wsL_law0_r2 (in_app i_wsL_law0_r3 (in_app i_wsL_law0_r4 (in_app i_wsL_law0_r5 (in_app i_wsL_law0_r6 (in_app i_wsL_law0_r7 (in_app i_wsL_law0_r8 (in_app i_wsL_law0_r9 (in_app i_wsL_law0_r10 (in_app i_wsL_law0_r11 (in_app i_wsL_law0_r12 (in_app i_wsL_law0_r13 (in_app i_wsL_law0_r14 (in_app i_wsL_law0_r15 (in_app i_wsL_law0_r16 (in_app i_wsL_law0_r17 (in_app i_wsL_law0_r18 (in_app i_wsL_law0_r19 (in_app i_wsL_law0_r20 (in_app i_wsL_law0_r21 (in_app i_wsL_law0_r22 (in_app i_wsL_law0_r23 (in_app i_wsL_law0_r24 (in_app i_wsL_law0_r25 (in_app i_wsL_law0_r26 (in_app i_wsL_law0_r27 (in_app i_wsL_law0_r28 (in_app i_wsL_law0_r29 (in_app i_wsL_law0_r30 (in_app i_wsL_law0_r31 (in_app i_wsL_law0_r32 i_wsL_law0_r33)))))))))))))))))))))))))))))))) i_wsX100) i_wsX110) i_wsX80) i_wsX70) i_wsX30) i_wsX90) i_wsX10) i_wsX00) i_wsJx4a65c0) i_wsX20) i_wsX40) i_wsX60) i_wsX50) (fun _ h => absurd h List.not_mem_nil)
set_option maxRecDepth 20000 in
theorem i_lawx : ∀ w ∈ (vx_atS RX10 196 "java/lang/IllegalArgumentException" ["java/lang/RuntimeException", "java/lang/Exception"]).filter goodWord, w ∈ lw_tbl := by decide +kernel
theorem i_law : ∀ w ∈ wsL_law, w ∈ lw_tbl := in_app i_law0 i_lawx
