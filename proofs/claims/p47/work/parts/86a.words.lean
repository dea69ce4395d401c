set_option maxRecDepth 20000 in
theorem lwi_0 : ∀ w ∈ wsL_law0_r1, w ∈ lw_tbl := fun w h => (goodIn_r (big := lw_tbl) wsL_law0_r1 [515, 516, 29, 726, 741, 730, 554, 1110, 733, 517, 518, 519, 520, 84, 85, 521, 294, 30, 725, 731, 732, 734, 597, 735] (by decide +kernel) (by decide +kernel) w h).1
set_option maxRecDepth 20000 in
theorem lwi_1 : ∀ w ∈ wsL_law0_r2, w ∈ lw_tbl := fun w h => (goodIn_r (big := lw_tbl) wsL_law0_r2 [736, 737, 738, 739, 724, 740, 743, 727, 728, 522, 523, 524, 525, 526, 527, 31, 691, 580, 581, 33, 692, 598, 432, 35] (by decide +kernel) (by decide +kernel) w h).1
set_option maxRecDepth 20000 in
theorem lwi_2 : ∀ w ∈ wsL_law0_r3, w ∈ lw_tbl := fun w h => (goodIn_r (big := lw_tbl) wsL_law0_r3 [693, 622, 311, 36, 694, 642, 395, 37, 695, 667, 535, 32, 696, 669, 188, 38, 565, 697, 698, 699, 690, 700, 529, 530] (by decide +kernel) (by decide +kernel) w h).1
set_option maxRecDepth 20000 in
theorem lwi_3 : ∀ w ∈ wsL_law0_r4, w ∈ lw_tbl := fun w h => (goodIn_r (big := lw_tbl) wsL_law0_r4 [531, 532, 555, 561, 534, 564, 537, 538, 539, 540, 542, 543, 582, 583, 584, 585, 587, 588, 589, 586, 398, 34, 399, 599] (by decide +kernel) (by decide +kernel) w h).1
set_option maxRecDepth 20000 in
theorem lwi_4 : ∀ w ∈ wsL_law0_r5, w ∈ lw_tbl := fun w h => (goodIn_r (big := lw_tbl) wsL_law0_r5 [600, 601, 602, 603, 606, 609, 610, 605, 624, 625, 626, 627, 628, 629, 630, 643, 644, 645, 646, 647, 650, 651, 652, 653] (by decide +kernel) (by decide +kernel) w h).1
set_option maxRecDepth 20000 in
theorem lwi_5 : ∀ w ∈ wsL_law0_r6, w ∈ lw_tbl := fun w h => (goodIn_r (big := lw_tbl) wsL_law0_r6 [648, 649, 670, 671, 672, 673, 678, 674, 675, 676, 677, 787, 788, 789, 790, 729, 791, 776, 777, 778, 780, 28, 781, 782] (by decide +kernel) (by decide +kernel) w h).1
set_option maxRecDepth 20000 in
theorem lwi_6 : ∀ w ∈ wsL_law0_r7, w ∈ lw_tbl := fun w h => (goodIn_r (big := lw_tbl) wsL_law0_r7 [784, 785, 786, 792, 793, 794, 795, 351, 42, 801, 43, 559, 817, 818, 44, 558, 375, 376, 377, 348, 349, 350, 797, 798] (by decide +kernel) (by decide +kernel) w h).1
set_option maxRecDepth 20000 in
theorem lwi_7 : ∀ w ∈ wsL_law0_r8, w ∈ lw_tbl := fun w h => (goodIn_r (big := lw_tbl) wsL_law0_r8 [799, 800, 556, 819, 820, 821, 822, 823, 856, 857, 850, 853, 221, 45, 826, 827, 828, 829, 830, 831, 873, 874, 875, 876] (by decide +kernel) (by decide +kernel) w h).1
set_option maxRecDepth 20000 in
theorem lwi_8 : ∀ w ∈ wsL_law0_r9, w ∈ lw_tbl := fun w h => (goodIn_r (big := lw_tbl) wsL_law0_r9 [878, 877, 46, 879, 880, 881, 882, 834, 883, 884, 885, 886, 887, 888, 891, 207, 208, 209, 892, 893, 894, 895, 832, 897] (by decide +kernel) (by decide +kernel) w h).1
set_option maxRecDepth 20000 in
theorem lwi_9 : ∀ w ∈ wsL_law0_r10, w ∈ lw_tbl := fun w h => (goodIn_r (big := lw_tbl) wsL_law0_r10 [898, 899, 900, 836, 901, 218, 220, 3, 222, 902, 903, 904, 905, 906, 907, 908, 909, 560, 910, 911, 912, 913, 914, 915] (by decide +kernel) (by decide +kernel) w h).1
set_option maxRecDepth 20000 in
theorem lwi_10 : ∀ w ∈ wsL_law0_r11, w ∈ lw_tbl := fun w h => (goodIn_r (big := lw_tbl) wsL_law0_r11 [159, 160, 161, 858, 162, 55, 56, 57, 916, 917, 918, 919, 978, 979, 980, 981, 742, 982, 983, 984, 985, 995, 996, 47] (by decide +kernel) (by decide +kernel) w h).1
set_option maxRecDepth 20000 in
theorem lwi_11 : ∀ w ∈ wsL_law0_r12, w ∈ lw_tbl := fun w h => (goodIn_r (big := lw_tbl) wsL_law0_r12 [1007, 1009, 986, 987, 988, 990, 991, 992, 993, 607, 997, 998, 999, 1000, 1001, 1059, 1060, 1061, 1062, 1063, 1064, 1065, 1066, 1067] (by decide +kernel) (by decide +kernel) w h).1
set_option maxRecDepth 20000 in
theorem lwi_12 : ∀ w ∈ wsL_law0_r13, w ∈ lw_tbl := fun w h => (goodIn_r (big := lw_tbl) wsL_law0_r13 [1068, 1070, 27, 1071, 58, 48, 1012, 1015, 167, 168, 169, 170, 171, 172, 173, 174, 1072, 1073, 1074, 1075, 1076, 1077, 1078, 1079] (by decide +kernel) (by decide +kernel) w h).1
set_option maxRecDepth 20000 in
theorem lwi_13 : ∀ w ∈ wsL_law0_r14, w ∈ lw_tbl := fun w h => (goodIn_r (big := lw_tbl) wsL_law0_r14 [1080, 1081, 1082, 1083, 1004, 1017, 1019, 1084, 1086, 1087, 1088, 1089, 1021, 1023, 1091, 1092, 1093, 1094, 1025, 1096, 1097, 1098, 1099, 1027] (by decide +kernel) (by decide +kernel) w h).1
set_option maxRecDepth 20000 in
theorem lwi_14 : ∀ w ∈ wsL_law0_r15, w ∈ lw_tbl := fun w h => (goodIn_r (big := lw_tbl) wsL_law0_r15 [1101, 1102, 1103, 1104, 608, 1029, 1031, 1106, 1107, 1108, 1109, 775, 928, 929, 930, 931, 932, 933, 934, 935, 936, 937, 938, 939] (by decide +kernel) (by decide +kernel) w h).1
set_option maxRecDepth 20000 in
theorem lwi_15 : ∀ w ∈ wsL_law0_r16, w ∈ lw_tbl := fun w h => (goodIn_r (big := lw_tbl) wsL_law0_r16 [940, 941, 942, 943, 562, 944, 945, 947, 23, 948, 949, 951, 24, 952, 953, 150, 151, 152, 153, 145, 146, 147, 954, 956] (by decide +kernel) (by decide +kernel) w h).1
set_option maxRecDepth 20000 in
theorem lwi_16 : ∀ w ∈ wsL_law0_r17, w ∈ lw_tbl := fun w h => (goodIn_r (big := lw_tbl) wsL_law0_r17 [25, 957, 861, 958, 960, 26, 961, 465, 466, 467, 468, 544, 469, 487, 133, 134, 135, 470, 471, 472, 473, 833, 474, 475] (by decide +kernel) (by decide +kernel) w h).1
set_option maxRecDepth 20000 in
theorem lwi_17 : ∀ w ∈ wsL_law0_r18, w ∈ lw_tbl := fun w h => (goodIn_r (big := lw_tbl) wsL_law0_r18 [476, 477, 837, 478, 406, 407, 408, 920, 921, 922, 923, 924, 925, 926, 927, 860, 54, 457, 458, 459, 460, 461, 462, 463] (by decide +kernel) (by decide +kernel) w h).1
set_option maxRecDepth 20000 in
theorem lwi_18 : ∀ w ∈ wsL_law0_r19, w ∈ lw_tbl := fun w h => (goodIn_r (big := lw_tbl) wsL_law0_r19 [464, 180, 181, 182, 183, 282, 283, 284, 49, 285, 184, 185, 187, 1, 189, 1002, 1030, 1014, 1011, 852, 1020, 1022, 1024, 854] (by decide +kernel) (by decide +kernel) w h).1
set_option maxRecDepth 20000 in
theorem lwi_19 : ∀ w ∈ wsL_law0_r20, w ∈ lw_tbl := fun w h => (goodIn_r (big := lw_tbl) wsL_law0_r20 [1026, 190, 192, 2, 193, 1005, 835, 194, 195, 196, 197, 198, 199, 200, 201, 202, 203, 204, 205, 206, 210, 211, 212, 213] (by decide +kernel) (by decide +kernel) w h).1
set_option maxRecDepth 20000 in
theorem lwi_20 : ∀ w ∈ wsL_law0_r21, w ∈ lw_tbl := fun w h => (goodIn_r (big := lw_tbl) wsL_law0_r21 [1008, 214, 215, 216, 217, 223, 225, 4, 226, 545, 227, 228, 229, 230, 231, 232, 233, 234, 235, 236, 237, 238, 239, 240] (by decide +kernel) (by decide +kernel) w h).1
set_option maxRecDepth 20000 in
theorem lwi_21 : ∀ w ∈ wsL_law0_r22, w ∈ lw_tbl := fun w h => (goodIn_r (big := lw_tbl) wsL_law0_r22 [241, 242, 243, 245, 5, 246, 247, 248, 249, 250, 1028, 251, 252, 253, 254, 1010, 1013, 255, 256, 257, 258, 259, 261, 6] (by decide +kernel) (by decide +kernel) w h).1
set_option maxRecDepth 20000 in
theorem lwi_22 : ∀ w ∈ wsL_law0_r23, w ∈ lw_tbl := fun w h => (goodIn_r (big := lw_tbl) wsL_law0_r23 [262, 263, 265, 7, 266, 267, 268, 269, 270, 271, 272, 273, 274, 275, 276, 277, 278, 1016, 1018, 279, 280, 281, 286, 287] (by decide +kernel) (by decide +kernel) w h).1
set_option maxRecDepth 20000 in
theorem lwi_23 : ∀ w ∈ wsL_law0_r24, w ∈ lw_tbl := fun w h => (goodIn_r (big := lw_tbl) wsL_law0_r24 [288, 289, 291, 293, 8, 295, 176, 177, 178, 179, 859, 132, 962, 963, 964, 965, 966, 967, 968, 969, 970, 971, 972, 973] (by decide +kernel) (by decide +kernel) w h).1
set_option maxRecDepth 20000 in
theorem lwi_24 : ∀ w ∈ wsL_law0_r25, w ∈ lw_tbl := fun w h => (goodIn_r (big := lw_tbl) wsL_law0_r25 [974, 975, 976, 977, 163, 164, 165, 166, 136, 137, 138, 139, 563, 140, 141, 142, 143, 144, 149, 154, 155, 156, 157, 158] (by decide +kernel) (by decide +kernel) w h).1
set_option maxRecDepth 20000 in
theorem lwi_25 : ∀ w ∈ wsL_law0_r26, w ∈ lw_tbl := fun w h => (goodIn_r (big := lw_tbl) wsL_law0_r26 [50, 51, 52, 53, 128, 129, 130, 131, 479, 480, 481, 482, 546, 483, 484, 485, 486, 488, 489, 490, 491, 492, 497, 493] (by decide +kernel) (by decide +kernel) w h).1
set_option maxRecDepth 20000 in
theorem lwi_26 : ∀ w ∈ wsL_law0_r27, w ∈ lw_tbl := fun w h => (goodIn_r (big := lw_tbl) wsL_law0_r27 [495, 19, 496, 498, 500, 20, 501, 502, 503, 505, 21, 506, 507, 508, 509, 510, 425, 426, 427, 428, 429, 431, 15, 433] (by decide +kernel) (by decide +kernel) w h).1
set_option maxRecDepth 20000 in
theorem lwi_27 : ∀ w ∈ wsL_law0_r28, w ∈ lw_tbl := fun w h => (goodIn_r (big := lw_tbl) wsL_law0_r28 [434, 435, 437, 16, 438, 1003, 439, 440, 441, 443, 17, 444, 445, 447, 18, 448, 1006, 449, 450, 451, 452, 511, 513, 22] (by decide +kernel) (by decide +kernel) w h).1
set_option maxRecDepth 20000 in
theorem lwi_28 : ∀ w ∈ wsL_law0_r29, w ∈ lw_tbl := fun w h => (goodIn_r (big := lw_tbl) wsL_law0_r29 [514, 632, 335, 336, 337, 338, 317, 318, 319, 320, 631, 343, 322, 323, 324, 367, 368, 369, 370, 855, 313, 315, 10, 316] (by decide +kernel) (by decide +kernel) w h).1
set_option maxRecDepth 20000 in
theorem lwi_29 : ∀ w ∈ wsL_law0_r30, w ∈ lw_tbl := fun w h => (goodIn_r (big := lw_tbl) wsL_law0_r30 [387, 388, 389, 390, 557, 391, 392, 394, 11, 396, 397, 400, 401, 403, 12, 404, 838, 566, 405, 409, 410, 411, 412, 413] (by decide +kernel) (by decide +kernel) w h).1
set_option maxRecDepth 20000 in
theorem lwi_30 : ∀ w ∈ wsL_law0_r31, w ∈ lw_tbl := fun w h => (goodIn_r (big := lw_tbl) wsL_law0_r31 [415, 13, 416, 417, 419, 14, 420, 383, 384, 385, 386, 453, 454, 455, 456, 421, 422, 423, 424, 296, 297, 298, 299, 300] (by decide +kernel) (by decide +kernel) w h).1
set_option maxRecDepth 20000 in
theorem lwi_31 : ∀ w ∈ wsL_law0_r32, w ∈ lw_tbl := fun w h => (goodIn_r (big := lw_tbl) wsL_law0_r32 [301, 302, 303, 304, 305, 306, 307, 308, 310, 9, 312, 851, 321, 325, 326, 327, 328, 344, 345, 346, 347, 371, 372, 373] (by decide +kernel) (by decide +kernel) w h).1
set_option maxRecDepth 20000 in
theorem lwi_32 : ∀ w ∈ wsL_law0_r33, w ∈ lw_tbl := fun w h => (goodIn_r (big := lw_tbl) wsL_law0_r33 [374, 379, 380, 381, 382, 329, 330, 331, 332, 333, 339, 340, 341, 342] (by decide +kernel) (by decide +kernel) w h).1
set_option maxRecDepth 20000 in
theorem lwi_33 : ∀ w ∈ wsX110, w ∈ lw_tbl := fun w h => (goodIn_r (big := lw_tbl) wsX110 [744, 746, 748, 750, 752, 754, 756, 758, 760, 762, 764, 766, 768, 770, 772] (by decide +kernel) (by decide +kernel) w h).1
set_option maxRecDepth 20000 in
theorem lwi_34 : ∀ w ∈ wsX100, w ∈ lw_tbl := fun w h => (goodIn_r (big := lw_tbl) wsX100 [701, 703, 705, 707, 709, 711, 713, 715, 717, 719] (by decide +kernel) (by decide +kernel) w h).1
set_option maxRecDepth 20000 in
theorem lwi_35 : ∀ w ∈ wsX00, w ∈ lw_tbl := fun w h => (goodIn_r (big := lw_tbl) wsX00 [567, 569, 571, 573, 575, 577] (by decide +kernel) (by decide +kernel) w h).1
set_option maxRecDepth 20000 in
theorem lwi_36 : ∀ w ∈ wsX40, w ∈ lw_tbl := fun w h => (goodIn_r (big := lw_tbl) wsX40 [590, 592, 594] (by decide +kernel) (by decide +kernel) w h).1
set_option maxRecDepth 20000 in
theorem lwi_37 : ∀ w ∈ wsX60, w ∈ lw_tbl := fun w h => (goodIn_r (big := lw_tbl) wsX60 [611, 613, 615, 617, 619] (by decide +kernel) (by decide +kernel) w h).1
set_option maxRecDepth 20000 in
theorem lwi_38 : ∀ w ∈ wsX70, w ∈ lw_tbl := fun w h => (goodIn_r (big := lw_tbl) wsX70 [633, 635, 637, 639] (by decide +kernel) (by decide +kernel) w h).1
set_option maxRecDepth 20000 in
theorem lwi_39 : ∀ w ∈ wsX30, w ∈ lw_tbl := fun w h => (goodIn_r (big := lw_tbl) wsX30 [654, 656, 658, 660, 662, 664] (by decide +kernel) (by decide +kernel) w h).1
set_option maxRecDepth 20000 in
theorem lwi_40 : ∀ w ∈ wsX10, w ∈ lw_tbl := fun w h => (goodIn_r (big := lw_tbl) wsX10 [547, 549, 551] (by decide +kernel) (by decide +kernel) w h).1
set_option maxRecDepth 20000 in
theorem lwi_41 : ∀ w ∈ wsX80, w ∈ lw_tbl := fun w h => (goodIn_r (big := lw_tbl) wsX80 [679, 681, 683, 685, 687] (by decide +kernel) (by decide +kernel) w h).1
set_option maxRecDepth 20000 in
theorem lwi_42 : ∀ w ∈ wsX20, w ∈ lw_tbl := fun w h => (goodIn_r (big := lw_tbl) wsX20 [862, 864, 866, 868, 870] (by decide +kernel) (by decide +kernel) w h).1
set_option maxRecDepth 20000 in
theorem lwi_43 : ∀ w ∈ wsX90, w ∈ lw_tbl := fun w h => (goodIn_r (big := lw_tbl) wsX90 [839, 841, 843, 845, 847] (by decide +kernel) (by decide +kernel) w h).1
set_option maxRecDepth 20000 in
theorem lwi_44 : ∀ w ∈ wsX50, w ∈ lw_tbl := fun w h => (goodIn_r (big := lw_tbl) wsX50 [1032, 1034, 1036, 1038, 1040, 1042, 1044, 1046, 1048, 1050, 1052, 1054, 1056] (by decide +kernel) (by decide +kernel) w h).1
theorem lwi_45 : ∀ w ∈ ([] : List Cond), w ∈ lw_tbl := fun _ h => absurd h List.not_mem_nil
set_option maxRecDepth 20000 in
theorem wsL_law_in0 : ∀ w ∈ wsL_law0, w ∈ lw_tbl := (fun w h => (List.mem_append.mp h).elim ((fun w h => (List.mem_append.mp h).elim ((fun w h => (List.mem_append.mp h).elim ((fun w h => (List.mem_append.mp h).elim ((fun w h => (List.mem_append.mp h).elim ((fun w h => (List.mem_append.mp h).elim ((fun w h => (List.mem_append.mp h).elim ((fun w h => (List.mem_append.mp h).elim ((fun w h => (List.mem_append.mp h).elim ((fun w h => (List.mem_append.mp h).elim ((fun w h => (List.mem_append.mp h).elim ((fun w h => (List.mem_append.mp h).elim ((fun w h => (List.mem_append.mp h).elim ((fun w h => (List.mem_append.mp h).elim (lwi_0 w) ((fun w h => (List.mem_append.mp h).elim (lwi_1 w) ((fun w h => (List.mem_append.mp h).elim (lwi_2 w) ((fun w h => (List.mem_append.mp h).elim (lwi_3 w) ((fun w h => (List.mem_append.mp h).elim (lwi_4 w) ((fun w h => (List.mem_append.mp h).elim (lwi_5 w) ((fun w h => (List.mem_append.mp h).elim (lwi_6 w) ((fun w h => (List.mem_append.mp h).elim (lwi_7 w) ((fun w h => (List.mem_append.mp h).elim (lwi_8 w) ((fun w h => (List.mem_append.mp h).elim (lwi_9 w) ((fun w h => (List.mem_append.mp h).elim (lwi_10 w) ((fun w h => (List.mem_append.mp h).elim (lwi_11 w) ((fun w h => (List.mem_append.mp h).elim (lwi_12 w) ((fun w h => (List.mem_append.mp h).elim (lwi_13 w) ((fun w h => (List.mem_append.mp h).elim (lwi_14 w) ((fun w h => (List.mem_append.mp h).elim (lwi_15 w) ((fun w h => (List.mem_append.mp h).elim (lwi_16 w) ((fun w h => (List.mem_append.mp h).elim (lwi_17 w) ((fun w h => (List.mem_append.mp h).elim (lwi_18 w) ((fun w h => (List.mem_append.mp h).elim (lwi_19 w) ((fun w h => (List.mem_append.mp h).elim (lwi_20 w) ((fun w h => (List.mem_append.mp h).elim (lwi_21 w) ((fun w h => (List.mem_append.mp h).elim (lwi_22 w) ((fun w h => (List.mem_append.mp h).elim (lwi_23 w) ((fun w h => (List.mem_append.mp h).elim (lwi_24 w) ((fun w h => (List.mem_append.mp h).elim (lwi_25 w) ((fun w h => (List.mem_append.mp h).elim (lwi_26 w) ((fun w h => (List.mem_append.mp h).elim (lwi_27 w) ((fun w h => (List.mem_append.mp h).elim (lwi_28 w) ((fun w h => (List.mem_append.mp h).elim (lwi_29 w) ((fun w h => (List.mem_append.mp h).elim (lwi_30 w) ((fun w h => (List.mem_append.mp h).elim (lwi_31 w) (lwi_32 w)) w)) w)) w)) w)) w)) w)) w)) w)) w)) w)) w)) w)) w)) w)) w)) w)) w)) w)) w)) w)) w)) w)) w)) w)) w)) w)) w)) w)) w)) w)) w)) w) (lwi_33 w)) w) (lwi_34 w)) w) (lwi_35 w)) w) (lwi_36 w)) w) (lwi_37 w)) w) (lwi_38 w)) w) (lwi_39 w)) w) (lwi_40 w)) w) (lwi_41 w)) w) (lwi_42 w)) w) (lwi_43 w)) w) (lwi_44 w)) w) (lwi_45 w))
theorem wsL_law_x0 : ∀ w ∈ (vx_atS RX10 89 "java/lang/IllegalArgumentException" ["java/lang/RuntimeException", "java/lang/Exception"]).filter goodWord, w ∈ lw_tbl := by decide +kernel
theorem wsL_law_x1 : ∀ w ∈ (vx_atS RX10 104 "java/lang/IllegalStateException" ["java/lang/RuntimeException", "java/lang/Exception"]).filter goodWord, w ∈ lw_tbl := by decide +kernel
theorem wsL_law_x2 : ∀ w ∈ (vx_atS RX10 155 "java/lang/IndexOutOfBoundsException" ["java/lang/RuntimeException", "java/lang/Exception"]).filter goodWord, w ∈ lw_tbl := by decide +kernel
theorem wsL_law_in : ∀ w ∈ wsL_law, w ∈ lw_tbl := fun w h => (List.mem_append.mp h).elim (fun h => (List.mem_append.mp h).elim (fun h => (List.mem_append.mp h).elim (fun h => wsL_law_in0 w h) (fun h => wsL_law_x0 w h)) (fun h => wsL_law_x1 w h)) (fun h => wsL_law_x2 w h)
