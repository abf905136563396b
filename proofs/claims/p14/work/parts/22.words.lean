theorem zin {big ws : List Cond} (ps : List Nat) (hp : ws = ps.filterMap (fun i => big[i]?)) : ∀ w ∈ ws, w ∈ big := by
  intro w hw
  rw [hp] at hw
  obtain ⟨i, -, hi⟩ := List.mem_filterMap.mp hw
  exact List.mem_of_getElem? hi
set_option maxRecDepth 20000 in
theorem li_r1 : ∀ w ∈ wsL_law0_r1, w ∈ lw_tbl := zin [68, 69, 50, 763, 764, 58, 1071, 70, 71, 72, 73, 74, 75, 76, 77, 51, 295, 93, 94, 52, 296, 122, 123, 53] (by rfl)
set_option maxRecDepth 20000 in
theorem li_r2 : ∀ w ∈ wsL_law0_r2, w ∈ lw_tbl := zin [297, 160, 161, 54, 298, 79, 80, 81, 92, 82, 96, 97, 98, 99, 103, 104, 125, 126, 127, 128, 129, 131, 159, 135] (by rfl)
set_option maxRecDepth 20000 in
theorem li_r3 : ∀ w ∈ wsL_law0_r3, w ∈ lw_tbl := zin [136, 138, 140, 162, 163, 164, 165, 166, 167, 55, 236, 218, 219, 57, 238, 240, 242, 245, 233, 234, 235, 168, 169, 170] (by rfl)
set_option maxRecDepth 20000 in
theorem li_r4 : ∀ w ∈ wsL_law0_r4, w ∈ lw_tbl := zin [171, 172, 200, 201, 174, 56, 176, 177, 178, 179, 221, 222, 223, 224, 765, 766, 767, 768, 770, 774, 776, 779, 782, 784] (by rfl)
set_option maxRecDepth 20000 in
theorem li_r5 : ∀ w ∈ wsL_law0_r5, w ∈ lw_tbl := zin [785, 786, 787, 788, 789, 790, 792, 793, 794, 795, 796, 797, 799, 801, 308, 309, 310, 311, 312, 313, 314, 315, 83, 84] (by rfl)
set_option maxRecDepth 20000 in
theorem li_r6 : ∀ w ∈ wsL_law0_r6, w ∈ lw_tbl := zin [316, 317, 59, 318, 893, 894, 895, 896, 769, 771, 772, 319, 320, 321, 322, 323, 324, 325, 326, 327, 329, 0, 330, 331] (by rfl)
set_option maxRecDepth 20000 in
theorem li_r7 : ∀ w ∈ wsL_law0_r7, w ∈ lw_tbl := zin [332, 333, 334, 897, 898, 899, 900, 781, 901, 903, 25, 904, 905, 907, 26, 908, 335, 336, 337, 338, 339, 340, 341, 342] (by rfl)
set_option maxRecDepth 20000 in
theorem li_r8 : ∀ w ∈ wsL_law0_r8, w ∈ lw_tbl := zin [343, 344, 345, 346, 909, 910, 911, 912, 913, 915, 27, 916, 641, 642, 49, 643, 644, 645, 646, 647, 648, 649, 650, 63] (by rfl)
set_option maxRecDepth 20000 in
theorem li_r9 : ∀ w ∈ wsL_law0_r9, w ∈ lw_tbl := zin [719, 65, 355, 356, 357, 718, 547, 548, 351, 352, 353, 354, 549, 550, 551, 552, 394, 64, 395, 553, 554, 555, 917, 918] (by rfl)
set_option maxRecDepth 20000 in
theorem li_r10 : ∀ w ∈ wsL_law0_r10, w ∈ lw_tbl := zin [919, 920, 921, 922, 923, 924, 925, 926, 927, 929, 28, 930, 931, 932, 933, 347, 348, 349, 350, 358, 359, 360, 361, 362] (by rfl)
set_option maxRecDepth 20000 in
theorem li_r11 : ∀ w ∈ wsL_law0_r11, w ∈ lw_tbl := zin [363, 364, 365, 367, 1, 368, 369, 371, 2, 372, 373, 375, 374, 66, 376, 378, 3, 379, 380, 381, 934, 935, 936, 937] (by rfl)
set_option maxRecDepth 20000 in
theorem li_r12 : ∀ w ∈ wsL_law0_r12, w ∈ lw_tbl := zin [938, 940, 29, 941, 382, 383, 384, 385, 386, 387, 388, 389, 390, 391, 392, 393, 396, 942, 943, 944, 945, 946, 948, 30] (by rfl)
set_option maxRecDepth 20000 in
theorem li_r13 : ∀ w ∈ wsL_law0_r13, w ∈ lw_tbl := zin [949, 397, 398, 399, 400, 401, 402, 403, 404, 106, 105, 405, 407, 4, 408, 101, 409, 411, 5, 412, 413, 415, 6, 416] (by rfl)
set_option maxRecDepth 20000 in
theorem li_r14 : ∀ w ∈ wsL_law0_r14, w ∈ lw_tbl := zin [100, 417, 419, 7, 420, 421, 422, 950, 951, 952, 953, 954, 956, 31, 957, 775, 778, 777, 780, 958, 959, 423, 424, 425] (by rfl)
set_option maxRecDepth 20000 in
theorem li_r15 : ∀ w ∈ wsL_law0_r15, w ∈ lw_tbl := zin [426, 427, 428, 429, 430, 960, 961, 962, 963, 431, 432, 433, 434, 964, 965, 966, 967, 773, 435, 436, 437, 438, 968, 969] (by rfl)
set_option maxRecDepth 20000 in
theorem li_r16 : ∀ w ∈ wsL_law0_r16, w ∈ lw_tbl := zin [970, 971, 439, 440, 441, 442, 443, 444, 445, 446, 447, 448, 449, 133, 972, 973, 974, 975, 783, 450, 451, 452, 453, 454] (by rfl)
set_option maxRecDepth 20000 in
theorem li_r17 : ∀ w ∈ wsL_law0_r17, w ∈ lw_tbl := zin [455, 456, 457, 976, 977, 978, 979, 458, 459, 460, 461, 462, 463, 464, 465, 980, 981, 982, 983, 466, 467, 468, 469, 470] (by rfl)
set_option maxRecDepth 20000 in
theorem li_r18 : ∀ w ∈ wsL_law0_r18, w ∈ lw_tbl := zin [471, 472, 473, 475, 476, 477, 478, 247, 248, 250, 251, 253, 255, 257, 479, 480, 481, 482, 202, 203, 205, 483, 484, 486] (by rfl)
set_option maxRecDepth 20000 in
theorem li_r19 : ∀ w ∈ wsL_law0_r19, w ∈ lw_tbl := zin [8, 487, 488, 489, 490, 491, 492, 494, 495, 496, 493, 497, 498, 499, 500, 501, 503, 9, 504, 181, 505, 506, 507, 508] (by rfl)
set_option maxRecDepth 20000 in
theorem li_r20 : ∀ w ∈ wsL_law0_r20, w ∈ lw_tbl := zin [509, 510, 511, 512, 259, 513, 514, 515, 516, 517, 518, 519, 520, 523, 525, 10, 526, 527, 528, 529, 530, 531, 532, 533] (by rfl)
set_option maxRecDepth 20000 in
theorem li_r21 : ∀ w ∈ wsL_law0_r21, w ∈ lw_tbl := zin [534, 535, 536, 538, 11, 539, 244, 540, 541, 543, 12, 544, 556, 558, 13, 559, 560, 562, 14, 563, 564, 566, 15, 567] (by rfl)
set_option maxRecDepth 20000 in
theorem li_r22 : ∀ w ∈ wsL_law0_r22, w ∈ lw_tbl := zin [569, 570, 571, 572, 574, 16, 575, 576, 578, 17, 579, 580, 581, 582, 583, 584, 586, 18, 587, 588, 589, 590, 591, 592] (by rfl)
set_option maxRecDepth 20000 in
theorem li_r23 : ∀ w ∈ wsL_law0_r23, w ∈ lw_tbl := zin [594, 19, 595, 596, 597, 598, 599, 600, 601, 602, 607, 603, 604, 605, 606, 225, 608, 609, 611, 20, 612, 613, 614, 615] (by rfl)
set_option maxRecDepth 20000 in
theorem li_r24 : ∀ w ∈ wsL_law0_r24, w ∈ lw_tbl := zin [616, 617, 619, 21, 620, 621, 623, 22, 624, 625, 627, 23, 628, 629, 630, 631, 632, 984, 985, 986, 987, 791, 798, 800] (by rfl)
set_option maxRecDepth 20000 in
theorem li_r25 : ∀ w ∈ wsL_law0_r25, w ∈ lw_tbl := zin [802, 803, 804, 805, 806, 807, 808, 809, 988, 990, 32, 991, 992, 994, 33, 995, 996, 998, 34, 999, 1000, 1001, 1002, 1003] (by rfl)
set_option maxRecDepth 20000 in
theorem li_r26 : ∀ w ∈ wsL_law0_r26, w ∈ lw_tbl := zin [1005, 35, 1006, 1007, 1009, 36, 1010, 1011, 1013, 37, 1014, 1015, 1017, 38, 1018, 1019, 1021, 39, 1022, 1023, 1025, 40, 1026, 1027] (by rfl)
set_option maxRecDepth 20000 in
theorem li_r27 : ∀ w ∈ wsL_law0_r27, w ∈ lw_tbl := zin [1029, 41, 1030, 1031, 1033, 42, 1034, 1035, 1037, 43, 1038, 1039, 1041, 44, 1042, 1043, 1045, 45, 1046, 1047, 1049, 46, 1050, 1051] (by rfl)
set_option maxRecDepth 20000 in
theorem li_r28 : ∀ w ∈ wsL_law0_r28, w ∈ lw_tbl := zin [1053, 47, 1054, 1055, 1057, 48, 1058, 633, 634, 635, 636, 1059, 1060, 1061, 1062, 735, 736, 737, 738, 739, 740, 741, 742, 747] (by rfl)
set_option maxRecDepth 20000 in
theorem li_r29 : ∀ w ∈ wsL_law0_r29, w ∈ lw_tbl := zin [67, 743, 744, 745, 746, 1063, 1064, 1065, 1066, 637, 638, 639, 640, 1067, 1068, 1069, 1070] (by rfl)
set_option maxRecDepth 20000 in
theorem li_wsX70 : ∀ w ∈ wsX70, w ∈ lw_tbl := zin [299, 301, 303, 305] (by rfl)
set_option maxRecDepth 20000 in
theorem li_wsX80 : ∀ w ∈ wsX80, w ∈ lw_tbl := zin [810, 812, 814, 816, 818, 820, 822, 824, 826, 828, 830, 832, 834, 836, 838, 840, 842, 844, 846, 848, 850, 852, 854, 856, 858, 860, 862, 864, 866, 868, 870, 872, 874, 876, 878, 880, 882, 884, 886, 888, 890] (by rfl)
set_option maxRecDepth 20000 in
theorem li_wsX30 : ∀ w ∈ wsX30, w ∈ lw_tbl := zin [85, 87, 89] (by rfl)
set_option maxRecDepth 20000 in
theorem li_wsX00 : ∀ w ∈ wsX00, w ∈ lw_tbl := zin [107, 109, 111, 113, 115, 117, 119] (by rfl)
set_option maxRecDepth 20000 in
theorem li_wsX50 : ∀ w ∈ wsX50, w ∈ lw_tbl := zin [142, 144, 146, 148, 150, 152, 154, 156] (by rfl)
set_option maxRecDepth 20000 in
theorem li_wsX60 : ∀ w ∈ wsX60, w ∈ lw_tbl := zin [260, 262, 264, 266, 268, 270, 272, 274, 276, 278, 280, 282, 284, 286, 288, 290, 292] (by rfl)
set_option maxRecDepth 20000 in
theorem li_wsX20 : ∀ w ∈ wsX20, w ∈ lw_tbl := zin [207, 209, 211, 213, 215] (by rfl)
set_option maxRecDepth 20000 in
theorem li_wsX40 : ∀ w ∈ wsX40, w ∈ lw_tbl := zin [228, 230] (by rfl)
set_option maxRecDepth 20000 in
theorem li_wsX10 : ∀ w ∈ wsX10, w ∈ lw_tbl := zin [187, 189, 191, 193, 195, 197] (by rfl)
theorem li_x0 : ∀ w ∈ (vx_atS RX7 61 "java/lang/IllegalArgumentException" ["java/lang/RuntimeException", "java/lang/Exception"]).filter goodWord, w ∈ lw_tbl := by decide +kernel
theorem li_x1 : ∀ w ∈ (vx_atS RX7 75 "java/lang/ArithmeticException" ["java/lang/RuntimeException", "java/lang/Exception"]).filter goodWord, w ∈ lw_tbl := by decide +kernel
theorem li_x2 : ∀ w ∈ (vx_atS RX7 184 "java/lang/IndexOutOfBoundsException" ["java/lang/RuntimeException", "java/lang/Exception"]).filter goodWord, w ∈ lw_tbl := by decide +kernel
theorem li_good : ∀ w ∈ lw_good, w ∈ lw_tbl := List.forall_mem_append.mpr ⟨List.forall_mem_append.mpr ⟨List.forall_mem_append.mpr ⟨List.forall_mem_append.mpr ⟨List.forall_mem_append.mpr ⟨List.forall_mem_append.mpr ⟨List.forall_mem_append.mpr ⟨List.forall_mem_append.mpr ⟨List.forall_mem_append.mpr ⟨List.forall_mem_append.mpr ⟨List.forall_mem_append.mpr ⟨List.forall_mem_append.mpr ⟨List.forall_mem_append.mpr ⟨List.forall_mem_append.mpr ⟨li_r1, List.forall_mem_append.mpr ⟨li_r2, List.forall_mem_append.mpr ⟨li_r3, List.forall_mem_append.mpr ⟨li_r4, List.forall_mem_append.mpr ⟨li_r5, List.forall_mem_append.mpr ⟨li_r6, List.forall_mem_append.mpr ⟨li_r7, List.forall_mem_append.mpr ⟨li_r8, List.forall_mem_append.mpr ⟨li_r9, List.forall_mem_append.mpr ⟨li_r10, List.forall_mem_append.mpr ⟨li_r11, List.forall_mem_append.mpr ⟨li_r12, List.forall_mem_append.mpr ⟨li_r13, List.forall_mem_append.mpr ⟨li_r14, List.forall_mem_append.mpr ⟨li_r15, List.forall_mem_append.mpr ⟨li_r16, List.forall_mem_append.mpr ⟨li_r17, List.forall_mem_append.mpr ⟨li_r18, List.forall_mem_append.mpr ⟨li_r19, List.forall_mem_append.mpr ⟨li_r20, List.forall_mem_append.mpr ⟨li_r21, List.forall_mem_append.mpr ⟨li_r22, List.forall_mem_append.mpr ⟨li_r23, List.forall_mem_append.mpr ⟨li_r24, List.forall_mem_append.mpr ⟨li_r25, List.forall_mem_append.mpr ⟨li_r26, List.forall_mem_append.mpr ⟨li_r27, List.forall_mem_append.mpr ⟨li_r28, li_r29⟩⟩⟩⟩⟩⟩⟩⟩⟩⟩⟩⟩⟩⟩⟩⟩⟩⟩⟩⟩⟩⟩⟩⟩⟩⟩⟩⟩, li_wsX70⟩, li_wsX80⟩, li_wsX30⟩, li_wsX00⟩, li_wsX50⟩, li_wsX60⟩, li_wsX20⟩, li_wsX40⟩, li_wsX10⟩, fun _ h => absurd h List.not_mem_nil⟩, li_x0⟩, li_x1⟩, li_x2⟩
theorem ln_0 : Cond.fieldLinkNest RX7 174 "ZMemory$Chance" "taped" "I" "ZMemory" ∈ lw_tbl := by decide +kernel
theorem ln_1 : Cond.fieldLinkNest RX6 110 "ZMemory$Program" "operands" "[I" "ZMemory" ∈ lw_tbl := by decide +kernel
theorem ln_2 : Cond.fieldLinkNest RX6 116 "ZMemory$Program" "stores" "[I" "ZMemory" ∈ lw_tbl := by decide +kernel
theorem ln_3 : Cond.fieldLinkNest RX7 173 "ZMemory$Program" "length" "I" "ZMemory" ∈ lw_tbl := by decide +kernel
theorem ln_4 : Cond.fieldLinkNest RX6 228 "ZMemory$Program" "starts" "[I" "ZMemory" ∈ lw_tbl := by decide +kernel
theorem ln_5 : Cond.fieldLinkNest RX6 231 "ZMemory$Program" "locals" "[I" "ZMemory" ∈ lw_tbl := by decide +kernel
theorem ln_6 : Cond.fieldLinkNest RX6 241 "ZMemory$Program" "guards" "[Z" "ZMemory" ∈ lw_tbl := by decide +kernel
theorem ln_7 : Cond.fieldLinkNest RX2 32 "ZMemory$Frame" "locals" "[I" "ZMemory" ∈ lw_tbl := by decide +kernel
theorem ln_8 : Cond.fieldLinkNest RX6 234 "ZMemory$Frame" "localCount" "I" "ZMemory" ∈ lw_tbl := by decide +kernel
theorem ln_9 : Cond.fieldLinkNest RX6 225 "ZMemory$Frame" "routine" "I" "ZMemory" ∈ lw_tbl := by decide +kernel
theorem ln_10 : Cond.fieldLinkNest RX6 96 "ZMemory$Frame" "next" "I" "ZMemory" ∈ lw_tbl := by decide +kernel
theorem ln_11 : Cond.fieldLinkNest RX6 237 "ZMemory$Frame" "store" "I" "ZMemory" ∈ lw_tbl := by decide +kernel
theorem ln_12 : Cond.fieldLinkNest RX2 41 "ZMemory$Frame" "floor" "I" "ZMemory" ∈ lw_tbl := by decide +kernel
theorem ln_13 : Cond.fieldLinkNest RX6 175 "ZMemory$Frames" "count" "I" "ZMemory" ∈ lw_tbl := by decide +kernel
theorem ln_14 : Cond.fieldLinkNest RX7 168 "ZMemory$Frames" "most" "I" "ZMemory" ∈ lw_tbl := by decide +kernel
theorem ln_15 : Cond.fieldLinkNest RX6 51 "ZMemory$Page" "length" "I" "ZMemory" ∈ lw_tbl := by decide +kernel
theorem ln_16 : Cond.fieldLinkNest RX7 159 "ZMemory$Page" "length" "I" "ZMemory" ∈ lw_tbl := by decide +kernel
theorem ln_17 : Cond.fieldLinkNest RX7 164 "ZMemory$Runner" "frames" "LZMemory$Frames;" "ZMemory" ∈ lw_tbl := by decide +kernel
theorem ln_18 : Cond.fieldLinkNest RX7 155 "ZMemory$Runner" "page" "LZMemory$Page;" "ZMemory" ∈ lw_tbl := by decide +kernel
theorem ln_19 : Cond.fieldLinkNest RX7 185 "ZMemory$Runner" "leavings" "[I" "ZMemory" ∈ lw_tbl := by decide +kernel
theorem ln_20 : Cond.fieldLinkNest RX7 97 "ZMemory$Runner" "globe" "I" "ZMemory" ∈ lw_tbl := by decide +kernel
theorem ln_21 : Cond.fieldLinkNest RX7 101 "ZMemory$Runner" "form" "I" "ZMemory" ∈ lw_tbl := by decide +kernel
theorem ln_22 : Cond.fieldLinkNest RX7 140 "ZMemory$Runner" "steps" "I" "ZMemory" ∈ lw_tbl := by decide +kernel
theorem ln_23 : Cond.fieldLinkNest RX7 143 "ZMemory$Runner" "returned" "I" "ZMemory" ∈ lw_tbl := by decide +kernel
theorem ln_24 : Cond.fieldLinkNest RX7 146 "ZMemory$Runner" "unguarded" "I" "ZMemory" ∈ lw_tbl := by decide +kernel
theorem ln_25 : Cond.fieldLinkNest RX7 149 "ZMemory$Runner" "guarded" "I" "ZMemory" ∈ lw_tbl := by decide +kernel
theorem ln_26 : Cond.fieldLinkNest RX7 152 "ZMemory$Runner" "arrived" "I" "ZMemory" ∈ lw_tbl := by decide +kernel
theorem ln_27 : Cond.fieldLinkNest RX6 107 "ZMemory" "OPERANDS" "[I" "ZMemory" ∈ lw_tbl := by decide +kernel
theorem ln_28 : Cond.methodLinkNest RX7 11 yX3_init "ZMemory" ∈ lw_tbl := by decide +kernel
theorem ln_29 : Cond.methodLinkNest RX7 18 yX0_init "ZMemory" ∈ lw_tbl := by decide +kernel
theorem ln_30 : Cond.methodLinkNest RX7 25 yX5_init "ZMemory" ∈ lw_tbl := by decide +kernel
theorem ln_31 : Cond.methodLinkNest RX2 21 yX1_init "ZMemory" ∈ lw_tbl := by decide +kernel
theorem ln_32 : Cond.methodLinkNest RX6 20 yX4_init "ZMemory" ∈ lw_tbl := by decide +kernel
theorem ln_33 : Cond.methodLinkNest RX5 38 yX7_isWithin "ZMemory" ∈ lw_tbl := by decide +kernel
theorem ln_34 : Cond.methodLinkNest RX6 133 yX7_number "ZMemory" ∈ lw_tbl := by decide +kernel
theorem ln_35 : Cond.methodLinkNest RX6 136 yX7_arithmetic "ZMemory" ∈ lw_tbl := by decide +kernel
theorem ln_36 : Cond.methodLinkNest RX6 204 yX7_word "ZMemory" ∈ lw_tbl := by decide +kernel
theorem ln_37 : Cond.castable "java/lang/IllegalArgumentException" "java/lang/IllegalArgumentException" ∈ lw_tbl := by decide +kernel
theorem ln_38 : Cond.castable "java/lang/ArithmeticException" "java/lang/ArithmeticException" ∈ lw_tbl := by decide +kernel
theorem ln_39 : Cond.castable "java/lang/IndexOutOfBoundsException" "java/lang/IndexOutOfBoundsException" ∈ lw_tbl := by decide +kernel
theorem ln_40 : Cond.declares ⟨"java/lang/RuntimeException", "<init>", "(Ljava/lang/String;)V"⟩ ∈ lw_tbl := by decide +kernel
theorem ln_41 : Cond.declares ⟨"java/lang/Exception", "<init>", "(Ljava/lang/String;)V"⟩ ∈ lw_tbl := by decide +kernel
theorem ln_42 : Cond.declares ⟨"java/lang/Throwable", "<init>", "(Ljava/lang/String;)V"⟩ ∈ lw_tbl := by decide +kernel
theorem li_nest : ∀ w ∈ z_nest, w ∈ lw_tbl := List.forall_mem_cons.mpr ⟨ln_0, List.forall_mem_cons.mpr ⟨ln_1, List.forall_mem_cons.mpr ⟨ln_2, List.forall_mem_cons.mpr ⟨ln_3, List.forall_mem_cons.mpr ⟨ln_4, List.forall_mem_cons.mpr ⟨ln_5, List.forall_mem_cons.mpr ⟨ln_6, List.forall_mem_cons.mpr ⟨ln_7, List.forall_mem_cons.mpr ⟨ln_8, List.forall_mem_cons.mpr ⟨ln_9, List.forall_mem_cons.mpr ⟨ln_10, List.forall_mem_cons.mpr ⟨ln_11, List.forall_mem_cons.mpr ⟨ln_12, List.forall_mem_cons.mpr ⟨ln_13, List.forall_mem_cons.mpr ⟨ln_14, List.forall_mem_cons.mpr ⟨ln_15, List.forall_mem_cons.mpr ⟨ln_16, List.forall_mem_cons.mpr ⟨ln_17, List.forall_mem_cons.mpr ⟨ln_18, List.forall_mem_cons.mpr ⟨ln_19, List.forall_mem_cons.mpr ⟨ln_20, List.forall_mem_cons.mpr ⟨ln_21, List.forall_mem_cons.mpr ⟨ln_22, List.forall_mem_cons.mpr ⟨ln_23, List.forall_mem_cons.mpr ⟨ln_24, List.forall_mem_cons.mpr ⟨ln_25, List.forall_mem_cons.mpr ⟨ln_26, List.forall_mem_cons.mpr ⟨ln_27, List.forall_mem_cons.mpr ⟨ln_28, List.forall_mem_cons.mpr ⟨ln_29, List.forall_mem_cons.mpr ⟨ln_30, List.forall_mem_cons.mpr ⟨ln_31, List.forall_mem_cons.mpr ⟨ln_32, List.forall_mem_cons.mpr ⟨ln_33, List.forall_mem_cons.mpr ⟨ln_34, List.forall_mem_cons.mpr ⟨ln_35, List.forall_mem_cons.mpr ⟨ln_36, List.forall_mem_cons.mpr ⟨ln_37, List.forall_mem_cons.mpr ⟨ln_38, List.forall_mem_cons.mpr ⟨ln_39, List.forall_mem_cons.mpr ⟨ln_40, List.forall_mem_cons.mpr ⟨ln_41, List.forall_mem_cons.mpr ⟨ln_42, fun _ h => absurd h List.not_mem_nil⟩⟩⟩⟩⟩⟩⟩⟩⟩⟩⟩⟩⟩⟩⟩⟩⟩⟩⟩⟩⟩⟩⟩⟩⟩⟩⟩⟩⟩⟩⟩⟩⟩⟩⟩⟩⟩⟩⟩⟩⟩⟩⟩
theorem zArr {s : State} {av : Array Value} {ty : FieldType} (h : (Cond.arrayClass ty).before av s = true) (hty : ∀ C, ty ≠ .object C) : ∃ cA : ClassId, ArrOfT s cA ty ∧ va_RA s cA ty := by
  obtain ⟨c, k, comp, h1, h2, h3⟩ := Cond.arrayClass_spec h
  refine ⟨c, fun n z => ⟨fun k h => (by cases h), k, h2, comp, h3⟩, ?_⟩
  cases ty with
  | object C => exact absurd rfl (hty C)
  | _ => exact h1
theorem zArrO {s : State} {av : Array Value} {C : String} (h : (Cond.arrayOver (.object C)).before av s = true) : ∃ cA : ClassId, ArrOfT s cA (.object C) ∧ va_RA s cA (.object C) := by
  obtain ⟨comp, c, k, h1, h2, h3, h4, h5⟩ := Cond.arrayOver_spec h
  exact ⟨c, fun n z => ⟨fun k h => (by cases h), k, h3, comp, h4⟩, k, comp, h3, h4, h1, h5⟩
