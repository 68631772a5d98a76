theorem memr {big ws : List Cond} (ps : List Nat) (hp : ws = ps.filterMap (fun i => big[i]?)) : ∀ w ∈ ws, w ∈ big := by
  intro w hw
  rw [hp] at hw
  obtain ⟨i, -, hi⟩ := List.mem_filterMap.mp hw
  exact List.mem_of_getElem? hi
set_option maxRecDepth 100000 in
theorem wl_1 : ∀ w ∈ wsL_law_r1, w ∈ lw_tbl := memr [60, 61, 45, 682, 683, 51, 62, 63, 64, 65, 66, 67, 68, 69, 46, 194, 84, 85, 47, 195, 116, 117, 48, 196] (by decide +kernel)
set_option maxRecDepth 100000 in
theorem wl_2 : ∀ w ∈ wsL_law_r2, w ∈ lw_tbl := memr [197, 156, 157, 49, 198, 181, 182, 50, 199, 192, 200, 71, 72, 73, 83, 74, 87, 88, 89, 90, 119, 120, 121, 122] (by decide +kernel)
set_option maxRecDepth 100000 in
theorem wl_3 : ∀ w ∈ wsL_law_r3, w ∈ lw_tbl := memr [155, 124, 126, 128, 130, 159, 160, 161, 162, 163, 164, 184, 185, 186, 684, 685, 686, 687, 694, 697, 698, 699, 701, 785] (by decide +kernel)
set_option maxRecDepth 100000 in
theorem wl_4 : ∀ w ∈ wsL_law_r4, w ∈ lw_tbl := memr [704, 705, 706, 707, 709, 716, 717, 718, 231, 232, 233, 234, 235, 236, 237, 238, 76, 239, 240, 241, 242, 243, 786, 787] (by decide +kernel)
set_option maxRecDepth 100000 in
theorem wl_5 : ∀ w ∈ wsL_law_r5, w ∈ lw_tbl := memr [788, 789, 703, 790, 791, 792, 244, 245, 246, 247, 248, 249, 250, 251, 793, 794, 795, 796, 252, 253, 254, 255, 256, 257] (by decide +kernel)
set_option maxRecDepth 100000 in
theorem wl_6 : ∀ w ∈ wsL_law_r6, w ∈ lw_tbl := memr [258, 259, 260, 262, 0, 263, 264, 266, 1, 267, 268, 269, 270, 271, 797, 798, 799, 800, 801, 803, 13, 804, 805, 807] (by decide +kernel)
set_option maxRecDepth 100000 in
theorem wl_7 : ∀ w ∈ wsL_law_r7, w ∈ lw_tbl := memr [14, 808, 809, 811, 15, 812, 272, 273, 274, 275, 201, 203, 204, 276, 277, 278, 279, 280, 281, 282, 283, 284, 286, 287] (by decide +kernel)
set_option maxRecDepth 100000 in
theorem wl_8 : ∀ w ∈ wsL_law_r8, w ∈ lw_tbl := memr [52, 288, 92, 94, 97, 99, 101, 285, 289, 290, 291, 292, 132, 135, 136, 293, 294, 295, 296, 297, 298, 53, 299, 300] (by decide +kernel)
set_option maxRecDepth 100000 in
theorem wl_9 : ∀ w ∈ wsL_law_r9, w ∈ lw_tbl := memr [301, 302, 303, 304, 305, 306, 308, 309, 310, 312, 2, 313, 813, 814, 815, 816, 688, 690, 691, 692, 693, 695, 696, 700] (by decide +kernel)
set_option maxRecDepth 100000 in
theorem wl_10 : ∀ w ∈ wsL_law_r10, w ∈ lw_tbl := memr [689, 314, 315, 316, 317, 318, 320, 3, 321, 322, 323, 324, 325, 817, 818, 819, 820, 821, 823, 16, 824, 825, 827, 17] (by decide +kernel)
set_option maxRecDepth 100000 in
theorem wl_11 : ∀ w ∈ wsL_law_r11, w ∈ lw_tbl := memr [828, 327, 328, 329, 330, 331, 332, 333, 334, 335, 336, 337, 338, 339, 340, 341, 342, 343, 344, 345, 346, 347, 348, 349] (by decide +kernel)
set_option maxRecDepth 100000 in
theorem wl_12 : ∀ w ∈ wsL_law_r12, w ∈ lw_tbl := memr [350, 351, 352, 353, 354, 829, 830, 831, 832, 833, 835, 18, 836, 837, 838, 839, 840, 842, 19, 843, 844, 846, 20, 847] (by decide +kernel)
set_option maxRecDepth 100000 in
theorem wl_13 : ∀ w ∈ wsL_law_r13, w ∈ lw_tbl := memr [848, 849, 850, 851, 853, 21, 854, 855, 856, 857, 355, 356, 357, 358, 359, 360, 361, 362, 363, 364, 365, 366, 367, 368] (by decide +kernel)
set_option maxRecDepth 100000 in
theorem wl_14 : ∀ w ∈ wsL_law_r14, w ∈ lw_tbl := memr [369, 370, 371, 372, 373, 374, 375, 376, 858, 859, 860, 861, 862, 864, 22, 865, 377, 378, 379, 380, 866, 867, 868, 869] (by decide +kernel)
set_option maxRecDepth 100000 in
theorem wl_15 : ∀ w ∈ wsL_law_r15, w ∈ lw_tbl := memr [381, 382, 383, 384, 385, 389, 386, 387, 388, 390, 391, 392, 393, 394, 395, 396, 397, 870, 871, 872, 873, 874, 886, 875] (by decide +kernel)
set_option maxRecDepth 100000 in
theorem wl_16 : ∀ w ∈ wsL_law_r16, w ∈ lw_tbl := memr [877, 23, 878, 879, 881, 24, 882, 883, 884, 885, 398, 399, 400, 401, 402, 404, 4, 405, 406, 407, 408, 409, 887, 888] (by decide +kernel)
set_option maxRecDepth 100000 in
theorem wl_17 : ∀ w ∈ wsL_law_r17, w ∈ lw_tbl := memr [889, 890, 891, 893, 25, 894, 410, 411, 412, 413, 414, 895, 896, 897, 898, 899, 901, 26, 902, 903, 415, 416, 417, 418] (by decide +kernel)
set_option maxRecDepth 100000 in
theorem wl_18 : ∀ w ∈ wsL_law_r18, w ∈ lw_tbl := memr [205, 419, 420, 421, 422, 424, 5, 425, 426, 427, 428, 429, 430, 431, 432, 433, 166, 165, 434, 435, 437, 6, 438, 439] (by decide +kernel)
set_option maxRecDepth 100000 in
theorem wl_19 : ∀ w ∈ wsL_law_r19, w ∈ lw_tbl := memr [441, 7, 442, 443, 445, 447, 8, 448, 449, 451, 9, 452, 453, 454, 167, 455, 456, 457, 458, 459, 460, 461, 462, 463] (by decide +kernel)
set_option maxRecDepth 100000 in
theorem wl_20 : ∀ w ∈ wsL_law_r20, w ∈ lw_tbl := memr [464, 465, 466, 467, 468, 469, 470, 471, 904, 905, 906, 907, 702, 708, 908, 910, 27, 911, 912, 914, 28, 915, 916, 918] (by decide +kernel)
set_option maxRecDepth 100000 in
theorem wl_21 : ∀ w ∈ wsL_law_r21, w ∈ lw_tbl := memr [29, 919, 920, 922, 30, 923, 924, 925, 926, 927, 928, 929, 930, 932, 31, 933, 934, 935, 937, 32, 938, 472, 473, 474] (by decide +kernel)
set_option maxRecDepth 100000 in
theorem wl_22 : ∀ w ∈ wsL_law_r22, w ∈ lw_tbl := memr [475, 476, 477, 478, 479, 480, 481, 939, 940, 941, 942, 943, 482, 483, 484, 485, 944, 945, 946, 947, 948, 950, 33, 951] (by decide +kernel)
set_option maxRecDepth 100000 in
theorem wl_23 : ∀ w ∈ wsL_law_r23, w ∈ lw_tbl := memr [486, 487, 488, 489, 490, 491, 492, 493, 494, 495, 496, 497, 55, 506, 507, 56, 513, 514, 57, 520, 521, 58, 527, 54] (by decide +kernel)
set_option maxRecDepth 100000 in
theorem wl_24 : ∀ w ∈ wsL_law_r24, w ∈ lw_tbl := memr [499, 500, 502, 503, 504, 509, 510, 516, 517, 523, 524, 952, 953, 954, 955, 530, 531, 532, 533, 534, 536, 10, 537, 538] (by decide +kernel)
set_option maxRecDepth 100000 in
theorem wl_25 : ∀ w ∈ wsL_law_r25, w ∈ lw_tbl := memr [541, 539, 542, 543, 544, 554, 545, 546, 547, 548, 549, 550, 551, 552, 553, 538, 539, 540, 555, 558, 559, 556, 563, 564] (by decide +kernel)
set_option maxRecDepth 100000 in
theorem wl_26 : ∀ w ∈ wsL_law_r26, w ∈ lw_tbl := memr [565, 568, 566, 569, 570, 571, 572, 587, 573, 574, 575, 576, 579, 580, 581, 577, 578, 582, 583, 584, 585, 586, 565, 566] (by decide +kernel)
set_option maxRecDepth 100000 in
theorem wl_27 : ∀ w ∈ wsL_law_r27, w ∈ lw_tbl := memr [567, 588, 591, 592, 589, 598, 593, 589, 594, 595, 596, 597, 588, 590, 560, 561, 562, 555, 557, 956, 957, 958, 959, 960] (by decide +kernel)
set_option maxRecDepth 100000 in
theorem wl_28 : ∀ w ∈ wsL_law_r28, w ∈ lw_tbl := memr [962, 34, 963, 964, 966, 35, 967, 968, 970, 36, 971, 972, 974, 37, 975, 976, 599, 600, 601, 602, 603, 604, 605, 496] (by decide +kernel)
set_option maxRecDepth 100000 in
theorem wl_29 : ∀ w ∈ wsL_law_r29, w ∈ lw_tbl := memr [506, 513, 520, 977, 978, 979, 980, 606, 607, 608, 609, 610, 611, 612, 613, 614, 615, 616, 617, 618, 981, 982, 983, 984] (by decide +kernel)
set_option maxRecDepth 100000 in
theorem wl_30 : ∀ w ∈ wsL_law_r30, w ∈ lw_tbl := memr [985, 987, 38, 988, 619, 620, 621, 622, 623, 624, 625, 626, 187, 627, 628, 629, 630, 631, 632, 633, 634, 635, 636, 637] (by decide +kernel)
set_option maxRecDepth 100000 in
theorem wl_31 : ∀ w ∈ wsL_law_r31, w ∈ lw_tbl := memr [638, 639, 641, 11, 642, 643, 989, 990, 991, 992, 993, 995, 39, 996, 710, 997, 999, 40, 1000, 1001, 1002, 1003, 1004, 1005] (by decide +kernel)
set_option maxRecDepth 100000 in
theorem wl_32 : ∀ w ∈ wsL_law_r32, w ∈ lw_tbl := memr [1007, 41, 1008, 644, 645, 646, 647, 202, 648, 649, 650, 651, 652, 654, 653, 59, 1009, 1010, 1011, 1012, 711, 712, 713, 714] (by decide +kernel)
set_option maxRecDepth 100000 in
theorem wl_33 : ∀ w ∈ wsL_law_r33, w ∈ lw_tbl := memr [715, 655, 656, 657, 658, 1013, 1014, 1015, 1016, 659, 660, 661, 662, 1017, 1018, 1019, 1020, 1021, 1023, 42, 1024, 663, 664, 665] (by decide +kernel)
set_option maxRecDepth 100000 in
theorem wl_34 : ∀ w ∈ wsL_law_r34, w ∈ lw_tbl := memr [666, 667, 668, 670, 12, 671, 672, 673, 674, 675, 676, 677, 678, 679, 680, 681, 1025, 1026, 1027, 1028, 1029, 719, 1030, 1032] (by decide +kernel)
set_option maxRecDepth 100000 in
theorem wl_35 : ∀ w ∈ wsL_law_r35, w ∈ lw_tbl := memr [43, 1033, 1034] (by decide +kernel)
set_option maxRecDepth 100000 in
theorem wx_X10 : ∀ w ∈ wsX100, w ∈ lw_tbl := memr [206, 208, 210, 212, 214, 216, 218, 220, 222, 224, 226, 228] (by decide +kernel)
set_option maxRecDepth 100000 in
theorem wx_X11 : ∀ w ∈ wsX110, w ∈ lw_tbl := memr [720, 722, 724, 726, 728, 730, 732, 734, 736, 738, 740, 742, 744, 746, 748, 750, 752, 754, 756, 758, 760, 762, 764, 766, 768, 770, 772, 774, 776, 778, 780, 782] (by decide +kernel)
set_option maxRecDepth 100000 in
theorem wx_X7 : ∀ w ∈ wsX70, w ∈ lw_tbl := memr [78, 80] (by decide +kernel)
set_option maxRecDepth 100000 in
theorem wx_X6 : ∀ w ∈ wsX60, w ∈ lw_tbl := memr [103, 105, 107, 109, 111, 113] (by decide +kernel)
set_option maxRecDepth 100000 in
theorem wx_X8 : ∀ w ∈ wsX80, w ∈ lw_tbl := memr [138, 140, 142, 144, 146, 148, 150, 152] (by decide +kernel)
set_option maxRecDepth 100000 in
theorem wx_X1 : ∀ w ∈ wsX10, w ∈ lw_tbl := memr [168, 170, 172, 174, 176, 178] (by decide +kernel)
set_option maxRecDepth 100000 in
theorem wx_X3 : ∀ w ∈ wsX30, w ∈ lw_tbl := memr [189] (by decide +kernel)
set_option maxRecDepth 100000 in
theorem wx_X2 : ∀ w ∈ wsX20, w ∈ lw_tbl := memr [] (by decide +kernel)
set_option maxRecDepth 100000 in
theorem wx_X0 : ∀ w ∈ wsX00, w ∈ lw_tbl := memr [] (by decide +kernel)
set_option maxRecDepth 100000 in
theorem wx_X5 : ∀ w ∈ wsX50, w ∈ lw_tbl := memr [] (by decide +kernel)
set_option maxRecDepth 100000 in
theorem wx_X4 : ∀ w ∈ wsX40, w ∈ lw_tbl := memr [] (by decide +kernel)
set_option maxRecDepth 100000 in
theorem wx_X9 : ∀ w ∈ wsX90, w ∈ lw_tbl := memr [] (by decide +kernel)
theorem apm {big a b : List Cond} (ha : ∀ w ∈ a, w ∈ big) (hb : ∀ w ∈ b, w ∈ big) : ∀ w ∈ a ++ b, w ∈ big := fun w h => (List.mem_append.mp h).elim (ha w) (hb w)
theorem wsL_law_in : ∀ w ∈ wsL_law, w ∈ lw_tbl := apm (apm (apm (apm (apm (apm (apm (apm (apm (apm (apm (apm (apm (apm wl_1 (apm wl_2 (apm wl_3 (apm wl_4 (apm wl_5 (apm wl_6 (apm wl_7 (apm wl_8 (apm wl_9 (apm wl_10 (apm wl_11 (apm wl_12 (apm wl_13 (apm wl_14 (apm wl_15 (apm wl_16 (apm wl_17 (apm wl_18 (apm wl_19 (apm wl_20 (apm wl_21 (apm wl_22 (apm wl_23 (apm wl_24 (apm wl_25 (apm wl_26 (apm wl_27 (apm wl_28 (apm wl_29 (apm wl_30 (apm wl_31 (apm wl_32 (apm wl_33 (apm wl_34 wl_35)))))))))))))))))))))))))))))))))) wx_X10) wx_X11) wx_X7) wx_X6) wx_X8) wx_X1) wx_X3) wx_X2) wx_X0) wx_X5) wx_X4) wx_X9) (fun _ h => absurd h List.not_mem_nil)
