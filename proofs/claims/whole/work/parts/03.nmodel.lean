theorem dX11_init_0 : decode cX11_init 0 = .ok (.aload_n 0, 1) := by decide +kernel
theorem dX11_init_1 : decode cX11_init 1 = .ok (.invokespecial 1, 3) := by decide +kernel
theorem dX11_init_4 : decode cX11_init 4 = .ok (.aload_n 0, 1) := by decide +kernel
theorem dX11_init_5 : decode cX11_init 5 = .ok (.bipush 6, 2) := by decide +kernel
theorem dX11_init_7 : decode cX11_init 7 = .ok (.newarray .int, 2) := by decide +kernel
theorem dX11_init_9 : decode cX11_init 9 = .ok (.putfield 7, 3) := by decide +kernel
theorem dX11_init_12 : decode cX11_init 12 = .ok (.aload_n 0, 1) := by decide +kernel
theorem dX11_init_13 : decode cX11_init 13 = .ok (.bipush 6, 2) := by decide +kernel
theorem dX11_init_15 : decode cX11_init 15 = .ok (.newarray .int, 2) := by decide +kernel
theorem dX11_init_17 : decode cX11_init 17 = .ok (.putfield 13, 3) := by decide +kernel
theorem dX11_init_20 : decode cX11_init 20 = .ok (.aload_n 0, 1) := by decide +kernel
theorem dX11_init_21 : decode cX11_init 21 = .ok (.bipush 6, 2) := by decide +kernel
theorem dX11_init_23 : decode cX11_init 23 = .ok (.newarray .int, 2) := by decide +kernel
theorem dX11_init_25 : decode cX11_init 25 = .ok (.putfield 16, 3) := by decide +kernel
theorem dX11_init_28 : decode cX11_init 28 = .ok (.aload_n 0, 1) := by decide +kernel
theorem dX11_init_29 : decode cX11_init 29 = .ok (.bipush 6, 2) := by decide +kernel
theorem dX11_init_31 : decode cX11_init 31 = .ok (.newarray .int, 2) := by decide +kernel
theorem dX11_init_33 : decode cX11_init 33 = .ok (.dup, 1) := by decide +kernel
theorem dX11_init_34 : decode cX11_init 34 = .ok (.iconst 0, 1) := by decide +kernel
theorem dX11_init_35 : decode cX11_init 35 = .ok (.iconst (-1), 1) := by decide +kernel
theorem dX11_init_36 : decode cX11_init 36 = .ok (.iastore, 1) := by decide +kernel
theorem dX11_init_37 : decode cX11_init 37 = .ok (.dup, 1) := by decide +kernel
theorem dX11_init_38 : decode cX11_init 38 = .ok (.iconst 1, 1) := by decide +kernel
theorem dX11_init_39 : decode cX11_init 39 = .ok (.iconst (-1), 1) := by decide +kernel
theorem dX11_init_40 : decode cX11_init 40 = .ok (.iastore, 1) := by decide +kernel
theorem dX11_init_41 : decode cX11_init 41 = .ok (.dup, 1) := by decide +kernel
theorem dX11_init_42 : decode cX11_init 42 = .ok (.iconst 2, 1) := by decide +kernel
theorem dX11_init_43 : decode cX11_init 43 = .ok (.iconst (-1), 1) := by decide +kernel
theorem dX11_init_44 : decode cX11_init 44 = .ok (.iastore, 1) := by decide +kernel
theorem dX11_init_45 : decode cX11_init 45 = .ok (.dup, 1) := by decide +kernel
theorem dX11_init_46 : decode cX11_init 46 = .ok (.iconst 3, 1) := by decide +kernel
theorem dX11_init_47 : decode cX11_init 47 = .ok (.iconst (-1), 1) := by decide +kernel
theorem dX11_init_48 : decode cX11_init 48 = .ok (.iastore, 1) := by decide +kernel
theorem dX11_init_49 : decode cX11_init 49 = .ok (.dup, 1) := by decide +kernel
theorem dX11_init_50 : decode cX11_init 50 = .ok (.iconst 4, 1) := by decide +kernel
theorem dX11_init_51 : decode cX11_init 51 = .ok (.iconst (-1), 1) := by decide +kernel
theorem dX11_init_52 : decode cX11_init 52 = .ok (.iastore, 1) := by decide +kernel
theorem dX11_init_53 : decode cX11_init 53 = .ok (.dup, 1) := by decide +kernel
theorem dX11_init_54 : decode cX11_init 54 = .ok (.iconst 5, 1) := by decide +kernel
theorem dX11_init_55 : decode cX11_init 55 = .ok (.iconst (-1), 1) := by decide +kernel
theorem dX11_init_56 : decode cX11_init 56 = .ok (.iastore, 1) := by decide +kernel
theorem dX11_init_57 : decode cX11_init 57 = .ok (.putfield 19, 3) := by decide +kernel
theorem dX11_init_60 : decode cX11_init 60 = .ok (.aload_n 0, 1) := by decide +kernel
theorem dX11_init_61 : decode cX11_init 61 = .ok (.iconst 4, 1) := by decide +kernel
theorem dX11_init_62 : decode cX11_init 62 = .ok (.newarray .int, 2) := by decide +kernel
theorem dX11_init_64 : decode cX11_init 64 = .ok (.putfield 22, 3) := by decide +kernel
theorem dX11_init_67 : decode cX11_init 67 = .ok (.aload_n 0, 1) := by decide +kernel
theorem dX11_init_68 : decode cX11_init 68 = .ok (.bipush 14, 2) := by decide +kernel
theorem dX11_init_70 : decode cX11_init 70 = .ok (.newarray .byte, 2) := by decide +kernel
theorem dX11_init_72 : decode cX11_init 72 = .ok (.putfield 25, 3) := by decide +kernel
theorem dX11_init_75 : decode cX11_init 75 = .ok (.aload_n 0, 1) := by decide +kernel
theorem dX11_init_76 : decode cX11_init 76 = .ok (.sipush 729, 3) := by decide +kernel
theorem dX11_init_79 : decode cX11_init 79 = .ok (.newarray .long, 2) := by decide +kernel
theorem dX11_init_81 : decode cX11_init 81 = .ok (.putfield 29, 3) := by decide +kernel
theorem dX11_init_84 : decode cX11_init 84 = .ok (.aload_n 0, 1) := by decide +kernel
theorem dX11_init_85 : decode cX11_init 85 = .ok (.sipush 729, 3) := by decide +kernel
theorem dX11_init_88 : decode cX11_init 88 = .ok (.newarray .int, 2) := by decide +kernel
theorem dX11_init_90 : decode cX11_init 90 = .ok (.putfield 33, 3) := by decide +kernel
theorem dX11_init_93 : decode cX11_init 93 = .ok (.aload_n 0, 1) := by decide +kernel
theorem dX11_init_94 : decode cX11_init 94 = .ok (.sipush 729, 3) := by decide +kernel
theorem dX11_init_97 : decode cX11_init 97 = .ok (.newarray .long, 2) := by decide +kernel
theorem dX11_init_99 : decode cX11_init 99 = .ok (.putfield 36, 3) := by decide +kernel
theorem dX11_init_102 : decode cX11_init 102 = .ok (.aload_n 0, 1) := by decide +kernel
theorem dX11_init_103 : decode cX11_init 103 = .ok (.bipush 64, 2) := by decide +kernel
theorem dX11_init_105 : decode cX11_init 105 = .ok (.newarray .long, 2) := by decide +kernel
theorem dX11_init_107 : decode cX11_init 107 = .ok (.putfield 39, 3) := by decide +kernel
theorem dX11_init_110 : decode cX11_init 110 = .ok (.aload_n 0, 1) := by decide +kernel
theorem dX11_init_111 : decode cX11_init 111 = .ok (.bipush 6, 2) := by decide +kernel
theorem dX11_init_113 : decode cX11_init 113 = .ok (.newarray .int, 2) := by decide +kernel
theorem dX11_init_115 : decode cX11_init 115 = .ok (.putfield 42, 3) := by decide +kernel
theorem dX11_init_118 : decode cX11_init 118 = .ok (.aload_n 0, 1) := by decide +kernel
theorem dX11_init_119 : decode cX11_init 119 = .ok (.bipush 6, 2) := by decide +kernel
theorem dX11_init_121 : decode cX11_init 121 = .ok (.newarray .int, 2) := by decide +kernel
theorem dX11_init_123 : decode cX11_init 123 = .ok (.putfield 45, 3) := by decide +kernel
theorem dX11_init_126 : decode cX11_init 126 = .ok (.aload_n 0, 1) := by decide +kernel
theorem dX11_init_127 : decode cX11_init 127 = .ok (.bipush 6, 2) := by decide +kernel
theorem dX11_init_129 : decode cX11_init 129 = .ok (.newarray .int, 2) := by decide +kernel
theorem dX11_init_131 : decode cX11_init 131 = .ok (.putfield 48, 3) := by decide +kernel
theorem dX11_init_134 : decode cX11_init 134 = .ok (.return_, 1) := by decide +kernel
theorem dX11_within_0 : decode cX11_within 0 = .ok (.iload_n 0, 1) := by decide +kernel
theorem dX11_within_1 : decode cX11_within 1 = .ok (.iload_n 1, 1) := by decide +kernel
theorem dX11_within_2 : decode cX11_within 2 = .ok (.if_icmp .lt 12, 3) := by decide +kernel
theorem dX11_within_5 : decode cX11_within 5 = .ok (.iload_n 0, 1) := by decide +kernel
theorem dX11_within_6 : decode cX11_within 6 = .ok (.iload_n 2, 1) := by decide +kernel
theorem dX11_within_7 : decode cX11_within 7 = .ok (.if_icmp .gt 7, 3) := by decide +kernel
theorem dX11_within_10 : decode cX11_within 10 = .ok (.iconst 1, 1) := by decide +kernel
theorem dX11_within_11 : decode cX11_within 11 = .ok (.goto 4, 3) := by decide +kernel
theorem dX11_within_14 : decode cX11_within 14 = .ok (.iconst 0, 1) := by decide +kernel
theorem dX11_within_15 : decode cX11_within 15 = .ok (.ireturn, 1) := by decide +kernel
theorem dX11_has_0 : decode cX11_has 0 = .ok (.iload_n 0, 1) := by decide +kernel
theorem dX11_has_1 : decode cX11_has 1 = .ok (.iload_n 1, 1) := by decide +kernel
theorem dX11_has_2 : decode cX11_has 2 = .ok (.ishr, 1) := by decide +kernel
theorem dX11_has_3 : decode cX11_has 3 = .ok (.iconst 1, 1) := by decide +kernel
theorem dX11_has_4 : decode cX11_has 4 = .ok (.iand, 1) := by decide +kernel
theorem dX11_has_5 : decode cX11_has 5 = .ok (.iconst 1, 1) := by decide +kernel
theorem dX11_has_6 : decode cX11_has 6 = .ok (.if_icmp .ne 7, 3) := by decide +kernel
theorem dX11_has_9 : decode cX11_has 9 = .ok (.iconst 1, 1) := by decide +kernel
theorem dX11_has_10 : decode cX11_has 10 = .ok (.goto 4, 3) := by decide +kernel
theorem dX11_has_13 : decode cX11_has 13 = .ok (.iconst 0, 1) := by decide +kernel
theorem dX11_has_14 : decode cX11_has 14 = .ok (.ireturn, 1) := by decide +kernel
theorem dX11_size_0 : decode cX11_size 0 = .ok (.iconst 0, 1) := by decide +kernel
theorem dX11_size_1 : decode cX11_size 1 = .ok (.istore_n 1, 1) := by decide +kernel
theorem dX11_size_2 : decode cX11_size 2 = .ok (.iconst 0, 1) := by decide +kernel
theorem dX11_size_3 : decode cX11_size 3 = .ok (.istore_n 2, 1) := by decide +kernel
theorem dX11_size_4 : decode cX11_size 4 = .ok (.iload_n 2, 1) := by decide +kernel
theorem dX11_size_5 : decode cX11_size 5 = .ok (.bipush 6, 2) := by decide +kernel
theorem dX11_size_7 : decode cX11_size 7 = .ok (.if_icmp .ge 17, 3) := by decide +kernel
theorem dX11_size_10 : decode cX11_size 10 = .ok (.iload_n 1, 1) := by decide +kernel
theorem dX11_size_11 : decode cX11_size 11 = .ok (.iload_n 0, 1) := by decide +kernel
theorem dX11_size_12 : decode cX11_size 12 = .ok (.iload_n 2, 1) := by decide +kernel
theorem dX11_size_13 : decode cX11_size 13 = .ok (.ishr, 1) := by decide +kernel
theorem dX11_size_14 : decode cX11_size 14 = .ok (.iconst 1, 1) := by decide +kernel
theorem dX11_size_15 : decode cX11_size 15 = .ok (.iand, 1) := by decide +kernel
theorem dX11_size_16 : decode cX11_size 16 = .ok (.iadd, 1) := by decide +kernel
theorem dX11_size_17 : decode cX11_size 17 = .ok (.istore_n 1, 1) := by decide +kernel
theorem dX11_size_18 : decode cX11_size 18 = .ok (.iinc 2 1, 3) := by decide +kernel
theorem dX11_size_21 : decode cX11_size 21 = .ok (.goto (-17), 3) := by decide +kernel
theorem dX11_size_24 : decode cX11_size 24 = .ok (.iload_n 1, 1) := by decide +kernel
theorem dX11_size_25 : decode cX11_size 25 = .ok (.ireturn, 1) := by decide +kernel
theorem dX11_lowest_0 : decode cX11_lowest 0 = .ok (.lload_n 0, 1) := by decide +kernel
theorem dX11_lowest_1 : decode cX11_lowest 1 = .ok (.lstore 5, 2) := by decide +kernel
theorem dX11_lowest_3 : decode cX11_lowest 3 = .ok (.lload_n 2, 1) := by decide +kernel
theorem dX11_lowest_4 : decode cX11_lowest 4 = .ok (.lstore 7, 2) := by decide +kernel
theorem dX11_lowest_6 : decode cX11_lowest 6 = .ok (.lload 7, 2) := by decide +kernel
theorem dX11_lowest_8 : decode cX11_lowest 8 = .ok (.lconst 0, 1) := by decide +kernel
theorem dX11_lowest_9 : decode cX11_lowest 9 = .ok (.lcmp, 1) := by decide +kernel
theorem dX11_lowest_10 : decode cX11_lowest 10 = .ok (.ifCond .eq 21, 3) := by decide +kernel
theorem dX11_lowest_13 : decode cX11_lowest 13 = .ok (.lload 5, 2) := by decide +kernel
theorem dX11_lowest_15 : decode cX11_lowest 15 = .ok (.lload 7, 2) := by decide +kernel
theorem dX11_lowest_17 : decode cX11_lowest 17 = .ok (.lrem, 1) := by decide +kernel
theorem dX11_lowest_18 : decode cX11_lowest 18 = .ok (.lstore 9, 2) := by decide +kernel
theorem dX11_lowest_20 : decode cX11_lowest 20 = .ok (.lload 7, 2) := by decide +kernel
theorem dX11_lowest_22 : decode cX11_lowest 22 = .ok (.lstore 5, 2) := by decide +kernel
theorem dX11_lowest_24 : decode cX11_lowest 24 = .ok (.lload 9, 2) := by decide +kernel
theorem dX11_lowest_26 : decode cX11_lowest 26 = .ok (.lstore 7, 2) := by decide +kernel
theorem dX11_lowest_28 : decode cX11_lowest 28 = .ok (.goto (-22), 3) := by decide +kernel
theorem dX11_lowest_31 : decode cX11_lowest 31 = .ok (.iload 4, 2) := by decide +kernel
theorem dX11_lowest_33 : decode cX11_lowest 33 = .ok (.ifCond .ne 10, 3) := by decide +kernel
theorem dX11_lowest_36 : decode cX11_lowest 36 = .ok (.lload_n 0, 1) := by decide +kernel
theorem dX11_lowest_37 : decode cX11_lowest 37 = .ok (.lload 5, 2) := by decide +kernel
theorem dX11_lowest_39 : decode cX11_lowest 39 = .ok (.ldiv, 1) := by decide +kernel
theorem dX11_lowest_40 : decode cX11_lowest 40 = .ok (.goto 7, 3) := by decide +kernel
theorem dX11_lowest_43 : decode cX11_lowest 43 = .ok (.lload_n 2, 1) := by decide +kernel
theorem dX11_lowest_44 : decode cX11_lowest 44 = .ok (.lload 5, 2) := by decide +kernel
theorem dX11_lowest_46 : decode cX11_lowest 46 = .ok (.ldiv, 1) := by decide +kernel
theorem dX11_lowest_47 : decode cX11_lowest 47 = .ok (.lreturn, 1) := by decide +kernel
set_option maxRecDepth 20000 in
theorem ggX11_letter_X11_within : GoodIn wsX11_letter wsX11_within := goodIn_r _ [6] (by decide +kernel) (by decide +kernel)
set_option maxRecDepth 20000 in
theorem gX11_letter_X11_within : GoodIn wsX11_letter (va_wsS RX11 51 yX11_within wsX11_within) := goodIn_app (goodIn_of _ (by decide +kernel)) ggX11_letter_X11_within
theorem dX11_letter_0 : decode cX11_letter 0 = .ok (.iload_n 1, 1) := by decide +kernel
theorem dX11_letter_1 : decode cX11_letter 1 = .ok (.bipush 32, 2) := by decide +kernel
theorem dX11_letter_3 : decode cX11_letter 3 = .ok (.bipush 126, 2) := by decide +kernel
theorem dX11_letter_5 : decode cX11_letter 5 = .ok (.invokestatic 51, 3) := by decide +kernel
theorem dX11_letter_8 : decode cX11_letter 8 = .ok (.ifCond .ne 6, 3) := by decide +kernel
theorem dX11_letter_11 : decode cX11_letter 11 = .ok (.bipush (-102), 2) := by decide +kernel
theorem dX11_letter_13 : decode cX11_letter 13 = .ok (.ireturn, 1) := by decide +kernel
theorem dX11_letter_14 : decode cX11_letter 14 = .ok (.aload_n 0, 1) := by decide +kernel
theorem dX11_letter_15 : decode cX11_letter 15 = .ok (.getfield 55, 3) := by decide +kernel
theorem dX11_letter_18 : decode cX11_letter 18 = .ok (.bipush 14, 2) := by decide +kernel
theorem dX11_letter_20 : decode cX11_letter 20 = .ok (.if_icmp .ne 6, 3) := by decide +kernel
theorem dX11_letter_23 : decode cX11_letter 23 = .ok (.bipush (-104), 2) := by decide +kernel
theorem dX11_letter_25 : decode cX11_letter 25 = .ok (.ireturn, 1) := by decide +kernel
theorem dX11_letter_26 : decode cX11_letter 26 = .ok (.aload_n 0, 1) := by decide +kernel
theorem dX11_letter_27 : decode cX11_letter 27 = .ok (.getfield 25, 3) := by decide +kernel
theorem dX11_letter_30 : decode cX11_letter 30 = .ok (.aload_n 0, 1) := by decide +kernel
theorem dX11_letter_31 : decode cX11_letter 31 = .ok (.getfield 55, 3) := by decide +kernel
theorem dX11_letter_34 : decode cX11_letter 34 = .ok (.iload_n 1, 1) := by decide +kernel
theorem dX11_letter_35 : decode cX11_letter 35 = .ok (.i2b, 1) := by decide +kernel
theorem dX11_letter_36 : decode cX11_letter 36 = .ok (.bastore, 1) := by decide +kernel
theorem dX11_letter_37 : decode cX11_letter 37 = .ok (.aload_n 0, 1) := by decide +kernel
theorem dX11_letter_38 : decode cX11_letter 38 = .ok (.dup, 1) := by decide +kernel
theorem dX11_letter_39 : decode cX11_letter 39 = .ok (.getfield 55, 3) := by decide +kernel
theorem dX11_letter_42 : decode cX11_letter 42 = .ok (.iconst 1, 1) := by decide +kernel
theorem dX11_letter_43 : decode cX11_letter 43 = .ok (.iadd, 1) := by decide +kernel
theorem dX11_letter_44 : decode cX11_letter 44 = .ok (.putfield 55, 3) := by decide +kernel
theorem dX11_letter_47 : decode cX11_letter 47 = .ok (.aload_n 0, 1) := by decide +kernel
theorem dX11_letter_48 : decode cX11_letter 48 = .ok (.getfield 55, 3) := by decide +kernel
theorem dX11_letter_51 : decode cX11_letter 51 = .ok (.ireturn, 1) := by decide +kernel
theorem dX11_blank_0 : decode cX11_blank 0 = .ok (.aload_n 0, 1) := by decide +kernel
theorem dX11_blank_1 : decode cX11_blank 1 = .ok (.getfield 55, 3) := by decide +kernel
theorem dX11_blank_4 : decode cX11_blank 4 = .ok (.istore_n 1, 1) := by decide +kernel
theorem dX11_blank_5 : decode cX11_blank 5 = .ok (.aload_n 0, 1) := by decide +kernel
theorem dX11_blank_6 : decode cX11_blank 6 = .ok (.iconst 0, 1) := by decide +kernel
theorem dX11_blank_7 : decode cX11_blank 7 = .ok (.putfield 55, 3) := by decide +kernel
theorem dX11_blank_10 : decode cX11_blank 10 = .ok (.iload_n 1, 1) := by decide +kernel
theorem dX11_blank_11 : decode cX11_blank 11 = .ok (.ireturn, 1) := by decide +kernel
theorem dX11_figure_0 : decode cX11_figure 0 = .ok (.aload_n 0, 1) := by decide +kernel
theorem dX11_figure_1 : decode cX11_figure 1 = .ok (.getfield 25, 3) := by decide +kernel
theorem dX11_figure_4 : decode cX11_figure 4 = .ok (.iload_n 1, 1) := by decide +kernel
theorem dX11_figure_5 : decode cX11_figure 5 = .ok (.baload, 1) := by decide +kernel
theorem dX11_figure_6 : decode cX11_figure 6 = .ok (.bipush 48, 2) := by decide +kernel
theorem dX11_figure_8 : decode cX11_figure 8 = .ok (.isub, 1) := by decide +kernel
theorem dX11_figure_9 : decode cX11_figure 9 = .ok (.ireturn, 1) := by decide +kernel
set_option maxRecDepth 20000 in
theorem ggX11_isGood_X11_figure : GoodIn wsX11_isGood wsX11_figure := goodIn_r _ [6, 1, 10, 11, 12, 13, 14, 15, 16, 17, 18, 19, 20, 21, 22, 23, 24, 25, 26, 27, 28, 29, 30, 31, 32, 33, 34, 35, 36, 37, 38, 39, 40, 41] (by decide +kernel) (by decide +kernel)
set_option maxRecDepth 20000 in
theorem gX11_isGood_X11_figure : GoodIn wsX11_isGood (wsV RX11 59 RX11 yX11_figure wsX11_figure) := goodIn_app (goodIn_of _ (by decide +kernel)) ggX11_isGood_X11_figure
set_option maxRecDepth 20000 in
theorem ggX11_isGood_X11_within : GoodIn wsX11_isGood wsX11_within := goodIn_r _ [9] (by decide +kernel) (by decide +kernel)
set_option maxRecDepth 20000 in
theorem gX11_isGood_X11_within : GoodIn wsX11_isGood (va_wsS RX11 51 yX11_within wsX11_within) := goodIn_app (goodIn_of _ (by decide +kernel)) ggX11_isGood_X11_within
theorem dX11_isGood_0 : decode cX11_isGood 0 = .ok (.iload_n 1, 1) := by decide +kernel
theorem dX11_isGood_1 : decode cX11_isGood 1 = .ok (.tableswitch 117 0 6 #[43, 55, 70, 87, 87, 87, 99], 43) := by decide +kernel
theorem dX11_isGood_44 : decode cX11_isGood 44 = .ok (.aload_n 0, 1) := by decide +kernel
theorem dX11_isGood_45 : decode cX11_isGood 45 = .ok (.iconst 0, 1) := by decide +kernel
theorem dX11_isGood_46 : decode cX11_isGood 46 = .ok (.invokevirtual 59, 3) := by decide +kernel
theorem dX11_isGood_49 : decode cX11_isGood 49 = .ok (.iconst 2, 1) := by decide +kernel
theorem dX11_isGood_50 : decode cX11_isGood 50 = .ok (.bipush 6, 2) := by decide +kernel
theorem dX11_isGood_52 : decode cX11_isGood 52 = .ok (.invokestatic 51, 3) := by decide +kernel
theorem dX11_isGood_55 : decode cX11_isGood 55 = .ok (.ireturn, 1) := by decide +kernel
theorem dX11_isGood_56 : decode cX11_isGood 56 = .ok (.aload_n 0, 1) := by decide +kernel
theorem dX11_isGood_57 : decode cX11_isGood 57 = .ok (.iconst 1, 1) := by decide +kernel
theorem dX11_isGood_58 : decode cX11_isGood 58 = .ok (.invokevirtual 59, 3) := by decide +kernel
theorem dX11_isGood_61 : decode cX11_isGood 61 = .ok (.iconst 0, 1) := by decide +kernel
theorem dX11_isGood_62 : decode cX11_isGood 62 = .ok (.aload_n 0, 1) := by decide +kernel
theorem dX11_isGood_63 : decode cX11_isGood 63 = .ok (.iconst 0, 1) := by decide +kernel
theorem dX11_isGood_64 : decode cX11_isGood 64 = .ok (.invokevirtual 59, 3) := by decide +kernel
theorem dX11_isGood_67 : decode cX11_isGood 67 = .ok (.invokestatic 51, 3) := by decide +kernel
theorem dX11_isGood_70 : decode cX11_isGood 70 = .ok (.ireturn, 1) := by decide +kernel
theorem dX11_isGood_71 : decode cX11_isGood 71 = .ok (.aload_n 0, 1) := by decide +kernel
theorem dX11_isGood_72 : decode cX11_isGood 72 = .ok (.getfield 25, 3) := by decide +kernel
theorem dX11_isGood_75 : decode cX11_isGood 75 = .ok (.iconst 2, 1) := by decide +kernel
theorem dX11_isGood_76 : decode cX11_isGood 76 = .ok (.baload, 1) := by decide +kernel
theorem dX11_isGood_77 : decode cX11_isGood 77 = .ok (.bipush 58, 2) := by decide +kernel
theorem dX11_isGood_79 : decode cX11_isGood 79 = .ok (.if_icmp .ne 7, 3) := by decide +kernel
theorem dX11_isGood_82 : decode cX11_isGood 82 = .ok (.iconst 1, 1) := by decide +kernel
theorem dX11_isGood_83 : decode cX11_isGood 83 = .ok (.goto 4, 3) := by decide +kernel
theorem dX11_isGood_86 : decode cX11_isGood 86 = .ok (.iconst 0, 1) := by decide +kernel
theorem dX11_isGood_87 : decode cX11_isGood 87 = .ok (.ireturn, 1) := by decide +kernel
theorem dX11_isGood_88 : decode cX11_isGood 88 = .ok (.aload_n 0, 1) := by decide +kernel
theorem dX11_isGood_89 : decode cX11_isGood 89 = .ok (.iload_n 1, 1) := by decide +kernel
theorem dX11_isGood_90 : decode cX11_isGood 90 = .ok (.invokevirtual 59, 3) := by decide +kernel
theorem dX11_isGood_93 : decode cX11_isGood 93 = .ok (.iconst 0, 1) := by decide +kernel
theorem dX11_isGood_94 : decode cX11_isGood 94 = .ok (.bipush 9, 2) := by decide +kernel
theorem dX11_isGood_96 : decode cX11_isGood 96 = .ok (.invokestatic 51, 3) := by decide +kernel
theorem dX11_isGood_99 : decode cX11_isGood 99 = .ok (.ireturn, 1) := by decide +kernel
theorem dX11_isGood_100 : decode cX11_isGood 100 = .ok (.aload_n 0, 1) := by decide +kernel
theorem dX11_isGood_101 : decode cX11_isGood 101 = .ok (.getfield 25, 3) := by decide +kernel
theorem dX11_isGood_104 : decode cX11_isGood 104 = .ok (.bipush 6, 2) := by decide +kernel
theorem dX11_isGood_106 : decode cX11_isGood 106 = .ok (.baload, 1) := by decide +kernel
theorem dX11_isGood_107 : decode cX11_isGood 107 = .ok (.bipush 59, 2) := by decide +kernel
theorem dX11_isGood_109 : decode cX11_isGood 109 = .ok (.if_icmp .ne 7, 3) := by decide +kernel
theorem dX11_isGood_112 : decode cX11_isGood 112 = .ok (.iconst 1, 1) := by decide +kernel
theorem dX11_isGood_113 : decode cX11_isGood 113 = .ok (.goto 4, 3) := by decide +kernel
theorem dX11_isGood_116 : decode cX11_isGood 116 = .ok (.iconst 0, 1) := by decide +kernel
theorem dX11_isGood_117 : decode cX11_isGood 117 = .ok (.ireturn, 1) := by decide +kernel
theorem dX11_isGood_118 : decode cX11_isGood 118 = .ok (.iload_n 1, 1) := by decide +kernel
theorem dX11_isGood_119 : decode cX11_isGood 119 = .ok (.bipush 7, 2) := by decide +kernel
theorem dX11_isGood_121 : decode cX11_isGood 121 = .ok (.aload_n 0, 1) := by decide +kernel
theorem dX11_isGood_122 : decode cX11_isGood 122 = .ok (.iconst 0, 1) := by decide +kernel
theorem dX11_isGood_123 : decode cX11_isGood 123 = .ok (.invokevirtual 59, 3) := by decide +kernel
theorem dX11_isGood_126 : decode cX11_isGood 126 = .ok (.iadd, 1) := by decide +kernel
theorem dX11_isGood_127 : decode cX11_isGood 127 = .ok (.if_icmp .ge 20, 3) := by decide +kernel
theorem dX11_isGood_130 : decode cX11_isGood 130 = .ok (.aload_n 0, 1) := by decide +kernel
theorem dX11_isGood_131 : decode cX11_isGood 131 = .ok (.iload_n 1, 1) := by decide +kernel
theorem dX11_isGood_132 : decode cX11_isGood 132 = .ok (.invokevirtual 59, 3) := by decide +kernel
theorem dX11_isGood_135 : decode cX11_isGood 135 = .ok (.iconst 1, 1) := by decide +kernel
theorem dX11_isGood_136 : decode cX11_isGood 136 = .ok (.iconst 4, 1) := by decide +kernel
theorem dX11_isGood_137 : decode cX11_isGood 137 = .ok (.invokestatic 51, 3) := by decide +kernel
theorem dX11_isGood_140 : decode cX11_isGood 140 = .ok (.ifCond .eq 7, 3) := by decide +kernel
theorem dX11_isGood_143 : decode cX11_isGood 143 = .ok (.iconst 1, 1) := by decide +kernel
theorem dX11_isGood_144 : decode cX11_isGood 144 = .ok (.goto 4, 3) := by decide +kernel
theorem dX11_isGood_147 : decode cX11_isGood 147 = .ok (.iconst 0, 1) := by decide +kernel
theorem dX11_isGood_148 : decode cX11_isGood 148 = .ok (.ireturn, 1) := by decide +kernel
set_option maxRecDepth 20000 in
theorem ggX11_faultNow_X11_isGood : GoodIn wsX11_faultNow wsX11_isGood := goodIn_r _ [6, 7, 8, 9, 10, 5, 11, 12, 13, 14, 15, 16, 17, 18, 19, 20, 21, 22, 23, 24, 25, 26, 27, 28, 29, 30, 31, 32, 33, 34, 35, 36, 37, 38, 39, 40, 41, 42, 43, 44, 45, 46] (by decide +kernel) (by decide +kernel)
set_option maxRecDepth 20000 in
theorem gX11_faultNow_X11_isGood : GoodIn wsX11_faultNow (wsV RX11 63 RX11 yX11_isGood wsX11_isGood) := goodIn_app (goodIn_of _ (by decide +kernel)) ggX11_faultNow_X11_isGood
theorem dX11_faultNow_0 : decode cX11_faultNow 0 = .ok (.iconst 0, 1) := by decide +kernel
theorem dX11_faultNow_1 : decode cX11_faultNow 1 = .ok (.istore_n 1, 1) := by decide +kernel
theorem dX11_faultNow_2 : decode cX11_faultNow 2 = .ok (.iload_n 1, 1) := by decide +kernel
theorem dX11_faultNow_3 : decode cX11_faultNow 3 = .ok (.aload_n 0, 1) := by decide +kernel
theorem dX11_faultNow_4 : decode cX11_faultNow 4 = .ok (.getfield 55, 3) := by decide +kernel
theorem dX11_faultNow_7 : decode cX11_faultNow 7 = .ok (.if_icmp .ge 17, 3) := by decide +kernel
theorem dX11_faultNow_10 : decode cX11_faultNow 10 = .ok (.aload_n 0, 1) := by decide +kernel
theorem dX11_faultNow_11 : decode cX11_faultNow 11 = .ok (.iload_n 1, 1) := by decide +kernel
theorem dX11_faultNow_12 : decode cX11_faultNow 12 = .ok (.invokevirtual 63, 3) := by decide +kernel
theorem dX11_faultNow_15 : decode cX11_faultNow 15 = .ok (.ifCond .eq 9, 3) := by decide +kernel
theorem dX11_faultNow_18 : decode cX11_faultNow 18 = .ok (.iinc 1 1, 3) := by decide +kernel
theorem dX11_faultNow_21 : decode cX11_faultNow 21 = .ok (.goto (-19), 3) := by decide +kernel
theorem dX11_faultNow_24 : decode cX11_faultNow 24 = .ok (.iload_n 1, 1) := by decide +kernel
theorem dX11_faultNow_25 : decode cX11_faultNow 25 = .ok (.ireturn, 1) := by decide +kernel
set_option maxRecDepth 20000 in
theorem ggX11_fault_X11_faultNow : GoodIn wsX11_fault wsX11_faultNow := goodIn_r _ [5, 6, 7, 8, 9, 4, 10, 11, 12, 13, 14, 15, 16, 17, 18, 19, 20, 21, 22, 23, 24, 25, 26, 27, 28, 29, 30, 31, 32, 33, 34, 35, 36, 37, 38, 39, 40, 41, 42, 43, 44, 45, 46, 47, 48, 49, 50] (by decide +kernel) (by decide +kernel)
set_option maxRecDepth 20000 in
theorem gX11_fault_X11_faultNow : GoodIn wsX11_fault (wsV RX11 67 RX11 yX11_faultNow wsX11_faultNow) := goodIn_app (goodIn_of _ (by decide +kernel)) ggX11_fault_X11_faultNow
theorem dX11_fault_0 : decode cX11_fault 0 = .ok (.aload_n 0, 1) := by decide +kernel
theorem dX11_fault_1 : decode cX11_fault 1 = .ok (.invokevirtual 67, 3) := by decide +kernel
theorem dX11_fault_4 : decode cX11_fault 4 = .ok (.ireturn, 1) := by decide +kernel
set_option maxRecDepth 20000 in
theorem ggX11_kitchen_X11_faultNow : GoodIn wsX11_kitchen wsX11_faultNow := goodIn_r _ [19, 1, 20, 21, 22, 18, 23, 24, 25, 26, 27, 28, 29, 30, 31, 32, 33, 34, 35, 36, 37, 38, 39, 40, 41, 42, 43, 44, 45, 46, 47, 48, 49, 50, 51, 52, 53, 54, 55, 56, 57, 58, 59, 60, 61, 62, 63] (by decide +kernel) (by decide +kernel)
set_option maxRecDepth 20000 in
theorem gX11_kitchen_X11_faultNow : GoodIn wsX11_kitchen (wsV RX11 67 RX11 yX11_faultNow wsX11_faultNow) := goodIn_app (goodIn_of _ (by decide +kernel)) ggX11_kitchen_X11_faultNow
set_option maxRecDepth 20000 in
theorem ggX11_kitchen_X11_figure : GoodIn wsX11_kitchen wsX11_figure := goodIn_r _ [28, 24, 32, 33, 34, 35, 36, 37, 38, 39, 40, 41, 42, 43, 44, 45, 46, 47, 48, 49, 50, 51, 52, 53, 54, 55, 56, 57, 58, 59, 60, 61, 62, 63] (by decide +kernel) (by decide +kernel)
set_option maxRecDepth 20000 in
theorem gX11_kitchen_X11_figure : GoodIn wsX11_kitchen (wsV RX11 59 RX11 yX11_figure wsX11_figure) := goodIn_app (goodIn_of _ (by decide +kernel)) ggX11_kitchen_X11_figure
theorem dX11_kitchen_0 : decode cX11_kitchen 0 = .ok (.aload_n 0, 1) := by decide +kernel
theorem dX11_kitchen_1 : decode cX11_kitchen 1 = .ok (.invokevirtual 67, 3) := by decide +kernel
theorem dX11_kitchen_4 : decode cX11_kitchen 4 = .ok (.aload_n 0, 1) := by decide +kernel
theorem dX11_kitchen_5 : decode cX11_kitchen 5 = .ok (.getfield 55, 3) := by decide +kernel
theorem dX11_kitchen_8 : decode cX11_kitchen 8 = .ok (.if_icmp .ne 27, 3) := by decide +kernel
theorem dX11_kitchen_11 : decode cX11_kitchen 11 = .ok (.aload_n 0, 1) := by decide +kernel
theorem dX11_kitchen_12 : decode cX11_kitchen 12 = .ok (.getfield 55, 3) := by decide +kernel
theorem dX11_kitchen_15 : decode cX11_kitchen 15 = .ok (.bipush 9, 2) := by decide +kernel
theorem dX11_kitchen_17 : decode cX11_kitchen 17 = .ok (.if_icmp .lt 18, 3) := by decide +kernel
theorem dX11_kitchen_20 : decode cX11_kitchen 20 = .ok (.aload_n 0, 1) := by decide +kernel
theorem dX11_kitchen_21 : decode cX11_kitchen 21 = .ok (.getfield 55, 3) := by decide +kernel
theorem dX11_kitchen_24 : decode cX11_kitchen 24 = .ok (.bipush 7, 2) := by decide +kernel
theorem dX11_kitchen_26 : decode cX11_kitchen 26 = .ok (.aload_n 0, 1) := by decide +kernel
theorem dX11_kitchen_27 : decode cX11_kitchen 27 = .ok (.iconst 0, 1) := by decide +kernel
theorem dX11_kitchen_28 : decode cX11_kitchen 28 = .ok (.invokevirtual 59, 3) := by decide +kernel
theorem dX11_kitchen_31 : decode cX11_kitchen 31 = .ok (.iadd, 1) := by decide +kernel
theorem dX11_kitchen_32 : decode cX11_kitchen 32 = .ok (.if_icmp .eq 6, 3) := by decide +kernel
theorem dX11_kitchen_35 : decode cX11_kitchen 35 = .ok (.bipush (-103), 2) := by decide +kernel
theorem dX11_kitchen_37 : decode cX11_kitchen 37 = .ok (.ireturn, 1) := by decide +kernel
theorem dX11_kitchen_38 : decode cX11_kitchen 38 = .ok (.aload_n 0, 1) := by decide +kernel
theorem dX11_kitchen_39 : decode cX11_kitchen 39 = .ok (.aload_n 0, 1) := by decide +kernel
theorem dX11_kitchen_40 : decode cX11_kitchen 40 = .ok (.iconst 0, 1) := by decide +kernel
theorem dX11_kitchen_41 : decode cX11_kitchen 41 = .ok (.invokevirtual 59, 3) := by decide +kernel
theorem dX11_kitchen_44 : decode cX11_kitchen 44 = .ok (.putfield 71, 3) := by decide +kernel
theorem dX11_kitchen_47 : decode cX11_kitchen 47 = .ok (.aload_n 0, 1) := by decide +kernel
theorem dX11_kitchen_48 : decode cX11_kitchen 48 = .ok (.aload_n 0, 1) := by decide +kernel
theorem dX11_kitchen_49 : decode cX11_kitchen 49 = .ok (.iconst 1, 1) := by decide +kernel
theorem dX11_kitchen_50 : decode cX11_kitchen 50 = .ok (.invokevirtual 59, 3) := by decide +kernel
theorem dX11_kitchen_53 : decode cX11_kitchen 53 = .ok (.putfield 74, 3) := by decide +kernel
theorem dX11_kitchen_56 : decode cX11_kitchen 56 = .ok (.aload_n 0, 1) := by decide +kernel
theorem dX11_kitchen_57 : decode cX11_kitchen 57 = .ok (.aload_n 0, 1) := by decide +kernel
theorem dX11_kitchen_58 : decode cX11_kitchen 58 = .ok (.iconst 3, 1) := by decide +kernel
theorem dX11_kitchen_59 : decode cX11_kitchen 59 = .ok (.invokevirtual 59, 3) := by decide +kernel
theorem dX11_kitchen_62 : decode cX11_kitchen 62 = .ok (.putfield 77, 3) := by decide +kernel
theorem dX11_kitchen_65 : decode cX11_kitchen 65 = .ok (.aload_n 0, 1) := by decide +kernel
theorem dX11_kitchen_66 : decode cX11_kitchen 66 = .ok (.aload_n 0, 1) := by decide +kernel
theorem dX11_kitchen_67 : decode cX11_kitchen 67 = .ok (.iconst 4, 1) := by decide +kernel
theorem dX11_kitchen_68 : decode cX11_kitchen 68 = .ok (.invokevirtual 59, 3) := by decide +kernel
theorem dX11_kitchen_71 : decode cX11_kitchen 71 = .ok (.putfield 80, 3) := by decide +kernel
theorem dX11_kitchen_74 : decode cX11_kitchen 74 = .ok (.aload_n 0, 1) := by decide +kernel
theorem dX11_kitchen_75 : decode cX11_kitchen 75 = .ok (.aload_n 0, 1) := by decide +kernel
theorem dX11_kitchen_76 : decode cX11_kitchen 76 = .ok (.iconst 5, 1) := by decide +kernel
theorem dX11_kitchen_77 : decode cX11_kitchen 77 = .ok (.invokevirtual 59, 3) := by decide +kernel
theorem dX11_kitchen_80 : decode cX11_kitchen 80 = .ok (.putfield 83, 3) := by decide +kernel
theorem dX11_kitchen_83 : decode cX11_kitchen 83 = .ok (.iconst 0, 1) := by decide +kernel
theorem dX11_kitchen_84 : decode cX11_kitchen 84 = .ok (.istore_n 1, 1) := by decide +kernel
theorem dX11_kitchen_85 : decode cX11_kitchen 85 = .ok (.iload_n 1, 1) := by decide +kernel
theorem dX11_kitchen_86 : decode cX11_kitchen 86 = .ok (.bipush 6, 2) := by decide +kernel
theorem dX11_kitchen_88 : decode cX11_kitchen 88 = .ok (.if_icmp .ge 56, 3) := by decide +kernel
theorem dX11_kitchen_91 : decode cX11_kitchen 91 = .ok (.aload_n 0, 1) := by decide +kernel
theorem dX11_kitchen_92 : decode cX11_kitchen 92 = .ok (.getfield 7, 3) := by decide +kernel
theorem dX11_kitchen_95 : decode cX11_kitchen 95 = .ok (.iload_n 1, 1) := by decide +kernel
theorem dX11_kitchen_96 : decode cX11_kitchen 96 = .ok (.iload_n 1, 1) := by decide +kernel
theorem dX11_kitchen_97 : decode cX11_kitchen 97 = .ok (.aload_n 0, 1) := by decide +kernel
theorem dX11_kitchen_98 : decode cX11_kitchen 98 = .ok (.getfield 71, 3) := by decide +kernel
theorem dX11_kitchen_101 : decode cX11_kitchen 101 = .ok (.if_icmp .ge 14, 3) := by decide +kernel
theorem dX11_kitchen_104 : decode cX11_kitchen 104 = .ok (.aload_n 0, 1) := by decide +kernel
theorem dX11_kitchen_105 : decode cX11_kitchen 105 = .ok (.bipush 7, 2) := by decide +kernel
theorem dX11_kitchen_107 : decode cX11_kitchen 107 = .ok (.iload_n 1, 1) := by decide +kernel
theorem dX11_kitchen_108 : decode cX11_kitchen 108 = .ok (.iadd, 1) := by decide +kernel
theorem dX11_kitchen_109 : decode cX11_kitchen 109 = .ok (.invokevirtual 59, 3) := by decide +kernel
theorem dX11_kitchen_112 : decode cX11_kitchen 112 = .ok (.goto 4, 3) := by decide +kernel
theorem dX11_kitchen_115 : decode cX11_kitchen 115 = .ok (.iconst 0, 1) := by decide +kernel
theorem dX11_kitchen_116 : decode cX11_kitchen 116 = .ok (.iastore, 1) := by decide +kernel
theorem dX11_kitchen_117 : decode cX11_kitchen 117 = .ok (.aload_n 0, 1) := by decide +kernel
theorem dX11_kitchen_118 : decode cX11_kitchen 118 = .ok (.getfield 13, 3) := by decide +kernel
theorem dX11_kitchen_121 : decode cX11_kitchen 121 = .ok (.iload_n 1, 1) := by decide +kernel
theorem dX11_kitchen_122 : decode cX11_kitchen 122 = .ok (.iconst 0, 1) := by decide +kernel
theorem dX11_kitchen_123 : decode cX11_kitchen 123 = .ok (.iastore, 1) := by decide +kernel
theorem dX11_kitchen_124 : decode cX11_kitchen 124 = .ok (.aload_n 0, 1) := by decide +kernel
theorem dX11_kitchen_125 : decode cX11_kitchen 125 = .ok (.getfield 16, 3) := by decide +kernel
theorem dX11_kitchen_128 : decode cX11_kitchen 128 = .ok (.iload_n 1, 1) := by decide +kernel
theorem dX11_kitchen_129 : decode cX11_kitchen 129 = .ok (.iconst 0, 1) := by decide +kernel
theorem dX11_kitchen_130 : decode cX11_kitchen 130 = .ok (.iastore, 1) := by decide +kernel
theorem dX11_kitchen_131 : decode cX11_kitchen 131 = .ok (.aload_n 0, 1) := by decide +kernel
theorem dX11_kitchen_132 : decode cX11_kitchen 132 = .ok (.getfield 19, 3) := by decide +kernel
theorem dX11_kitchen_135 : decode cX11_kitchen 135 = .ok (.iload_n 1, 1) := by decide +kernel
theorem dX11_kitchen_136 : decode cX11_kitchen 136 = .ok (.iconst (-1), 1) := by decide +kernel
theorem dX11_kitchen_137 : decode cX11_kitchen 137 = .ok (.iastore, 1) := by decide +kernel
theorem dX11_kitchen_138 : decode cX11_kitchen 138 = .ok (.iinc 1 1, 3) := by decide +kernel
theorem dX11_kitchen_141 : decode cX11_kitchen 141 = .ok (.goto (-56), 3) := by decide +kernel
theorem dX11_kitchen_144 : decode cX11_kitchen 144 = .ok (.aload_n 0, 1) := by decide +kernel
theorem dX11_kitchen_145 : decode cX11_kitchen 145 = .ok (.iconst 1, 1) := by decide +kernel
theorem dX11_kitchen_146 : decode cX11_kitchen 146 = .ok (.aload_n 0, 1) := by decide +kernel
theorem dX11_kitchen_147 : decode cX11_kitchen 147 = .ok (.getfield 71, 3) := by decide +kernel
theorem dX11_kitchen_150 : decode cX11_kitchen 150 = .ok (.ishl, 1) := by decide +kernel
theorem dX11_kitchen_151 : decode cX11_kitchen 151 = .ok (.iconst 1, 1) := by decide +kernel
theorem dX11_kitchen_152 : decode cX11_kitchen 152 = .ok (.isub, 1) := by decide +kernel
theorem dX11_kitchen_153 : decode cX11_kitchen 153 = .ok (.putfield 86, 3) := by decide +kernel
theorem dX11_kitchen_156 : decode cX11_kitchen 156 = .ok (.aload_n 0, 1) := by decide +kernel
theorem dX11_kitchen_157 : decode cX11_kitchen 157 = .ok (.iconst 0, 1) := by decide +kernel
theorem dX11_kitchen_158 : decode cX11_kitchen 158 = .ok (.putfield 89, 3) := by decide +kernel
theorem dX11_kitchen_161 : decode cX11_kitchen 161 = .ok (.aload_n 0, 1) := by decide +kernel
theorem dX11_kitchen_162 : decode cX11_kitchen 162 = .ok (.iconst 0, 1) := by decide +kernel
theorem dX11_kitchen_163 : decode cX11_kitchen 163 = .ok (.putfield 92, 3) := by decide +kernel
theorem dX11_kitchen_166 : decode cX11_kitchen 166 = .ok (.aload_n 0, 1) := by decide +kernel
theorem dX11_kitchen_167 : decode cX11_kitchen 167 = .ok (.dup, 1) := by decide +kernel
theorem dX11_kitchen_168 : decode cX11_kitchen 168 = .ok (.getfield 95, 3) := by decide +kernel
theorem dX11_kitchen_171 : decode cX11_kitchen 171 = .ok (.iconst 1, 1) := by decide +kernel
theorem dX11_kitchen_172 : decode cX11_kitchen 172 = .ok (.iadd, 1) := by decide +kernel
theorem dX11_kitchen_173 : decode cX11_kitchen 173 = .ok (.putfield 95, 3) := by decide +kernel
theorem dX11_kitchen_176 : decode cX11_kitchen 176 = .ok (.aload_n 0, 1) := by decide +kernel
theorem dX11_kitchen_177 : decode cX11_kitchen 177 = .ok (.iconst 0, 1) := by decide +kernel
theorem dX11_kitchen_178 : decode cX11_kitchen 178 = .ok (.putfield 55, 3) := by decide +kernel
theorem dX11_kitchen_181 : decode cX11_kitchen 181 = .ok (.aload_n 0, 1) := by decide +kernel
theorem dX11_kitchen_182 : decode cX11_kitchen 182 = .ok (.getfield 71, 3) := by decide +kernel
theorem dX11_kitchen_185 : decode cX11_kitchen 185 = .ok (.ireturn, 1) := by decide +kernel
set_option maxRecDepth 20000 in
theorem ggX11_isEgg_X11_within : GoodIn wsX11_isEgg wsX11_within := goodIn_r _ [5] (by decide +kernel) (by decide +kernel)
set_option maxRecDepth 20000 in
theorem gX11_isEgg_X11_within : GoodIn wsX11_isEgg (va_wsS RX11 51 yX11_within wsX11_within) := goodIn_app (goodIn_of _ (by decide +kernel)) ggX11_isEgg_X11_within
theorem dX11_isEgg_0 : decode cX11_isEgg 0 = .ok (.iload_n 1, 1) := by decide +kernel
theorem dX11_isEgg_1 : decode cX11_isEgg 1 = .ok (.iconst 0, 1) := by decide +kernel
theorem dX11_isEgg_2 : decode cX11_isEgg 2 = .ok (.aload_n 0, 1) := by decide +kernel
theorem dX11_isEgg_3 : decode cX11_isEgg 3 = .ok (.getfield 71, 3) := by decide +kernel
theorem dX11_isEgg_6 : decode cX11_isEgg 6 = .ok (.iconst 1, 1) := by decide +kernel
theorem dX11_isEgg_7 : decode cX11_isEgg 7 = .ok (.isub, 1) := by decide +kernel
theorem dX11_isEgg_8 : decode cX11_isEgg 8 = .ok (.invokestatic 51, 3) := by decide +kernel
theorem dX11_isEgg_11 : decode cX11_isEgg 11 = .ok (.ireturn, 1) := by decide +kernel
theorem dX11_eggNow_0 : decode cX11_eggNow 0 = .ok (.iload_n 2, 1) := by decide +kernel
theorem dX11_eggNow_1 : decode cX11_eggNow 1 = .ok (.tableswitch 61 0 3 #[31, 38, 47, 54], 31) := by decide +kernel
theorem dX11_eggNow_32 : decode cX11_eggNow 32 = .ok (.aload_n 0, 1) := by decide +kernel
theorem dX11_eggNow_33 : decode cX11_eggNow 33 = .ok (.getfield 7, 3) := by decide +kernel
theorem dX11_eggNow_36 : decode cX11_eggNow 36 = .ok (.iload_n 1, 1) := by decide +kernel
theorem dX11_eggNow_37 : decode cX11_eggNow 37 = .ok (.iaload, 1) := by decide +kernel
theorem dX11_eggNow_38 : decode cX11_eggNow 38 = .ok (.ireturn, 1) := by decide +kernel
theorem dX11_eggNow_39 : decode cX11_eggNow 39 = .ok (.aload_n 0, 1) := by decide +kernel
theorem dX11_eggNow_40 : decode cX11_eggNow 40 = .ok (.getfield 86, 3) := by decide +kernel
theorem dX11_eggNow_43 : decode cX11_eggNow 43 = .ok (.iload_n 1, 1) := by decide +kernel
theorem dX11_eggNow_44 : decode cX11_eggNow 44 = .ok (.ishr, 1) := by decide +kernel
theorem dX11_eggNow_45 : decode cX11_eggNow 45 = .ok (.iconst 1, 1) := by decide +kernel
theorem dX11_eggNow_46 : decode cX11_eggNow 46 = .ok (.iand, 1) := by decide +kernel
theorem dX11_eggNow_47 : decode cX11_eggNow 47 = .ok (.ireturn, 1) := by decide +kernel
theorem dX11_eggNow_48 : decode cX11_eggNow 48 = .ok (.aload_n 0, 1) := by decide +kernel
theorem dX11_eggNow_49 : decode cX11_eggNow 49 = .ok (.getfield 13, 3) := by decide +kernel
theorem dX11_eggNow_52 : decode cX11_eggNow 52 = .ok (.iload_n 1, 1) := by decide +kernel
theorem dX11_eggNow_53 : decode cX11_eggNow 53 = .ok (.iaload, 1) := by decide +kernel
theorem dX11_eggNow_54 : decode cX11_eggNow 54 = .ok (.ireturn, 1) := by decide +kernel
theorem dX11_eggNow_55 : decode cX11_eggNow 55 = .ok (.aload_n 0, 1) := by decide +kernel
theorem dX11_eggNow_56 : decode cX11_eggNow 56 = .ok (.getfield 16, 3) := by decide +kernel
theorem dX11_eggNow_59 : decode cX11_eggNow 59 = .ok (.iload_n 1, 1) := by decide +kernel
theorem dX11_eggNow_60 : decode cX11_eggNow 60 = .ok (.iaload, 1) := by decide +kernel
theorem dX11_eggNow_61 : decode cX11_eggNow 61 = .ok (.ireturn, 1) := by decide +kernel
theorem dX11_eggNow_62 : decode cX11_eggNow 62 = .ok (.aload_n 0, 1) := by decide +kernel
theorem dX11_eggNow_63 : decode cX11_eggNow 63 = .ok (.getfield 19, 3) := by decide +kernel
theorem dX11_eggNow_66 : decode cX11_eggNow 66 = .ok (.iload_n 1, 1) := by decide +kernel
theorem dX11_eggNow_67 : decode cX11_eggNow 67 = .ok (.iaload, 1) := by decide +kernel
theorem dX11_eggNow_68 : decode cX11_eggNow 68 = .ok (.ireturn, 1) := by decide +kernel
set_option maxRecDepth 20000 in
theorem ggX11_egg_X11_isEgg : GoodIn wsX11_egg wsX11_isEgg := goodIn_r _ [5, 6, 7, 8, 4, 9, 19, 20, 21, 22, 23, 24, 25, 26, 27, 28, 29, 30, 31, 32, 33, 34, 35, 36, 37, 38, 39, 40, 41, 42, 43, 44, 45, 46, 47, 48, 49, 50] (by decide +kernel) (by decide +kernel)
set_option maxRecDepth 20000 in
theorem gX11_egg_X11_isEgg : GoodIn wsX11_egg (wsV RX11 98 RX11 yX11_isEgg wsX11_isEgg) := goodIn_app (goodIn_of _ (by decide +kernel)) ggX11_egg_X11_isEgg
set_option maxRecDepth 20000 in
theorem ggX11_egg_X11_within : GoodIn wsX11_egg wsX11_within := goodIn_r _ [9] (by decide +kernel) (by decide +kernel)
set_option maxRecDepth 20000 in
theorem gX11_egg_X11_within : GoodIn wsX11_egg (va_wsS RX11 51 yX11_within wsX11_within) := goodIn_app (goodIn_of _ (by decide +kernel)) ggX11_egg_X11_within
set_option maxRecDepth 20000 in
theorem ggX11_egg_X11_eggNow : GoodIn wsX11_egg wsX11_eggNow := goodIn_r _ [13, 14, 15, 16, 17, 18, 19, 20, 21, 22, 23, 24, 25, 26, 27, 28, 29, 30, 31, 32, 33, 34, 35, 36, 37, 38, 39, 40, 41, 42, 43, 44, 45, 46, 47, 48, 49, 50] (by decide +kernel) (by decide +kernel)
set_option maxRecDepth 20000 in
theorem gX11_egg_X11_eggNow : GoodIn wsX11_egg (wsV RX11 101 RX11 yX11_eggNow wsX11_eggNow) := goodIn_app (goodIn_of _ (by decide +kernel)) ggX11_egg_X11_eggNow
theorem dX11_egg_0 : decode cX11_egg 0 = .ok (.aload_n 0, 1) := by decide +kernel
theorem dX11_egg_1 : decode cX11_egg 1 = .ok (.iload_n 1, 1) := by decide +kernel
theorem dX11_egg_2 : decode cX11_egg 2 = .ok (.invokevirtual 98, 3) := by decide +kernel
theorem dX11_egg_5 : decode cX11_egg 5 = .ok (.ifCond .ne 8, 3) := by decide +kernel
theorem dX11_egg_8 : decode cX11_egg 8 = .ok (.bipush (-101), 2) := by decide +kernel
theorem dX11_egg_10 : decode cX11_egg 10 = .ok (.goto 23, 3) := by decide +kernel
theorem dX11_egg_13 : decode cX11_egg 13 = .ok (.iload_n 2, 1) := by decide +kernel
theorem dX11_egg_14 : decode cX11_egg 14 = .ok (.iconst 0, 1) := by decide +kernel
theorem dX11_egg_15 : decode cX11_egg 15 = .ok (.iconst 4, 1) := by decide +kernel
theorem dX11_egg_16 : decode cX11_egg 16 = .ok (.invokestatic 51, 3) := by decide +kernel
theorem dX11_egg_19 : decode cX11_egg 19 = .ok (.ifCond .eq 12, 3) := by decide +kernel
theorem dX11_egg_22 : decode cX11_egg 22 = .ok (.aload_n 0, 1) := by decide +kernel
theorem dX11_egg_23 : decode cX11_egg 23 = .ok (.iload_n 1, 1) := by decide +kernel
theorem dX11_egg_24 : decode cX11_egg 24 = .ok (.iload_n 2, 1) := by decide +kernel
theorem dX11_egg_25 : decode cX11_egg 25 = .ok (.invokevirtual 101, 3) := by decide +kernel
theorem dX11_egg_28 : decode cX11_egg 28 = .ok (.goto 5, 3) := by decide +kernel
theorem dX11_egg_31 : decode cX11_egg 31 = .ok (.bipush (-102), 2) := by decide +kernel
theorem dX11_egg_33 : decode cX11_egg 33 = .ok (.ireturn, 1) := by decide +kernel
theorem dX11_power_0 : decode cX11_power 0 = .ok (.lconst 1, 1) := by decide +kernel
theorem dX11_power_1 : decode cX11_power 1 = .ok (.lstore_n 2, 1) := by decide +kernel
theorem dX11_power_2 : decode cX11_power 2 = .ok (.iconst 0, 1) := by decide +kernel
theorem dX11_power_3 : decode cX11_power 3 = .ok (.istore 4, 2) := by decide +kernel
theorem dX11_power_5 : decode cX11_power 5 = .ok (.iload 4, 2) := by decide +kernel
theorem dX11_power_7 : decode cX11_power 7 = .ok (.iload_n 1, 1) := by decide +kernel
theorem dX11_power_8 : decode cX11_power 8 = .ok (.if_icmp .ge 14, 3) := by decide +kernel
theorem dX11_power_11 : decode cX11_power 11 = .ok (.lload_n 2, 1) := by decide +kernel
theorem dX11_power_12 : decode cX11_power 12 = .ok (.iload_n 0, 1) := by decide +kernel
theorem dX11_power_13 : decode cX11_power 13 = .ok (.i2l, 1) := by decide +kernel
theorem dX11_power_14 : decode cX11_power 14 = .ok (.lmul, 1) := by decide +kernel
theorem dX11_power_15 : decode cX11_power 15 = .ok (.lstore_n 2, 1) := by decide +kernel
theorem dX11_power_16 : decode cX11_power 16 = .ok (.iinc 4 1, 3) := by decide +kernel
theorem dX11_power_19 : decode cX11_power 19 = .ok (.goto (-14), 3) := by decide +kernel
theorem dX11_power_22 : decode cX11_power 22 = .ok (.lload_n 2, 1) := by decide +kernel
theorem dX11_power_23 : decode cX11_power 23 = .ok (.lreturn, 1) := by decide +kernel
set_option maxRecDepth 20000 in
theorem ggX11_spun_X11_power : GoodIn wsX11_spun wsX11_power := goodIn_r _ [6] (by decide +kernel) (by decide +kernel)
set_option maxRecDepth 20000 in
theorem gX11_spun_X11_power : GoodIn wsX11_spun (va_wsS RX11 105 yX11_power wsX11_power) := goodIn_app (goodIn_of _ (by decide +kernel)) ggX11_spun_X11_power
theorem dX11_spun_0 : decode cX11_spun 0 = .ok (.iload_n 2, 1) := by decide +kernel
theorem dX11_spun_1 : decode cX11_spun 1 = .ok (.aload_n 0, 1) := by decide +kernel
theorem dX11_spun_2 : decode cX11_spun 2 = .ok (.getfield 16, 3) := by decide +kernel
theorem dX11_spun_5 : decode cX11_spun 5 = .ok (.iload_n 1, 1) := by decide +kernel
theorem dX11_spun_6 : decode cX11_spun 6 = .ok (.iaload, 1) := by decide +kernel
theorem dX11_spun_7 : decode cX11_spun 7 = .ok (.invokestatic 105, 3) := by decide +kernel
theorem dX11_spun_10 : decode cX11_spun 10 = .ok (.bipush 10, 2) := by decide +kernel
theorem dX11_spun_12 : decode cX11_spun 12 = .ok (.iload_n 2, 1) := by decide +kernel
theorem dX11_spun_13 : decode cX11_spun 13 = .ok (.isub, 1) := by decide +kernel
theorem dX11_spun_14 : decode cX11_spun 14 = .ok (.aload_n 0, 1) := by decide +kernel
theorem dX11_spun_15 : decode cX11_spun 15 = .ok (.getfield 13, 3) := by decide +kernel
theorem dX11_spun_18 : decode cX11_spun 18 = .ok (.iload_n 1, 1) := by decide +kernel
theorem dX11_spun_19 : decode cX11_spun 19 = .ok (.iaload, 1) := by decide +kernel
theorem dX11_spun_20 : decode cX11_spun 20 = .ok (.aload_n 0, 1) := by decide +kernel
theorem dX11_spun_21 : decode cX11_spun 21 = .ok (.getfield 16, 3) := by decide +kernel
theorem dX11_spun_24 : decode cX11_spun 24 = .ok (.iload_n 1, 1) := by decide +kernel
theorem dX11_spun_25 : decode cX11_spun 25 = .ok (.iaload, 1) := by decide +kernel
theorem dX11_spun_26 : decode cX11_spun 26 = .ok (.isub, 1) := by decide +kernel
theorem dX11_spun_27 : decode cX11_spun 27 = .ok (.invokestatic 105, 3) := by decide +kernel
theorem dX11_spun_30 : decode cX11_spun 30 = .ok (.lmul, 1) := by decide +kernel
theorem dX11_spun_31 : decode cX11_spun 31 = .ok (.lreturn, 1) := by decide +kernel
set_option maxRecDepth 20000 in
theorem ggX11_weight_X11_size : GoodIn wsX11_weight wsX11_size := goodIn_r _ [10] (by decide +kernel) (by decide +kernel)
set_option maxRecDepth 20000 in
theorem gX11_weight_X11_size : GoodIn wsX11_weight (va_wsS RX11 109 yX11_size wsX11_size) := goodIn_app (goodIn_of _ (by decide +kernel)) ggX11_weight_X11_size
set_option maxRecDepth 20000 in
theorem ggX11_weight_X11_has : GoodIn wsX11_weight wsX11_has := goodIn_r _ [13] (by decide +kernel) (by decide +kernel)
set_option maxRecDepth 20000 in
theorem gX11_weight_X11_has : GoodIn wsX11_weight (va_wsS RX11 112 yX11_has wsX11_has) := goodIn_app (goodIn_of _ (by decide +kernel)) ggX11_weight_X11_has
set_option maxRecDepth 20000 in
theorem ggX11_weight_X11_spun : GoodIn wsX11_weight wsX11_spun := goodIn_r _ [17, 18, 19, 20, 21, 9, 22, 23, 24, 25, 26, 27, 28, 29, 30, 31, 32, 33, 34, 35, 36, 37, 38, 39, 40, 41, 42, 43, 44, 45, 46, 47, 48, 49, 50, 51, 52, 53, 54] (by decide +kernel) (by decide +kernel)
set_option maxRecDepth 20000 in
theorem gX11_weight_X11_spun : GoodIn wsX11_weight (wsV RX11 116 RX11 yX11_spun wsX11_spun) := goodIn_app (goodIn_of _ (by decide +kernel)) ggX11_weight_X11_spun
set_option maxRecDepth 20000 in
theorem ggX11_weight_X11_power : GoodIn wsX11_weight wsX11_power := goodIn_r _ [22] (by decide +kernel) (by decide +kernel)
set_option maxRecDepth 20000 in
theorem gX11_weight_X11_power : GoodIn wsX11_weight (va_wsS RX11 105 yX11_power wsX11_power) := goodIn_app (goodIn_of _ (by decide +kernel)) ggX11_weight_X11_power
theorem dX11_weight_0 : decode cX11_weight 0 = .ok (.iload_n 1, 1) := by decide +kernel
theorem dX11_weight_1 : decode cX11_weight 1 = .ok (.invokestatic 109, 3) := by decide +kernel
theorem dX11_weight_4 : decode cX11_weight 4 = .ok (.aload_n 0, 1) := by decide +kernel
theorem dX11_weight_5 : decode cX11_weight 5 = .ok (.getfield 74, 3) := by decide +kernel
theorem dX11_weight_8 : decode cX11_weight 8 = .ok (.if_icmp .ne 13, 3) := by decide +kernel
theorem dX11_weight_11 : decode cX11_weight 11 = .ok (.iload_n 1, 1) := by decide +kernel
theorem dX11_weight_12 : decode cX11_weight 12 = .ok (.iconst 1, 1) := by decide +kernel
theorem dX11_weight_13 : decode cX11_weight 13 = .ok (.aload_n 0, 1) := by decide +kernel
theorem dX11_weight_14 : decode cX11_weight 14 = .ok (.getfield 71, 3) := by decide +kernel
theorem dX11_weight_17 : decode cX11_weight 17 = .ok (.ishl, 1) := by decide +kernel
theorem dX11_weight_18 : decode cX11_weight 18 = .ok (.if_icmp .lt 5, 3) := by decide +kernel
theorem dX11_weight_21 : decode cX11_weight 21 = .ok (.lconst 0, 1) := by decide +kernel
theorem dX11_weight_22 : decode cX11_weight 22 = .ok (.lreturn, 1) := by decide +kernel
theorem dX11_weight_23 : decode cX11_weight 23 = .ok (.lconst 1, 1) := by decide +kernel
theorem dX11_weight_24 : decode cX11_weight 24 = .ok (.lstore 4, 2) := by decide +kernel
theorem dX11_weight_26 : decode cX11_weight 26 = .ok (.iconst 0, 1) := by decide +kernel
theorem dX11_weight_27 : decode cX11_weight 27 = .ok (.istore 6, 2) := by decide +kernel
theorem dX11_weight_29 : decode cX11_weight 29 = .ok (.iload 6, 2) := by decide +kernel
theorem dX11_weight_31 : decode cX11_weight 31 = .ok (.aload_n 0, 1) := by decide +kernel
theorem dX11_weight_32 : decode cX11_weight 32 = .ok (.getfield 71, 3) := by decide +kernel
theorem dX11_weight_35 : decode cX11_weight 35 = .ok (.if_icmp .ge 138, 3) := by decide +kernel
theorem dX11_weight_38 : decode cX11_weight 38 = .ok (.iload_n 1, 1) := by decide +kernel
theorem dX11_weight_39 : decode cX11_weight 39 = .ok (.iload 6, 2) := by decide +kernel
theorem dX11_weight_41 : decode cX11_weight 41 = .ok (.invokestatic 112, 3) := by decide +kernel
theorem dX11_weight_44 : decode cX11_weight 44 = .ok (.istore 7, 2) := by decide +kernel
theorem dX11_weight_46 : decode cX11_weight 46 = .ok (.aload_n 0, 1) := by decide +kernel
theorem dX11_weight_47 : decode cX11_weight 47 = .ok (.getfield 19, 3) := by decide +kernel
theorem dX11_weight_50 : decode cX11_weight 50 = .ok (.iload 6, 2) := by decide +kernel
theorem dX11_weight_52 : decode cX11_weight 52 = .ok (.iaload, 1) := by decide +kernel
theorem dX11_weight_53 : decode cX11_weight 53 = .ok (.iconst (-1), 1) := by decide +kernel
theorem dX11_weight_54 : decode cX11_weight 54 = .ok (.if_icmp .eq 23, 3) := by decide +kernel
theorem dX11_weight_57 : decode cX11_weight 57 = .ok (.aload_n 0, 1) := by decide +kernel
theorem dX11_weight_58 : decode cX11_weight 58 = .ok (.getfield 19, 3) := by decide +kernel
theorem dX11_weight_61 : decode cX11_weight 61 = .ok (.iload 6, 2) := by decide +kernel
theorem dX11_weight_63 : decode cX11_weight 63 = .ok (.iaload, 1) := by decide +kernel
theorem dX11_weight_64 : decode cX11_weight 64 = .ok (.iload 7, 2) := by decide +kernel
theorem dX11_weight_66 : decode cX11_weight 66 = .ok (.ifCond .eq 7, 3) := by decide +kernel
theorem dX11_weight_69 : decode cX11_weight 69 = .ok (.iconst 1, 1) := by decide +kernel
theorem dX11_weight_70 : decode cX11_weight 70 = .ok (.goto 4, 3) := by decide +kernel
theorem dX11_weight_73 : decode cX11_weight 73 = .ok (.iconst 0, 1) := by decide +kernel
theorem dX11_weight_74 : decode cX11_weight 74 = .ok (.if_icmp .ne 7, 3) := by decide +kernel
theorem dX11_weight_77 : decode cX11_weight 77 = .ok (.iconst 1, 1) := by decide +kernel
theorem dX11_weight_78 : decode cX11_weight 78 = .ok (.goto 4, 3) := by decide +kernel
theorem dX11_weight_81 : decode cX11_weight 81 = .ok (.iconst 0, 1) := by decide +kernel
theorem dX11_weight_82 : decode cX11_weight 82 = .ok (.istore 8, 2) := by decide +kernel
theorem dX11_weight_84 : decode cX11_weight 84 = .ok (.iload 7, 2) := by decide +kernel
theorem dX11_weight_86 : decode cX11_weight 86 = .ok (.ifCond .eq 10, 3) := by decide +kernel
theorem dX11_weight_89 : decode cX11_weight 89 = .ok (.aload_n 0, 1) := by decide +kernel
theorem dX11_weight_90 : decode cX11_weight 90 = .ok (.getfield 77, 3) := by decide +kernel
theorem dX11_weight_93 : decode cX11_weight 93 = .ok (.goto 7, 3) := by decide +kernel
theorem dX11_weight_96 : decode cX11_weight 96 = .ok (.aload_n 0, 1) := by decide +kernel
theorem dX11_weight_97 : decode cX11_weight 97 = .ok (.getfield 80, 3) := by decide +kernel
theorem dX11_weight_100 : decode cX11_weight 100 = .ok (.istore 9, 2) := by decide +kernel
theorem dX11_weight_102 : decode cX11_weight 102 = .ok (.lload 4, 2) := by decide +kernel
theorem dX11_weight_104 : decode cX11_weight 104 = .ok (.iload 8, 2) := by decide +kernel
theorem dX11_weight_106 : decode cX11_weight 106 = .ok (.ifCond .eq 23, 3) := by decide +kernel
theorem dX11_weight_109 : decode cX11_weight 109 = .ok (.iload 7, 2) := by decide +kernel
theorem dX11_weight_111 : decode cX11_weight 111 = .ok (.ifCond .eq 14, 3) := by decide +kernel
theorem dX11_weight_114 : decode cX11_weight 114 = .ok (.aload_n 0, 1) := by decide +kernel
theorem dX11_weight_115 : decode cX11_weight 115 = .ok (.getfield 7, 3) := by decide +kernel
theorem dX11_weight_118 : decode cX11_weight 118 = .ok (.iload 6, 2) := by decide +kernel
theorem dX11_weight_120 : decode cX11_weight 120 = .ok (.iaload, 1) := by decide +kernel
theorem dX11_weight_121 : decode cX11_weight 121 = .ok (.i2l, 1) := by decide +kernel
theorem dX11_weight_122 : decode cX11_weight 122 = .ok (.goto 8, 3) := by decide +kernel
theorem dX11_weight_125 : decode cX11_weight 125 = .ok (.lconst 1, 1) := by decide +kernel
theorem dX11_weight_126 : decode cX11_weight 126 = .ok (.goto 4, 3) := by decide +kernel
theorem dX11_weight_129 : decode cX11_weight 129 = .ok (.lconst 0, 1) := by decide +kernel
theorem dX11_weight_130 : decode cX11_weight 130 = .ok (.lmul, 1) := by decide +kernel
theorem dX11_weight_131 : decode cX11_weight 131 = .ok (.lstore 4, 2) := by decide +kernel
theorem dX11_weight_133 : decode cX11_weight 133 = .ok (.lload 4, 2) := by decide +kernel
theorem dX11_weight_135 : decode cX11_weight 135 = .ok (.aload_n 0, 1) := by decide +kernel
theorem dX11_weight_136 : decode cX11_weight 136 = .ok (.iload 6, 2) := by decide +kernel
theorem dX11_weight_138 : decode cX11_weight 138 = .ok (.iload 9, 2) := by decide +kernel
theorem dX11_weight_140 : decode cX11_weight 140 = .ok (.invokevirtual 116, 3) := by decide +kernel
theorem dX11_weight_143 : decode cX11_weight 143 = .ok (.lmul, 1) := by decide +kernel
theorem dX11_weight_144 : decode cX11_weight 144 = .ok (.lstore 4, 2) := by decide +kernel
theorem dX11_weight_146 : decode cX11_weight 146 = .ok (.lload 4, 2) := by decide +kernel
theorem dX11_weight_148 : decode cX11_weight 148 = .ok (.iload 6, 2) := by decide +kernel
theorem dX11_weight_150 : decode cX11_weight 150 = .ok (.iload_n 2, 1) := by decide +kernel
theorem dX11_weight_151 : decode cX11_weight 151 = .ok (.if_icmp .ne 12, 3) := by decide +kernel
theorem dX11_weight_154 : decode cX11_weight 154 = .ok (.iload 9, 2) := by decide +kernel
theorem dX11_weight_156 : decode cX11_weight 156 = .ok (.iload_n 3, 1) := by decide +kernel
theorem dX11_weight_157 : decode cX11_weight 157 = .ok (.invokestatic 105, 3) := by decide +kernel
theorem dX11_weight_160 : decode cX11_weight 160 = .ok (.goto 4, 3) := by decide +kernel
theorem dX11_weight_163 : decode cX11_weight 163 = .ok (.lconst 1, 1) := by decide +kernel
theorem dX11_weight_164 : decode cX11_weight 164 = .ok (.lmul, 1) := by decide +kernel
theorem dX11_weight_165 : decode cX11_weight 165 = .ok (.lstore 4, 2) := by decide +kernel
theorem dX11_weight_167 : decode cX11_weight 167 = .ok (.iinc 6 1, 3) := by decide +kernel
theorem dX11_weight_170 : decode cX11_weight 170 = .ok (.goto (-141), 3) := by decide +kernel
theorem dX11_weight_173 : decode cX11_weight 173 = .ok (.lload 4, 2) := by decide +kernel
theorem dX11_weight_175 : decode cX11_weight 175 = .ok (.lreturn, 1) := by decide +kernel
set_option maxRecDepth 20000 in
theorem ggX11_total_X11_weight : GoodIn wsX11_total wsX11_weight := goodIn_r _ [6, 7, 1, 8, 9, 10, 11, 12, 13, 5, 14, 15, 16, 17, 18, 19, 20, 21, 22, 23, 24, 25, 26, 27, 28, 29, 30, 31, 32, 33, 34, 35, 36, 37, 38, 39, 40, 41, 42, 43, 44, 45, 46, 47, 48, 49, 50, 51, 52, 53, 54, 55, 56, 57, 58] (by decide +kernel) (by decide +kernel)
set_option maxRecDepth 20000 in
theorem gX11_total_X11_weight : GoodIn wsX11_total (wsV RX11 119 RX11 yX11_weight wsX11_weight) := goodIn_app (goodIn_of _ (by decide +kernel)) ggX11_total_X11_weight
theorem dX11_total_0 : decode cX11_total 0 = .ok (.lconst 0, 1) := by decide +kernel
theorem dX11_total_1 : decode cX11_total 1 = .ok (.lstore_n 3, 1) := by decide +kernel
theorem dX11_total_2 : decode cX11_total 2 = .ok (.iconst 0, 1) := by decide +kernel
theorem dX11_total_3 : decode cX11_total 3 = .ok (.istore 5, 2) := by decide +kernel
theorem dX11_total_5 : decode cX11_total 5 = .ok (.iload 5, 2) := by decide +kernel
theorem dX11_total_7 : decode cX11_total 7 = .ok (.iconst 1, 1) := by decide +kernel
theorem dX11_total_8 : decode cX11_total 8 = .ok (.aload_n 0, 1) := by decide +kernel
theorem dX11_total_9 : decode cX11_total 9 = .ok (.getfield 71, 3) := by decide +kernel
theorem dX11_total_12 : decode cX11_total 12 = .ok (.ishl, 1) := by decide +kernel
theorem dX11_total_13 : decode cX11_total 13 = .ok (.if_icmp .ge 20, 3) := by decide +kernel
theorem dX11_total_16 : decode cX11_total 16 = .ok (.lload_n 3, 1) := by decide +kernel
theorem dX11_total_17 : decode cX11_total 17 = .ok (.aload_n 0, 1) := by decide +kernel
theorem dX11_total_18 : decode cX11_total 18 = .ok (.iload 5, 2) := by decide +kernel
theorem dX11_total_20 : decode cX11_total 20 = .ok (.iload_n 1, 1) := by decide +kernel
theorem dX11_total_21 : decode cX11_total 21 = .ok (.iload_n 2, 1) := by decide +kernel
theorem dX11_total_22 : decode cX11_total 22 = .ok (.invokevirtual 119, 3) := by decide +kernel
theorem dX11_total_25 : decode cX11_total 25 = .ok (.ladd, 1) := by decide +kernel
theorem dX11_total_26 : decode cX11_total 26 = .ok (.lstore_n 3, 1) := by decide +kernel
theorem dX11_total_27 : decode cX11_total 27 = .ok (.iinc 5 1, 3) := by decide +kernel
theorem dX11_total_30 : decode cX11_total 30 = .ok (.goto (-25), 3) := by decide +kernel
theorem dX11_total_33 : decode cX11_total 33 = .ok (.lload_n 3, 1) := by decide +kernel
theorem dX11_total_34 : decode cX11_total 34 = .ok (.lreturn, 1) := by decide +kernel
set_option maxRecDepth 20000 in
theorem ggX11_boiledWeight_X11_has : GoodIn wsX11_boiledWeight wsX11_has := goodIn_r _ [5] (by decide +kernel) (by decide +kernel)
set_option maxRecDepth 20000 in
theorem gX11_boiledWeight_X11_has : GoodIn wsX11_boiledWeight (va_wsS RX11 112 yX11_has wsX11_has) := goodIn_app (goodIn_of _ (by decide +kernel)) ggX11_boiledWeight_X11_has
set_option maxRecDepth 20000 in
theorem ggX11_boiledWeight_X11_weight : GoodIn wsX11_boiledWeight wsX11_weight := goodIn_r _ [9, 10, 1, 11, 12, 13, 14, 15, 16, 4, 17, 2, 3, 5, 18, 19, 20, 21, 22, 23, 24, 25, 26, 27, 28, 29, 30, 31, 32, 33, 34, 35, 36, 37, 38, 39, 40, 41, 42, 43, 44, 45, 46, 47, 48, 49, 50, 51, 52, 53, 54, 55, 56, 57, 58] (by decide +kernel) (by decide +kernel)
set_option maxRecDepth 20000 in
theorem gX11_boiledWeight_X11_weight : GoodIn wsX11_boiledWeight (wsV RX11 119 RX11 yX11_weight wsX11_weight) := goodIn_app (goodIn_of _ (by decide +kernel)) ggX11_boiledWeight_X11_weight
theorem dX11_boiledWeight_0 : decode cX11_boiledWeight 0 = .ok (.lconst 0, 1) := by decide +kernel
theorem dX11_boiledWeight_1 : decode cX11_boiledWeight 1 = .ok (.lstore_n 3, 1) := by decide +kernel
theorem dX11_boiledWeight_2 : decode cX11_boiledWeight 2 = .ok (.iconst 0, 1) := by decide +kernel
theorem dX11_boiledWeight_3 : decode cX11_boiledWeight 3 = .ok (.istore 5, 2) := by decide +kernel
theorem dX11_boiledWeight_5 : decode cX11_boiledWeight 5 = .ok (.iload 5, 2) := by decide +kernel
theorem dX11_boiledWeight_7 : decode cX11_boiledWeight 7 = .ok (.iconst 1, 1) := by decide +kernel
theorem dX11_boiledWeight_8 : decode cX11_boiledWeight 8 = .ok (.aload_n 0, 1) := by decide +kernel
theorem dX11_boiledWeight_9 : decode cX11_boiledWeight 9 = .ok (.getfield 71, 3) := by decide +kernel
theorem dX11_boiledWeight_12 : decode cX11_boiledWeight 12 = .ok (.ishl, 1) := by decide +kernel
theorem dX11_boiledWeight_13 : decode cX11_boiledWeight 13 = .ok (.if_icmp .ge 33, 3) := by decide +kernel
theorem dX11_boiledWeight_16 : decode cX11_boiledWeight 16 = .ok (.lload_n 3, 1) := by decide +kernel
theorem dX11_boiledWeight_17 : decode cX11_boiledWeight 17 = .ok (.iload 5, 2) := by decide +kernel
theorem dX11_boiledWeight_19 : decode cX11_boiledWeight 19 = .ok (.iload_n 1, 1) := by decide +kernel
theorem dX11_boiledWeight_20 : decode cX11_boiledWeight 20 = .ok (.invokestatic 112, 3) := by decide +kernel
theorem dX11_boiledWeight_23 : decode cX11_boiledWeight 23 = .ok (.ifCond .eq 14, 3) := by decide +kernel
theorem dX11_boiledWeight_26 : decode cX11_boiledWeight 26 = .ok (.aload_n 0, 1) := by decide +kernel
theorem dX11_boiledWeight_27 : decode cX11_boiledWeight 27 = .ok (.iload 5, 2) := by decide +kernel
theorem dX11_boiledWeight_29 : decode cX11_boiledWeight 29 = .ok (.iload_n 1, 1) := by decide +kernel
theorem dX11_boiledWeight_30 : decode cX11_boiledWeight 30 = .ok (.iload_n 2, 1) := by decide +kernel
theorem dX11_boiledWeight_31 : decode cX11_boiledWeight 31 = .ok (.invokevirtual 119, 3) := by decide +kernel
theorem dX11_boiledWeight_34 : decode cX11_boiledWeight 34 = .ok (.goto 4, 3) := by decide +kernel
theorem dX11_boiledWeight_37 : decode cX11_boiledWeight 37 = .ok (.lconst 0, 1) := by decide +kernel
theorem dX11_boiledWeight_38 : decode cX11_boiledWeight 38 = .ok (.ladd, 1) := by decide +kernel
theorem dX11_boiledWeight_39 : decode cX11_boiledWeight 39 = .ok (.lstore_n 3, 1) := by decide +kernel
theorem dX11_boiledWeight_40 : decode cX11_boiledWeight 40 = .ok (.iinc 5 1, 3) := by decide +kernel
theorem dX11_boiledWeight_43 : decode cX11_boiledWeight 43 = .ok (.goto (-38), 3) := by decide +kernel
theorem dX11_boiledWeight_46 : decode cX11_boiledWeight 46 = .ok (.lload_n 3, 1) := by decide +kernel
theorem dX11_boiledWeight_47 : decode cX11_boiledWeight 47 = .ok (.lreturn, 1) := by decide +kernel
set_option maxRecDepth 20000 in
theorem ggX11_isInBox_X11_has : GoodIn wsX11_isInBox wsX11_has := goodIn_r _ [5] (by decide +kernel) (by decide +kernel)
set_option maxRecDepth 20000 in
theorem gX11_isInBox_X11_has : GoodIn wsX11_isInBox (va_wsS RX11 112 yX11_has wsX11_has) := goodIn_app (goodIn_of _ (by decide +kernel)) ggX11_isInBox_X11_has
theorem dX11_isInBox_0 : decode cX11_isInBox 0 = .ok (.aload_n 0, 1) := by decide +kernel
theorem dX11_isInBox_1 : decode cX11_isInBox 1 = .ok (.getfield 86, 3) := by decide +kernel
theorem dX11_isInBox_4 : decode cX11_isInBox 4 = .ok (.iload_n 1, 1) := by decide +kernel
theorem dX11_isInBox_5 : decode cX11_isInBox 5 = .ok (.invokestatic 112, 3) := by decide +kernel
theorem dX11_isInBox_8 : decode cX11_isInBox 8 = .ok (.ireturn, 1) := by decide +kernel
set_option maxRecDepth 20000 in
theorem ggX11_spin_X11_isEgg : GoodIn wsX11_spin wsX11_isEgg := goodIn_r _ [8, 9, 10, 11, 7, 12, 44, 45, 46, 47, 48, 49, 50, 51, 52, 53, 54, 55, 56, 57, 58, 59, 60, 61, 62, 63, 64, 65, 66, 67, 68, 69, 70, 71, 72, 73, 74, 75] (by decide +kernel) (by decide +kernel)
set_option maxRecDepth 20000 in
theorem gX11_spin_X11_isEgg : GoodIn wsX11_spin (wsV RX11 98 RX11 yX11_isEgg wsX11_isEgg) := goodIn_app (goodIn_of _ (by decide +kernel)) ggX11_spin_X11_isEgg
set_option maxRecDepth 20000 in
theorem ggX11_spin_X11_isInBox : GoodIn wsX11_spin wsX11_isInBox := goodIn_r _ [16, 17, 18, 19, 7, 20, 44, 45, 46, 47, 48, 49, 50, 51, 52, 53, 54, 55, 56, 57, 58, 59, 60, 61, 62, 63, 64, 65, 66, 67, 68, 69, 70, 71, 72, 73, 74, 75] (by decide +kernel) (by decide +kernel)
set_option maxRecDepth 20000 in
theorem gX11_spin_X11_isInBox : GoodIn wsX11_spin (wsV RX11 123 RX11 yX11_isInBox wsX11_isInBox) := goodIn_app (goodIn_of _ (by decide +kernel)) ggX11_spin_X11_isInBox
set_option maxRecDepth 20000 in
theorem ggX11_spin_X11_total : GoodIn wsX11_spin wsX11_total := goodIn_r _ [24, 9, 25, 26, 27, 7, 28, 29, 30, 31, 32, 33, 34, 35, 36, 18, 19, 20, 37, 38, 39, 40, 2, 1, 41, 42, 43, 44, 45, 46, 47, 48, 49, 50, 51, 52, 53, 54, 55, 56, 57, 58, 59, 60, 61, 62, 63, 64, 65, 66, 67, 68, 69, 70, 71, 72, 73, 74, 75] (by decide +kernel) (by decide +kernel)
set_option maxRecDepth 20000 in
theorem gX11_spin_X11_total : GoodIn wsX11_spin (wsV RX11 126 RX11 yX11_total wsX11_total) := goodIn_app (goodIn_of _ (by decide +kernel)) ggX11_spin_X11_total
theorem dX11_spin_0 : decode cX11_spin 0 = .ok (.aload_n 0, 1) := by decide +kernel
theorem dX11_spin_1 : decode cX11_spin 1 = .ok (.iload_n 1, 1) := by decide +kernel
theorem dX11_spin_2 : decode cX11_spin 2 = .ok (.invokevirtual 98, 3) := by decide +kernel
theorem dX11_spin_5 : decode cX11_spin 5 = .ok (.ifCond .ne 6, 3) := by decide +kernel
theorem dX11_spin_8 : decode cX11_spin 8 = .ok (.bipush (-101), 2) := by decide +kernel
theorem dX11_spin_10 : decode cX11_spin 10 = .ok (.ireturn, 1) := by decide +kernel
theorem dX11_spin_11 : decode cX11_spin 11 = .ok (.aload_n 0, 1) := by decide +kernel
theorem dX11_spin_12 : decode cX11_spin 12 = .ok (.iload_n 1, 1) := by decide +kernel
theorem dX11_spin_13 : decode cX11_spin 13 = .ok (.invokevirtual 123, 3) := by decide +kernel
theorem dX11_spin_16 : decode cX11_spin 16 = .ok (.ifCond .ne 6, 3) := by decide +kernel
theorem dX11_spin_19 : decode cX11_spin 19 = .ok (.bipush (-103), 2) := by decide +kernel
theorem dX11_spin_21 : decode cX11_spin 21 = .ok (.ireturn, 1) := by decide +kernel
theorem dX11_spin_22 : decode cX11_spin 22 = .ok (.aload_n 0, 1) := by decide +kernel
theorem dX11_spin_23 : decode cX11_spin 23 = .ok (.getfield 13, 3) := by decide +kernel
theorem dX11_spin_26 : decode cX11_spin 26 = .ok (.iload_n 1, 1) := by decide +kernel
theorem dX11_spin_27 : decode cX11_spin 27 = .ok (.dup2, 1) := by decide +kernel
theorem dX11_spin_28 : decode cX11_spin 28 = .ok (.iaload, 1) := by decide +kernel
theorem dX11_spin_29 : decode cX11_spin 29 = .ok (.iconst 1, 1) := by decide +kernel
theorem dX11_spin_30 : decode cX11_spin 30 = .ok (.iadd, 1) := by decide +kernel
theorem dX11_spin_31 : decode cX11_spin 31 = .ok (.iastore, 1) := by decide +kernel
theorem dX11_spin_32 : decode cX11_spin 32 = .ok (.aload_n 0, 1) := by decide +kernel
theorem dX11_spin_33 : decode cX11_spin 33 = .ok (.getfield 16, 3) := by decide +kernel
theorem dX11_spin_36 : decode cX11_spin 36 = .ok (.iload_n 1, 1) := by decide +kernel
theorem dX11_spin_37 : decode cX11_spin 37 = .ok (.dup2, 1) := by decide +kernel
theorem dX11_spin_38 : decode cX11_spin 38 = .ok (.iaload, 1) := by decide +kernel
theorem dX11_spin_39 : decode cX11_spin 39 = .ok (.iload_n 2, 1) := by decide +kernel
theorem dX11_spin_40 : decode cX11_spin 40 = .ok (.ifCond .eq 7, 3) := by decide +kernel
theorem dX11_spin_43 : decode cX11_spin 43 = .ok (.iconst 1, 1) := by decide +kernel
theorem dX11_spin_44 : decode cX11_spin 44 = .ok (.goto 4, 3) := by decide +kernel
theorem dX11_spin_47 : decode cX11_spin 47 = .ok (.iconst 0, 1) := by decide +kernel
theorem dX11_spin_48 : decode cX11_spin 48 = .ok (.iadd, 1) := by decide +kernel
theorem dX11_spin_49 : decode cX11_spin 49 = .ok (.iastore, 1) := by decide +kernel
theorem dX11_spin_50 : decode cX11_spin 50 = .ok (.aload_n 0, 1) := by decide +kernel
theorem dX11_spin_51 : decode cX11_spin 51 = .ok (.iconst (-1), 1) := by decide +kernel
theorem dX11_spin_52 : decode cX11_spin 52 = .ok (.iconst 0, 1) := by decide +kernel
theorem dX11_spin_53 : decode cX11_spin 53 = .ok (.invokevirtual 126, 3) := by decide +kernel
theorem dX11_spin_56 : decode cX11_spin 56 = .ok (.lconst 0, 1) := by decide +kernel
theorem dX11_spin_57 : decode cX11_spin 57 = .ok (.lcmp, 1) := by decide +kernel
theorem dX11_spin_58 : decode cX11_spin 58 = .ok (.ifCond .le 7, 3) := by decide +kernel
theorem dX11_spin_61 : decode cX11_spin 61 = .ok (.iconst 1, 1) := by decide +kernel
theorem dX11_spin_62 : decode cX11_spin 62 = .ok (.goto 4, 3) := by decide +kernel
theorem dX11_spin_65 : decode cX11_spin 65 = .ok (.iconst 0, 1) := by decide +kernel
theorem dX11_spin_66 : decode cX11_spin 66 = .ok (.istore_n 3, 1) := by decide +kernel
theorem dX11_spin_67 : decode cX11_spin 67 = .ok (.iload_n 3, 1) := by decide +kernel
theorem dX11_spin_68 : decode cX11_spin 68 = .ok (.ifCond .eq 12, 3) := by decide +kernel
theorem dX11_spin_71 : decode cX11_spin 71 = .ok (.aload_n 0, 1) := by decide +kernel
theorem dX11_spin_72 : decode cX11_spin 72 = .ok (.getfield 89, 3) := by decide +kernel
theorem dX11_spin_75 : decode cX11_spin 75 = .ok (.bipush 8, 2) := by decide +kernel
theorem dX11_spin_77 : decode cX11_spin 77 = .ok (.if_icmp .ne 43, 3) := by decide +kernel
theorem dX11_spin_80 : decode cX11_spin 80 = .ok (.aload_n 0, 1) := by decide +kernel
theorem dX11_spin_81 : decode cX11_spin 81 = .ok (.getfield 13, 3) := by decide +kernel
theorem dX11_spin_84 : decode cX11_spin 84 = .ok (.iload_n 1, 1) := by decide +kernel
theorem dX11_spin_85 : decode cX11_spin 85 = .ok (.dup2, 1) := by decide +kernel
theorem dX11_spin_86 : decode cX11_spin 86 = .ok (.iaload, 1) := by decide +kernel
theorem dX11_spin_87 : decode cX11_spin 87 = .ok (.iconst 1, 1) := by decide +kernel
theorem dX11_spin_88 : decode cX11_spin 88 = .ok (.isub, 1) := by decide +kernel
theorem dX11_spin_89 : decode cX11_spin 89 = .ok (.iastore, 1) := by decide +kernel
theorem dX11_spin_90 : decode cX11_spin 90 = .ok (.aload_n 0, 1) := by decide +kernel
theorem dX11_spin_91 : decode cX11_spin 91 = .ok (.getfield 16, 3) := by decide +kernel
theorem dX11_spin_94 : decode cX11_spin 94 = .ok (.iload_n 1, 1) := by decide +kernel
theorem dX11_spin_95 : decode cX11_spin 95 = .ok (.dup2, 1) := by decide +kernel
theorem dX11_spin_96 : decode cX11_spin 96 = .ok (.iaload, 1) := by decide +kernel
theorem dX11_spin_97 : decode cX11_spin 97 = .ok (.iload_n 2, 1) := by decide +kernel
theorem dX11_spin_98 : decode cX11_spin 98 = .ok (.ifCond .eq 7, 3) := by decide +kernel
theorem dX11_spin_101 : decode cX11_spin 101 = .ok (.iconst 1, 1) := by decide +kernel
theorem dX11_spin_102 : decode cX11_spin 102 = .ok (.goto 4, 3) := by decide +kernel
theorem dX11_spin_105 : decode cX11_spin 105 = .ok (.iconst 0, 1) := by decide +kernel
theorem dX11_spin_106 : decode cX11_spin 106 = .ok (.isub, 1) := by decide +kernel
theorem dX11_spin_107 : decode cX11_spin 107 = .ok (.iastore, 1) := by decide +kernel
theorem dX11_spin_108 : decode cX11_spin 108 = .ok (.iload_n 3, 1) := by decide +kernel
theorem dX11_spin_109 : decode cX11_spin 109 = .ok (.ifCond .eq 8, 3) := by decide +kernel
theorem dX11_spin_112 : decode cX11_spin 112 = .ok (.bipush (-104), 2) := by decide +kernel
theorem dX11_spin_114 : decode cX11_spin 114 = .ok (.goto 5, 3) := by decide +kernel
theorem dX11_spin_117 : decode cX11_spin 117 = .ok (.bipush (-103), 2) := by decide +kernel
theorem dX11_spin_119 : decode cX11_spin 119 = .ok (.ireturn, 1) := by decide +kernel
theorem dX11_spin_120 : decode cX11_spin 120 = .ok (.aload_n 0, 1) := by decide +kernel
theorem dX11_spin_121 : decode cX11_spin 121 = .ok (.dup, 1) := by decide +kernel
theorem dX11_spin_122 : decode cX11_spin 122 = .ok (.getfield 89, 3) := by decide +kernel
theorem dX11_spin_125 : decode cX11_spin 125 = .ok (.iconst 1, 1) := by decide +kernel
theorem dX11_spin_126 : decode cX11_spin 126 = .ok (.iadd, 1) := by decide +kernel
theorem dX11_spin_127 : decode cX11_spin 127 = .ok (.putfield 89, 3) := by decide +kernel
theorem dX11_spin_130 : decode cX11_spin 130 = .ok (.aload_n 0, 1) := by decide +kernel
theorem dX11_spin_131 : decode cX11_spin 131 = .ok (.getfield 89, 3) := by decide +kernel
theorem dX11_spin_134 : decode cX11_spin 134 = .ok (.ireturn, 1) := by decide +kernel
set_option maxRecDepth 20000 in
theorem ggX11_know_X11_total : GoodIn wsX11_know wsX11_total := goodIn_r _ [6, 7, 8, 9, 10, 5, 11, 12, 1, 13, 14, 15, 16, 17, 18, 19, 20, 21, 22, 23, 24, 25, 26, 27, 28, 29, 30, 31, 32, 33, 34, 35, 36, 37, 38, 39, 40, 41, 42, 43, 44, 45, 46, 47, 48, 49, 50, 51, 52, 53, 54, 55, 56, 57, 58, 59, 60, 61, 62] (by decide +kernel) (by decide +kernel)
set_option maxRecDepth 20000 in
theorem gX11_know_X11_total : GoodIn wsX11_know (wsV RX11 126 RX11 yX11_total wsX11_total) := goodIn_app (goodIn_of _ (by decide +kernel)) ggX11_know_X11_total
theorem dX11_know_0 : decode cX11_know 0 = .ok (.aload_n 0, 1) := by decide +kernel
theorem dX11_know_1 : decode cX11_know 1 = .ok (.getfield 19, 3) := by decide +kernel
theorem dX11_know_4 : decode cX11_know 4 = .ok (.iload_n 1, 1) := by decide +kernel
theorem dX11_know_5 : decode cX11_know 5 = .ok (.iaload, 1) := by decide +kernel
theorem dX11_know_6 : decode cX11_know 6 = .ok (.istore_n 3, 1) := by decide +kernel
theorem dX11_know_7 : decode cX11_know 7 = .ok (.iload_n 3, 1) := by decide +kernel
theorem dX11_know_8 : decode cX11_know 8 = .ok (.iconst (-1), 1) := by decide +kernel
theorem dX11_know_9 : decode cX11_know 9 = .ok (.if_icmp .eq 10, 3) := by decide +kernel
theorem dX11_know_12 : decode cX11_know 12 = .ok (.iload_n 3, 1) := by decide +kernel
theorem dX11_know_13 : decode cX11_know 13 = .ok (.iload_n 2, 1) := by decide +kernel
theorem dX11_know_14 : decode cX11_know 14 = .ok (.if_icmp .eq 5, 3) := by decide +kernel
theorem dX11_know_17 : decode cX11_know 17 = .ok (.iconst 0, 1) := by decide +kernel
theorem dX11_know_18 : decode cX11_know 18 = .ok (.ireturn, 1) := by decide +kernel
theorem dX11_know_19 : decode cX11_know 19 = .ok (.aload_n 0, 1) := by decide +kernel
theorem dX11_know_20 : decode cX11_know 20 = .ok (.getfield 19, 3) := by decide +kernel
theorem dX11_know_23 : decode cX11_know 23 = .ok (.iload_n 1, 1) := by decide +kernel
theorem dX11_know_24 : decode cX11_know 24 = .ok (.iload_n 2, 1) := by decide +kernel
theorem dX11_know_25 : decode cX11_know 25 = .ok (.iastore, 1) := by decide +kernel
theorem dX11_know_26 : decode cX11_know 26 = .ok (.aload_n 0, 1) := by decide +kernel
theorem dX11_know_27 : decode cX11_know 27 = .ok (.iconst (-1), 1) := by decide +kernel
theorem dX11_know_28 : decode cX11_know 28 = .ok (.iconst 0, 1) := by decide +kernel
theorem dX11_know_29 : decode cX11_know 29 = .ok (.invokevirtual 126, 3) := by decide +kernel
theorem dX11_know_32 : decode cX11_know 32 = .ok (.lconst 0, 1) := by decide +kernel
theorem dX11_know_33 : decode cX11_know 33 = .ok (.lcmp, 1) := by decide +kernel
theorem dX11_know_34 : decode cX11_know 34 = .ok (.ifCond .le 7, 3) := by decide +kernel
theorem dX11_know_37 : decode cX11_know 37 = .ok (.iconst 1, 1) := by decide +kernel
theorem dX11_know_38 : decode cX11_know 38 = .ok (.goto 4, 3) := by decide +kernel
theorem dX11_know_41 : decode cX11_know 41 = .ok (.iconst 0, 1) := by decide +kernel
theorem dX11_know_42 : decode cX11_know 42 = .ok (.istore 4, 2) := by decide +kernel
theorem dX11_know_44 : decode cX11_know 44 = .ok (.aload_n 0, 1) := by decide +kernel
theorem dX11_know_45 : decode cX11_know 45 = .ok (.getfield 19, 3) := by decide +kernel
theorem dX11_know_48 : decode cX11_know 48 = .ok (.iload_n 1, 1) := by decide +kernel
theorem dX11_know_49 : decode cX11_know 49 = .ok (.iload 4, 2) := by decide +kernel
theorem dX11_know_51 : decode cX11_know 51 = .ok (.ifCond .eq 7, 3) := by decide +kernel
theorem dX11_know_54 : decode cX11_know 54 = .ok (.iload_n 2, 1) := by decide +kernel
theorem dX11_know_55 : decode cX11_know 55 = .ok (.goto 4, 3) := by decide +kernel
theorem dX11_know_58 : decode cX11_know 58 = .ok (.iload_n 3, 1) := by decide +kernel
theorem dX11_know_59 : decode cX11_know 59 = .ok (.iastore, 1) := by decide +kernel
theorem dX11_know_60 : decode cX11_know 60 = .ok (.iload 4, 2) := by decide +kernel
theorem dX11_know_62 : decode cX11_know 62 = .ok (.ireturn, 1) := by decide +kernel
set_option maxRecDepth 20000 in
theorem ggX11_stop_X11_isEgg : GoodIn wsX11_stop wsX11_isEgg := goodIn_r _ [7, 8, 9, 10, 6, 11, 48, 49, 50, 51, 52, 53, 54, 55, 56, 57, 58, 59, 60, 61, 62, 63, 64, 65, 66, 67, 68, 69, 70, 71, 72, 73, 74, 75, 76, 77, 78, 79] (by decide +kernel) (by decide +kernel)
set_option maxRecDepth 20000 in
theorem gX11_stop_X11_isEgg : GoodIn wsX11_stop (wsV RX11 98 RX11 yX11_isEgg wsX11_isEgg) := goodIn_app (goodIn_of _ (by decide +kernel)) ggX11_stop_X11_isEgg
set_option maxRecDepth 20000 in
theorem ggX11_stop_X11_within : GoodIn wsX11_stop wsX11_within := goodIn_r _ [11] (by decide +kernel) (by decide +kernel)
set_option maxRecDepth 20000 in
theorem gX11_stop_X11_within : GoodIn wsX11_stop (va_wsS RX11 51 yX11_within wsX11_within) := goodIn_app (goodIn_of _ (by decide +kernel)) ggX11_stop_X11_within
set_option maxRecDepth 20000 in
theorem ggX11_stop_X11_isInBox : GoodIn wsX11_stop wsX11_isInBox := goodIn_r _ [15, 2, 16, 17, 6, 18, 48, 49, 50, 51, 52, 53, 54, 55, 56, 57, 58, 59, 60, 61, 62, 63, 64, 65, 66, 67, 68, 69, 70, 71, 72, 73, 74, 75, 76, 77, 78, 79] (by decide +kernel) (by decide +kernel)
set_option maxRecDepth 20000 in
theorem gX11_stop_X11_isInBox : GoodIn wsX11_stop (wsV RX11 123 RX11 yX11_isInBox wsX11_isInBox) := goodIn_app (goodIn_of _ (by decide +kernel)) ggX11_stop_X11_isInBox
set_option maxRecDepth 20000 in
theorem ggX11_stop_X11_know : GoodIn wsX11_stop wsX11_know := goodIn_r _ [22, 23, 24, 25, 26, 6, 27, 8, 28, 29, 30, 31, 32, 33, 34, 35, 36, 37, 38, 16, 17, 18, 39, 40, 41, 42, 43, 44, 45, 46, 47, 48, 49, 50, 51, 52, 53, 54, 55, 56, 57, 58, 59, 60, 61, 62, 63, 64, 65, 66, 67, 68, 69, 70, 71, 72, 73, 74, 75, 76, 77, 78, 79] (by decide +kernel) (by decide +kernel)
set_option maxRecDepth 20000 in
theorem gX11_stop_X11_know : GoodIn wsX11_stop (wsV RX11 129 RX11 yX11_know wsX11_know) := goodIn_app (goodIn_of _ (by decide +kernel)) ggX11_stop_X11_know
set_option maxRecDepth 20000 in
theorem ggX11_stop_X11_size : GoodIn wsX11_stop wsX11_size := goodIn_r _ [38] (by decide +kernel) (by decide +kernel)
set_option maxRecDepth 20000 in
theorem gX11_stop_X11_size : GoodIn wsX11_stop (va_wsS RX11 109 yX11_size wsX11_size) := goodIn_app (goodIn_of _ (by decide +kernel)) ggX11_stop_X11_size
theorem dX11_stop_0 : decode cX11_stop 0 = .ok (.aload_n 0, 1) := by decide +kernel
theorem dX11_stop_1 : decode cX11_stop 1 = .ok (.iload_n 1, 1) := by decide +kernel
theorem dX11_stop_2 : decode cX11_stop 2 = .ok (.invokevirtual 98, 3) := by decide +kernel
theorem dX11_stop_5 : decode cX11_stop 5 = .ok (.ifCond .ne 6, 3) := by decide +kernel
theorem dX11_stop_8 : decode cX11_stop 8 = .ok (.bipush (-101), 2) := by decide +kernel
theorem dX11_stop_10 : decode cX11_stop 10 = .ok (.ireturn, 1) := by decide +kernel
theorem dX11_stop_11 : decode cX11_stop 11 = .ok (.iload_n 2, 1) := by decide +kernel
theorem dX11_stop_12 : decode cX11_stop 12 = .ok (.iconst 0, 1) := by decide +kernel
theorem dX11_stop_13 : decode cX11_stop 13 = .ok (.iconst 2, 1) := by decide +kernel
theorem dX11_stop_14 : decode cX11_stop 14 = .ok (.invokestatic 51, 3) := by decide +kernel
theorem dX11_stop_17 : decode cX11_stop 17 = .ok (.ifCond .ne 6, 3) := by decide +kernel
theorem dX11_stop_20 : decode cX11_stop 20 = .ok (.bipush (-102), 2) := by decide +kernel
theorem dX11_stop_22 : decode cX11_stop 22 = .ok (.ireturn, 1) := by decide +kernel
theorem dX11_stop_23 : decode cX11_stop 23 = .ok (.aload_n 0, 1) := by decide +kernel
theorem dX11_stop_24 : decode cX11_stop 24 = .ok (.iload_n 1, 1) := by decide +kernel
theorem dX11_stop_25 : decode cX11_stop 25 = .ok (.invokevirtual 123, 3) := by decide +kernel
theorem dX11_stop_28 : decode cX11_stop 28 = .ok (.ifCond .eq 27, 3) := by decide +kernel
theorem dX11_stop_31 : decode cX11_stop 31 = .ok (.iload_n 2, 1) := by decide +kernel
theorem dX11_stop_32 : decode cX11_stop 32 = .ok (.iconst 2, 1) := by decide +kernel
theorem dX11_stop_33 : decode cX11_stop 33 = .ok (.if_icmp .ne 13, 3) := by decide +kernel
theorem dX11_stop_36 : decode cX11_stop 36 = .ok (.aload_n 0, 1) := by decide +kernel
theorem dX11_stop_37 : decode cX11_stop 37 = .ok (.getfield 83, 3) := by decide +kernel
theorem dX11_stop_40 : decode cX11_stop 40 = .ok (.ifCond .ne 18, 3) := by decide +kernel
theorem dX11_stop_43 : decode cX11_stop 43 = .ok (.goto 12, 3) := by decide +kernel
theorem dX11_stop_46 : decode cX11_stop 46 = .ok (.aload_n 0, 1) := by decide +kernel
theorem dX11_stop_47 : decode cX11_stop 47 = .ok (.iload_n 1, 1) := by decide +kernel
theorem dX11_stop_48 : decode cX11_stop 48 = .ok (.iload_n 2, 1) := by decide +kernel
theorem dX11_stop_49 : decode cX11_stop 49 = .ok (.invokevirtual 129, 3) := by decide +kernel
theorem dX11_stop_52 : decode cX11_stop 52 = .ok (.ifCond .ne 6, 3) := by decide +kernel
theorem dX11_stop_55 : decode cX11_stop 55 = .ok (.bipush (-103), 2) := by decide +kernel
theorem dX11_stop_57 : decode cX11_stop 57 = .ok (.ireturn, 1) := by decide +kernel
theorem dX11_stop_58 : decode cX11_stop 58 = .ok (.aload_n 0, 1) := by decide +kernel
theorem dX11_stop_59 : decode cX11_stop 59 = .ok (.dup, 1) := by decide +kernel
theorem dX11_stop_60 : decode cX11_stop 60 = .ok (.getfield 86, 3) := by decide +kernel
theorem dX11_stop_63 : decode cX11_stop 63 = .ok (.iload_n 2, 1) := by decide +kernel
theorem dX11_stop_64 : decode cX11_stop 64 = .ok (.iconst 2, 1) := by decide +kernel
theorem dX11_stop_65 : decode cX11_stop 65 = .ok (.if_icmp .ne 11, 3) := by decide +kernel
theorem dX11_stop_68 : decode cX11_stop 68 = .ok (.iconst 1, 1) := by decide +kernel
theorem dX11_stop_69 : decode cX11_stop 69 = .ok (.iload_n 1, 1) := by decide +kernel
theorem dX11_stop_70 : decode cX11_stop 70 = .ok (.ishl, 1) := by decide +kernel
theorem dX11_stop_71 : decode cX11_stop 71 = .ok (.iconst (-1), 1) := by decide +kernel
theorem dX11_stop_72 : decode cX11_stop 72 = .ok (.ixor, 1) := by decide +kernel
theorem dX11_stop_73 : decode cX11_stop 73 = .ok (.goto 4, 3) := by decide +kernel
theorem dX11_stop_76 : decode cX11_stop 76 = .ok (.iconst (-1), 1) := by decide +kernel
theorem dX11_stop_77 : decode cX11_stop 77 = .ok (.iand, 1) := by decide +kernel
theorem dX11_stop_78 : decode cX11_stop 78 = .ok (.putfield 86, 3) := by decide +kernel
theorem dX11_stop_81 : decode cX11_stop 81 = .ok (.aload_n 0, 1) := by decide +kernel
theorem dX11_stop_82 : decode cX11_stop 82 = .ok (.getfield 86, 3) := by decide +kernel
theorem dX11_stop_85 : decode cX11_stop 85 = .ok (.invokestatic 109, 3) := by decide +kernel
theorem dX11_stop_88 : decode cX11_stop 88 = .ok (.ireturn, 1) := by decide +kernel
set_option maxRecDepth 20000 in
theorem ggX11_crack_X11_isEgg : GoodIn wsX11_crack wsX11_isEgg := goodIn_r _ [6, 7, 8, 9, 5, 10, 47, 48, 49, 50, 51, 52, 53, 54, 55, 56, 57, 58, 59, 60, 61, 62, 63, 64, 65, 66, 67, 68, 69, 70, 71, 72, 73, 74, 75, 76, 77, 78] (by decide +kernel) (by decide +kernel)
set_option maxRecDepth 20000 in
theorem gX11_crack_X11_isEgg : GoodIn wsX11_crack (wsV RX11 98 RX11 yX11_isEgg wsX11_isEgg) := goodIn_app (goodIn_of _ (by decide +kernel)) ggX11_crack_X11_isEgg
set_option maxRecDepth 20000 in
theorem ggX11_crack_X11_isInBox : GoodIn wsX11_crack wsX11_isInBox := goodIn_r _ [14, 1, 15, 16, 5, 17, 47, 48, 49, 50, 51, 52, 53, 54, 55, 56, 57, 58, 59, 60, 61, 62, 63, 64, 65, 66, 67, 68, 69, 70, 71, 72, 73, 74, 75, 76, 77, 78] (by decide +kernel) (by decide +kernel)
set_option maxRecDepth 20000 in
theorem gX11_crack_X11_isInBox : GoodIn wsX11_crack (wsV RX11 123 RX11 yX11_isInBox wsX11_isInBox) := goodIn_app (goodIn_of _ (by decide +kernel)) ggX11_crack_X11_isInBox
set_option maxRecDepth 20000 in
theorem ggX11_crack_X11_know : GoodIn wsX11_crack wsX11_know := goodIn_r _ [21, 22, 23, 24, 25, 5, 26, 7, 27, 28, 29, 30, 31, 32, 33, 34, 35, 36, 37, 15, 16, 17, 38, 39, 40, 41, 42, 43, 44, 45, 46, 47, 48, 49, 50, 51, 52, 53, 54, 55, 56, 57, 58, 59, 60, 61, 62, 63, 64, 65, 66, 67, 68, 69, 70, 71, 72, 73, 74, 75, 76, 77, 78] (by decide +kernel) (by decide +kernel)
set_option maxRecDepth 20000 in
theorem gX11_crack_X11_know : GoodIn wsX11_crack (wsV RX11 129 RX11 yX11_know wsX11_know) := goodIn_app (goodIn_of _ (by decide +kernel)) ggX11_crack_X11_know
set_option maxRecDepth 20000 in
theorem ggX11_crack_X11_size : GoodIn wsX11_crack wsX11_size := goodIn_r _ [37] (by decide +kernel) (by decide +kernel)
set_option maxRecDepth 20000 in
theorem gX11_crack_X11_size : GoodIn wsX11_crack (va_wsS RX11 109 yX11_size wsX11_size) := goodIn_app (goodIn_of _ (by decide +kernel)) ggX11_crack_X11_size
theorem dX11_crack_0 : decode cX11_crack 0 = .ok (.aload_n 0, 1) := by decide +kernel
theorem dX11_crack_1 : decode cX11_crack 1 = .ok (.iload_n 1, 1) := by decide +kernel
theorem dX11_crack_2 : decode cX11_crack 2 = .ok (.invokevirtual 98, 3) := by decide +kernel
theorem dX11_crack_5 : decode cX11_crack 5 = .ok (.ifCond .ne 6, 3) := by decide +kernel
theorem dX11_crack_8 : decode cX11_crack 8 = .ok (.bipush (-101), 2) := by decide +kernel
theorem dX11_crack_10 : decode cX11_crack 10 = .ok (.ireturn, 1) := by decide +kernel
theorem dX11_crack_11 : decode cX11_crack 11 = .ok (.aload_n 0, 1) := by decide +kernel
theorem dX11_crack_12 : decode cX11_crack 12 = .ok (.iload_n 1, 1) := by decide +kernel
theorem dX11_crack_13 : decode cX11_crack 13 = .ok (.invokevirtual 123, 3) := by decide +kernel
theorem dX11_crack_16 : decode cX11_crack 16 = .ok (.ifCond .eq 20, 3) := by decide +kernel
theorem dX11_crack_19 : decode cX11_crack 19 = .ok (.aload_n 0, 1) := by decide +kernel
theorem dX11_crack_20 : decode cX11_crack 20 = .ok (.iload_n 1, 1) := by decide +kernel
theorem dX11_crack_21 : decode cX11_crack 21 = .ok (.iload_n 2, 1) := by decide +kernel
theorem dX11_crack_22 : decode cX11_crack 22 = .ok (.ifCond .eq 7, 3) := by decide +kernel
theorem dX11_crack_25 : decode cX11_crack 25 = .ok (.iconst 1, 1) := by decide +kernel
theorem dX11_crack_26 : decode cX11_crack 26 = .ok (.goto 4, 3) := by decide +kernel
theorem dX11_crack_29 : decode cX11_crack 29 = .ok (.iconst 0, 1) := by decide +kernel
theorem dX11_crack_30 : decode cX11_crack 30 = .ok (.invokevirtual 129, 3) := by decide +kernel
theorem dX11_crack_33 : decode cX11_crack 33 = .ok (.ifCond .ne 6, 3) := by decide +kernel
theorem dX11_crack_36 : decode cX11_crack 36 = .ok (.bipush (-103), 2) := by decide +kernel
theorem dX11_crack_38 : decode cX11_crack 38 = .ok (.ireturn, 1) := by decide +kernel
theorem dX11_crack_39 : decode cX11_crack 39 = .ok (.aload_n 0, 1) := by decide +kernel
theorem dX11_crack_40 : decode cX11_crack 40 = .ok (.dup, 1) := by decide +kernel
theorem dX11_crack_41 : decode cX11_crack 41 = .ok (.getfield 86, 3) := by decide +kernel
theorem dX11_crack_44 : decode cX11_crack 44 = .ok (.iconst 1, 1) := by decide +kernel
theorem dX11_crack_45 : decode cX11_crack 45 = .ok (.iload_n 1, 1) := by decide +kernel
theorem dX11_crack_46 : decode cX11_crack 46 = .ok (.ishl, 1) := by decide +kernel
theorem dX11_crack_47 : decode cX11_crack 47 = .ok (.iconst (-1), 1) := by decide +kernel
theorem dX11_crack_48 : decode cX11_crack 48 = .ok (.ixor, 1) := by decide +kernel
theorem dX11_crack_49 : decode cX11_crack 49 = .ok (.iand, 1) := by decide +kernel
theorem dX11_crack_50 : decode cX11_crack 50 = .ok (.putfield 86, 3) := by decide +kernel
theorem dX11_crack_53 : decode cX11_crack 53 = .ok (.aload_n 0, 1) := by decide +kernel
theorem dX11_crack_54 : decode cX11_crack 54 = .ok (.getfield 86, 3) := by decide +kernel
theorem dX11_crack_57 : decode cX11_crack 57 = .ok (.invokestatic 109, 3) := by decide +kernel
theorem dX11_crack_60 : decode cX11_crack 60 = .ok (.ireturn, 1) := by decide +kernel
set_option maxRecDepth 20000 in
theorem ggX11_likelyNow_X11_boiledWeight : GoodIn wsX11_likelyNow wsX11_boiledWeight := goodIn_r _ [5, 6, 7, 8, 4, 9, 10, 11, 12, 13, 14, 15, 16, 17, 18, 19, 20, 21, 22, 23, 24, 25, 26, 27, 28, 29, 30, 38, 39, 40, 41, 42, 43, 44, 45, 46, 47, 48, 49, 50, 51, 52, 53, 54, 55, 56, 57, 58, 59, 60, 61, 62, 63, 64, 65, 66, 67, 68, 69] (by decide +kernel) (by decide +kernel)
set_option maxRecDepth 20000 in
theorem gX11_likelyNow_X11_boiledWeight : GoodIn wsX11_likelyNow (wsV RX11 132 RX11 yX11_boiledWeight wsX11_boiledWeight) := goodIn_app (goodIn_of _ (by decide +kernel)) ggX11_likelyNow_X11_boiledWeight
set_option maxRecDepth 20000 in
theorem ggX11_likelyNow_X11_total : GoodIn wsX11_likelyNow wsX11_total := goodIn_r _ [34, 6, 10, 11, 12, 4, 13, 14, 15, 16, 17, 18, 19, 20, 21, 7, 8, 9, 22, 23, 24, 25, 26, 27, 28, 29, 30, 38, 39, 40, 41, 42, 43, 44, 45, 46, 47, 48, 49, 50, 51, 52, 53, 54, 55, 56, 57, 58, 59, 60, 61, 62, 63, 64, 65, 66, 67, 68, 69] (by decide +kernel) (by decide +kernel)
set_option maxRecDepth 20000 in
theorem gX11_likelyNow_X11_total : GoodIn wsX11_likelyNow (wsV RX11 126 RX11 yX11_total wsX11_total) := goodIn_app (goodIn_of _ (by decide +kernel)) ggX11_likelyNow_X11_total
set_option maxRecDepth 20000 in
theorem ggX11_likelyNow_X11_lowest : GoodIn wsX11_likelyNow wsX11_lowest := goodIn_r _ [37] (by decide +kernel) (by decide +kernel)
set_option maxRecDepth 20000 in
theorem gX11_likelyNow_X11_lowest : GoodIn wsX11_likelyNow (va_wsS RX11 135 yX11_lowest wsX11_lowest) := goodIn_app (goodIn_of _ (by decide +kernel)) ggX11_likelyNow_X11_lowest
theorem dX11_likelyNow_0 : decode cX11_likelyNow 0 = .ok (.aload_n 0, 1) := by decide +kernel
theorem dX11_likelyNow_1 : decode cX11_likelyNow 1 = .ok (.iload_n 1, 1) := by decide +kernel
theorem dX11_likelyNow_2 : decode cX11_likelyNow 2 = .ok (.iconst 0, 1) := by decide +kernel
theorem dX11_likelyNow_3 : decode cX11_likelyNow 3 = .ok (.invokevirtual 132, 3) := by decide +kernel
theorem dX11_likelyNow_6 : decode cX11_likelyNow 6 = .ok (.aload_n 0, 1) := by decide +kernel
theorem dX11_likelyNow_7 : decode cX11_likelyNow 7 = .ok (.iconst (-1), 1) := by decide +kernel
theorem dX11_likelyNow_8 : decode cX11_likelyNow 8 = .ok (.iconst 0, 1) := by decide +kernel
theorem dX11_likelyNow_9 : decode cX11_likelyNow 9 = .ok (.invokevirtual 126, 3) := by decide +kernel
theorem dX11_likelyNow_12 : decode cX11_likelyNow 12 = .ok (.iload_n 2, 1) := by decide +kernel
theorem dX11_likelyNow_13 : decode cX11_likelyNow 13 = .ok (.invokestatic 135, 3) := by decide +kernel
theorem dX11_likelyNow_16 : decode cX11_likelyNow 16 = .ok (.lreturn, 1) := by decide +kernel
set_option maxRecDepth 20000 in
theorem ggX11_likely_X11_isEgg : GoodIn wsX11_likely wsX11_isEgg := goodIn_r _ [7, 8, 9, 10, 6, 11, 51, 52, 53, 54, 55, 56, 57, 58, 59, 60, 61, 62, 63, 64, 65, 66, 67, 68, 69, 70, 71, 72, 73, 74, 75, 76, 77, 78, 79, 80, 81, 82] (by decide +kernel) (by decide +kernel)
set_option maxRecDepth 20000 in
theorem gX11_likely_X11_isEgg : GoodIn wsX11_likely (wsV RX11 98 RX11 yX11_isEgg wsX11_isEgg) := goodIn_app (goodIn_of _ (by decide +kernel)) ggX11_likely_X11_isEgg
set_option maxRecDepth 20000 in
theorem ggX11_likely_X11_within : GoodIn wsX11_likely wsX11_within := goodIn_r _ [11] (by decide +kernel) (by decide +kernel)
set_option maxRecDepth 20000 in
theorem gX11_likely_X11_within : GoodIn wsX11_likely (va_wsS RX11 51 yX11_within wsX11_within) := goodIn_app (goodIn_of _ (by decide +kernel)) ggX11_likely_X11_within
set_option maxRecDepth 20000 in
theorem ggX11_likely_X11_likelyNow : GoodIn wsX11_likely wsX11_likelyNow := goodIn_r _ [15, 16, 17, 18, 6, 19, 8, 20, 21, 22, 23, 24, 25, 26, 27, 28, 29, 30, 31, 32, 33, 34, 35, 36, 37, 38, 39, 40, 41, 42, 43, 44, 45, 46, 47, 48, 49, 50, 51, 52, 53, 54, 55, 56, 57, 58, 59, 60, 61, 62, 63, 64, 65, 66, 67, 68, 69, 70, 71, 72, 73, 74, 75, 76, 77, 78, 79, 80, 81, 82] (by decide +kernel) (by decide +kernel)
set_option maxRecDepth 20000 in
theorem gX11_likely_X11_likelyNow : GoodIn wsX11_likely (wsV RX11 141 RX11 yX11_likelyNow wsX11_likelyNow) := goodIn_app (goodIn_of _ (by decide +kernel)) ggX11_likely_X11_likelyNow
theorem dX11_likely_0 : decode cX11_likely 0 = .ok (.aload_n 0, 1) := by decide +kernel
theorem dX11_likely_1 : decode cX11_likely 1 = .ok (.iload_n 1, 1) := by decide +kernel
theorem dX11_likely_2 : decode cX11_likely 2 = .ok (.invokevirtual 98, 3) := by decide +kernel
theorem dX11_likely_5 : decode cX11_likely 5 = .ok (.ifCond .ne 7, 3) := by decide +kernel
theorem dX11_likely_8 : decode cX11_likely 8 = .ok (.ldc2_w 139, 3) := by decide +kernel
theorem dX11_likely_11 : decode cX11_likely 11 = .ok (.lreturn, 1) := by decide +kernel
theorem dX11_likely_12 : decode cX11_likely 12 = .ok (.iload_n 2, 1) := by decide +kernel
theorem dX11_likely_13 : decode cX11_likely 13 = .ok (.iconst 0, 1) := by decide +kernel
theorem dX11_likely_14 : decode cX11_likely 14 = .ok (.iconst 1, 1) := by decide +kernel
theorem dX11_likely_15 : decode cX11_likely 15 = .ok (.invokestatic 51, 3) := by decide +kernel
theorem dX11_likely_18 : decode cX11_likely 18 = .ok (.ifCond .eq 12, 3) := by decide +kernel
theorem dX11_likely_21 : decode cX11_likely 21 = .ok (.aload_n 0, 1) := by decide +kernel
theorem dX11_likely_22 : decode cX11_likely 22 = .ok (.iload_n 1, 1) := by decide +kernel
theorem dX11_likely_23 : decode cX11_likely 23 = .ok (.iload_n 2, 1) := by decide +kernel
theorem dX11_likely_24 : decode cX11_likely 24 = .ok (.invokevirtual 141, 3) := by decide +kernel
theorem dX11_likely_27 : decode cX11_likely 27 = .ok (.goto 6, 3) := by decide +kernel
theorem dX11_likely_30 : decode cX11_likely 30 = .ok (.ldc2_w 144, 3) := by decide +kernel
theorem dX11_likely_33 : decode cX11_likely 33 = .ok (.lreturn, 1) := by decide +kernel
set_option maxRecDepth 20000 in
theorem ggX11_likeliestNow_X11_weight : GoodIn wsX11_likeliestNow wsX11_weight := goodIn_r _ [6, 7, 1, 8, 9, 10, 11, 12, 13, 5, 14, 15, 16, 17, 18, 19, 20, 21, 22, 23, 24, 25, 26, 27, 28, 29, 30, 31, 32, 33, 34, 35, 36, 37, 38, 39, 40, 41, 42, 43, 44, 45, 46, 47, 48, 49, 50, 51, 52, 53, 54, 55, 56, 57, 58] (by decide +kernel) (by decide +kernel)
set_option maxRecDepth 20000 in
theorem gX11_likeliestNow_X11_weight : GoodIn wsX11_likeliestNow (wsV RX11 119 RX11 yX11_weight wsX11_weight) := goodIn_app (goodIn_of _ (by decide +kernel)) ggX11_likeliestNow_X11_weight
theorem dX11_likeliestNow_0 : decode cX11_likeliestNow 0 = .ok (.iconst (-1), 1) := by decide +kernel
theorem dX11_likeliestNow_1 : decode cX11_likeliestNow 1 = .ok (.istore_n 1, 1) := by decide +kernel
theorem dX11_likeliestNow_2 : decode cX11_likeliestNow 2 = .ok (.lconst 0, 1) := by decide +kernel
theorem dX11_likeliestNow_3 : decode cX11_likeliestNow 3 = .ok (.lstore_n 2, 1) := by decide +kernel
theorem dX11_likeliestNow_4 : decode cX11_likeliestNow 4 = .ok (.iconst 0, 1) := by decide +kernel
theorem dX11_likeliestNow_5 : decode cX11_likeliestNow 5 = .ok (.istore 4, 2) := by decide +kernel
theorem dX11_likeliestNow_7 : decode cX11_likeliestNow 7 = .ok (.iload 4, 2) := by decide +kernel
theorem dX11_likeliestNow_9 : decode cX11_likeliestNow 9 = .ok (.iconst 1, 1) := by decide +kernel
theorem dX11_likeliestNow_10 : decode cX11_likeliestNow 10 = .ok (.aload_n 0, 1) := by decide +kernel
theorem dX11_likeliestNow_11 : decode cX11_likeliestNow 11 = .ok (.getfield 71, 3) := by decide +kernel
theorem dX11_likeliestNow_14 : decode cX11_likeliestNow 14 = .ok (.ishl, 1) := by decide +kernel
theorem dX11_likeliestNow_15 : decode cX11_likeliestNow 15 = .ok (.if_icmp .ge 47, 3) := by decide +kernel
theorem dX11_likeliestNow_18 : decode cX11_likeliestNow 18 = .ok (.aload_n 0, 1) := by decide +kernel
theorem dX11_likeliestNow_19 : decode cX11_likeliestNow 19 = .ok (.iload 4, 2) := by decide +kernel
theorem dX11_likeliestNow_21 : decode cX11_likeliestNow 21 = .ok (.iconst (-1), 1) := by decide +kernel
theorem dX11_likeliestNow_22 : decode cX11_likeliestNow 22 = .ok (.iconst 0, 1) := by decide +kernel
theorem dX11_likeliestNow_23 : decode cX11_likeliestNow 23 = .ok (.invokevirtual 119, 3) := by decide +kernel
theorem dX11_likeliestNow_26 : decode cX11_likeliestNow 26 = .ok (.lstore 5, 2) := by decide +kernel
theorem dX11_likeliestNow_28 : decode cX11_likeliestNow 28 = .ok (.lload 5, 2) := by decide +kernel
theorem dX11_likeliestNow_30 : decode cX11_likeliestNow 30 = .ok (.lload_n 2, 1) := by decide +kernel
theorem dX11_likeliestNow_31 : decode cX11_likeliestNow 31 = .ok (.lcmp, 1) := by decide +kernel
theorem dX11_likeliestNow_32 : decode cX11_likeliestNow 32 = .ok (.ifCond .le 8, 3) := by decide +kernel
theorem dX11_likeliestNow_35 : decode cX11_likeliestNow 35 = .ok (.iload 4, 2) := by decide +kernel
theorem dX11_likeliestNow_37 : decode cX11_likeliestNow 37 = .ok (.goto 4, 3) := by decide +kernel
theorem dX11_likeliestNow_40 : decode cX11_likeliestNow 40 = .ok (.iload_n 1, 1) := by decide +kernel
theorem dX11_likeliestNow_41 : decode cX11_likeliestNow 41 = .ok (.istore_n 1, 1) := by decide +kernel
theorem dX11_likeliestNow_42 : decode cX11_likeliestNow 42 = .ok (.lload 5, 2) := by decide +kernel
theorem dX11_likeliestNow_44 : decode cX11_likeliestNow 44 = .ok (.lload_n 2, 1) := by decide +kernel
theorem dX11_likeliestNow_45 : decode cX11_likeliestNow 45 = .ok (.lcmp, 1) := by decide +kernel
theorem dX11_likeliestNow_46 : decode cX11_likeliestNow 46 = .ok (.ifCond .le 8, 3) := by decide +kernel
theorem dX11_likeliestNow_49 : decode cX11_likeliestNow 49 = .ok (.lload 5, 2) := by decide +kernel
theorem dX11_likeliestNow_51 : decode cX11_likeliestNow 51 = .ok (.goto 4, 3) := by decide +kernel
theorem dX11_likeliestNow_54 : decode cX11_likeliestNow 54 = .ok (.lload_n 2, 1) := by decide +kernel
theorem dX11_likeliestNow_55 : decode cX11_likeliestNow 55 = .ok (.lstore_n 2, 1) := by decide +kernel
theorem dX11_likeliestNow_56 : decode cX11_likeliestNow 56 = .ok (.iinc 4 1, 3) := by decide +kernel
theorem dX11_likeliestNow_59 : decode cX11_likeliestNow 59 = .ok (.goto (-52), 3) := by decide +kernel
theorem dX11_likeliestNow_62 : decode cX11_likeliestNow 62 = .ok (.iload_n 1, 1) := by decide +kernel
theorem dX11_likeliestNow_63 : decode cX11_likeliestNow 63 = .ok (.ireturn, 1) := by decide +kernel
set_option maxRecDepth 20000 in
theorem ggX11_likeliest_X11_likeliestNow : GoodIn wsX11_likeliest wsX11_likeliestNow := goodIn_r _ [6, 1, 7, 8, 9, 5, 10, 11, 12, 13, 14, 15, 16, 17, 18, 19, 20, 21, 22, 23, 24, 25, 26, 27, 28, 29, 30, 31, 32, 33, 34, 35, 36, 37, 38, 39, 40, 41, 42, 43, 44, 45, 46, 47, 48, 49, 50, 51, 52, 53, 54, 55, 56, 57, 58, 59, 60, 61, 62] (by decide +kernel) (by decide +kernel)
set_option maxRecDepth 20000 in
theorem gX11_likeliest_X11_likeliestNow : GoodIn wsX11_likeliest (wsV RX11 146 RX11 yX11_likeliestNow wsX11_likeliestNow) := goodIn_app (goodIn_of _ (by decide +kernel)) ggX11_likeliest_X11_likeliestNow
theorem dX11_likeliest_0 : decode cX11_likeliest 0 = .ok (.aload_n 0, 1) := by decide +kernel
theorem dX11_likeliest_1 : decode cX11_likeliest 1 = .ok (.getfield 71, 3) := by decide +kernel
theorem dX11_likeliest_4 : decode cX11_likeliest 4 = .ok (.ifCond .ne 8, 3) := by decide +kernel
theorem dX11_likeliest_7 : decode cX11_likeliest 7 = .ok (.bipush (-103), 2) := by decide +kernel
theorem dX11_likeliest_9 : decode cX11_likeliest 9 = .ok (.goto 7, 3) := by decide +kernel
theorem dX11_likeliest_12 : decode cX11_likeliest 12 = .ok (.aload_n 0, 1) := by decide +kernel
theorem dX11_likeliest_13 : decode cX11_likeliest 13 = .ok (.invokevirtual 146, 3) := by decide +kernel
theorem dX11_likeliest_16 : decode cX11_likeliest 16 = .ok (.ireturn, 1) := by decide +kernel
set_option maxRecDepth 20000 in
theorem ggX11_turningNow_X11_total : GoodIn wsX11_turningNow wsX11_total := goodIn_r _ [6, 7, 8, 9, 10, 5, 11, 12, 13, 14, 15, 16, 17, 18, 19, 20, 21, 22, 23, 24, 25, 26, 27, 28, 29, 30, 31, 36, 37, 38, 39, 40, 41, 42, 43, 44, 45, 46, 47, 48, 49, 50, 51, 52, 53, 54, 55, 56, 57, 58, 59, 60, 61, 62, 63, 64, 65, 66, 67] (by decide +kernel) (by decide +kernel)
set_option maxRecDepth 20000 in
theorem gX11_turningNow_X11_total : GoodIn wsX11_turningNow (wsV RX11 126 RX11 yX11_total wsX11_total) := goodIn_app (goodIn_of _ (by decide +kernel)) ggX11_turningNow_X11_total
set_option maxRecDepth 20000 in
theorem ggX11_turningNow_X11_boiledWeight : GoodIn wsX11_turningNow wsX11_boiledWeight := goodIn_r _ [35, 7, 20, 21, 5, 22, 8, 9, 10, 11, 12, 13, 14, 15, 16, 17, 18, 19, 23, 24, 25, 26, 27, 28, 29, 30, 31, 36, 37, 38, 39, 40, 41, 42, 43, 44, 45, 46, 47, 48, 49, 50, 51, 52, 53, 54, 55, 56, 57, 58, 59, 60, 61, 62, 63, 64, 65, 66, 67] (by decide +kernel) (by decide +kernel)
set_option maxRecDepth 20000 in
theorem gX11_turningNow_X11_boiledWeight : GoodIn wsX11_turningNow (wsV RX11 132 RX11 yX11_boiledWeight wsX11_boiledWeight) := goodIn_app (goodIn_of _ (by decide +kernel)) ggX11_turningNow_X11_boiledWeight
theorem dX11_turningNow_0 : decode cX11_turningNow 0 = .ok (.iconst 0, 1) := by decide +kernel
theorem dX11_turningNow_1 : decode cX11_turningNow 1 = .ok (.istore_n 3, 1) := by decide +kernel
theorem dX11_turningNow_2 : decode cX11_turningNow 2 = .ok (.iload_n 3, 1) := by decide +kernel
theorem dX11_turningNow_3 : decode cX11_turningNow 3 = .ok (.iconst 5, 1) := by decide +kernel
theorem dX11_turningNow_4 : decode cX11_turningNow 4 = .ok (.if_icmp .gt 45, 3) := by decide +kernel
theorem dX11_turningNow_7 : decode cX11_turningNow 7 = .ok (.aload_n 0, 1) := by decide +kernel
theorem dX11_turningNow_8 : decode cX11_turningNow 8 = .ok (.iload_n 1, 1) := by decide +kernel
theorem dX11_turningNow_9 : decode cX11_turningNow 9 = .ok (.iload_n 3, 1) := by decide +kernel
theorem dX11_turningNow_10 : decode cX11_turningNow 10 = .ok (.invokevirtual 126, 3) := by decide +kernel
theorem dX11_turningNow_13 : decode cX11_turningNow 13 = .ok (.lstore 4, 2) := by decide +kernel
theorem dX11_turningNow_15 : decode cX11_turningNow 15 = .ok (.lload 4, 2) := by decide +kernel
theorem dX11_turningNow_17 : decode cX11_turningNow 17 = .ok (.lconst 0, 1) := by decide +kernel
theorem dX11_turningNow_18 : decode cX11_turningNow 18 = .ok (.lcmp, 1) := by decide +kernel
theorem dX11_turningNow_19 : decode cX11_turningNow 19 = .ok (.ifCond .le 24, 3) := by decide +kernel
theorem dX11_turningNow_22 : decode cX11_turningNow 22 = .ok (.ldc2_w 149, 3) := by decide +kernel
theorem dX11_turningNow_25 : decode cX11_turningNow 25 = .ok (.aload_n 0, 1) := by decide +kernel
theorem dX11_turningNow_26 : decode cX11_turningNow 26 = .ok (.iload_n 1, 1) := by decide +kernel
theorem dX11_turningNow_27 : decode cX11_turningNow 27 = .ok (.iload_n 3, 1) := by decide +kernel
theorem dX11_turningNow_28 : decode cX11_turningNow 28 = .ok (.invokevirtual 132, 3) := by decide +kernel
theorem dX11_turningNow_31 : decode cX11_turningNow 31 = .ok (.lmul, 1) := by decide +kernel
theorem dX11_turningNow_32 : decode cX11_turningNow 32 = .ok (.iload_n 2, 1) := by decide +kernel
theorem dX11_turningNow_33 : decode cX11_turningNow 33 = .ok (.i2l, 1) := by decide +kernel
theorem dX11_turningNow_34 : decode cX11_turningNow 34 = .ok (.lload 4, 2) := by decide +kernel
theorem dX11_turningNow_36 : decode cX11_turningNow 36 = .ok (.lmul, 1) := by decide +kernel
theorem dX11_turningNow_37 : decode cX11_turningNow 37 = .ok (.lcmp, 1) := by decide +kernel
theorem dX11_turningNow_38 : decode cX11_turningNow 38 = .ok (.ifCond .lt 5, 3) := by decide +kernel
theorem dX11_turningNow_41 : decode cX11_turningNow 41 = .ok (.iload_n 3, 1) := by decide +kernel
theorem dX11_turningNow_42 : decode cX11_turningNow 42 = .ok (.ireturn, 1) := by decide +kernel
theorem dX11_turningNow_43 : decode cX11_turningNow 43 = .ok (.iinc 3 1, 3) := by decide +kernel
theorem dX11_turningNow_46 : decode cX11_turningNow 46 = .ok (.goto (-44), 3) := by decide +kernel
theorem dX11_turningNow_49 : decode cX11_turningNow 49 = .ok (.iconst (-1), 1) := by decide +kernel
theorem dX11_turningNow_50 : decode cX11_turningNow 50 = .ok (.ireturn, 1) := by decide +kernel
set_option maxRecDepth 20000 in
theorem ggX11_turning_X11_isEgg : GoodIn wsX11_turning wsX11_isEgg := goodIn_r _ [5, 6, 7, 8, 4, 9, 47, 48, 49, 50, 51, 52, 53, 54, 55, 56, 57, 58, 59, 60, 61, 62, 63, 64, 65, 66, 67, 68, 69, 70, 71, 72, 73, 74, 75, 76, 77, 78] (by decide +kernel) (by decide +kernel)
set_option maxRecDepth 20000 in
theorem gX11_turning_X11_isEgg : GoodIn wsX11_turning (wsV RX11 98 RX11 yX11_isEgg wsX11_isEgg) := goodIn_app (goodIn_of _ (by decide +kernel)) ggX11_turning_X11_isEgg
set_option maxRecDepth 20000 in
theorem ggX11_turning_X11_within : GoodIn wsX11_turning wsX11_within := goodIn_r _ [9] (by decide +kernel) (by decide +kernel)
set_option maxRecDepth 20000 in
theorem gX11_turning_X11_within : GoodIn wsX11_turning (va_wsS RX11 51 yX11_within wsX11_within) := goodIn_app (goodIn_of _ (by decide +kernel)) ggX11_turning_X11_within
set_option maxRecDepth 20000 in
theorem ggX11_turning_X11_turningNow : GoodIn wsX11_turning wsX11_turningNow := goodIn_r _ [13, 14, 15, 16, 17, 4, 18, 6, 19, 20, 21, 22, 23, 24, 25, 26, 27, 28, 29, 30, 31, 32, 33, 34, 35, 36, 37, 38, 39, 40, 41, 42, 43, 44, 45, 46, 47, 48, 49, 50, 51, 52, 53, 54, 55, 56, 57, 58, 59, 60, 61, 62, 63, 64, 65, 66, 67, 68, 69, 70, 71, 72, 73, 74, 75, 76, 77, 78] (by decide +kernel) (by decide +kernel)
set_option maxRecDepth 20000 in
theorem gX11_turning_X11_turningNow : GoodIn wsX11_turning (wsV RX11 151 RX11 yX11_turningNow wsX11_turningNow) := goodIn_app (goodIn_of _ (by decide +kernel)) ggX11_turning_X11_turningNow
theorem dX11_turning_0 : decode cX11_turning 0 = .ok (.aload_n 0, 1) := by decide +kernel
theorem dX11_turning_1 : decode cX11_turning 1 = .ok (.iload_n 1, 1) := by decide +kernel
theorem dX11_turning_2 : decode cX11_turning 2 = .ok (.invokevirtual 98, 3) := by decide +kernel
theorem dX11_turning_5 : decode cX11_turning 5 = .ok (.ifCond .ne 6, 3) := by decide +kernel
theorem dX11_turning_8 : decode cX11_turning 8 = .ok (.bipush (-101), 2) := by decide +kernel
theorem dX11_turning_10 : decode cX11_turning 10 = .ok (.ireturn, 1) := by decide +kernel
theorem dX11_turning_11 : decode cX11_turning 11 = .ok (.iload_n 2, 1) := by decide +kernel
theorem dX11_turning_12 : decode cX11_turning 12 = .ok (.iconst 1, 1) := by decide +kernel
theorem dX11_turning_13 : decode cX11_turning 13 = .ok (.bipush 9, 2) := by decide +kernel
theorem dX11_turning_15 : decode cX11_turning 15 = .ok (.invokestatic 51, 3) := by decide +kernel
theorem dX11_turning_18 : decode cX11_turning 18 = .ok (.ifCond .eq 12, 3) := by decide +kernel
theorem dX11_turning_21 : decode cX11_turning 21 = .ok (.aload_n 0, 1) := by decide +kernel
theorem dX11_turning_22 : decode cX11_turning 22 = .ok (.iload_n 1, 1) := by decide +kernel
theorem dX11_turning_23 : decode cX11_turning 23 = .ok (.iload_n 2, 1) := by decide +kernel
theorem dX11_turning_24 : decode cX11_turning 24 = .ok (.invokevirtual 151, 3) := by decide +kernel
theorem dX11_turning_27 : decode cX11_turning 27 = .ok (.goto 5, 3) := by decide +kernel
theorem dX11_turning_30 : decode cX11_turning 30 = .ok (.bipush (-102), 2) := by decide +kernel
theorem dX11_turning_32 : decode cX11_turning 32 = .ok (.ireturn, 1) := by decide +kernel
theorem dX11_three_0 : decode cX11_three 0 = .ok (.iconst 1, 1) := by decide +kernel
theorem dX11_three_1 : decode cX11_three 1 = .ok (.istore_n 1, 1) := by decide +kernel
theorem dX11_three_2 : decode cX11_three 2 = .ok (.iconst 0, 1) := by decide +kernel
theorem dX11_three_3 : decode cX11_three 3 = .ok (.istore_n 2, 1) := by decide +kernel
theorem dX11_three_4 : decode cX11_three 4 = .ok (.iload_n 2, 1) := by decide +kernel
theorem dX11_three_5 : decode cX11_three 5 = .ok (.iload_n 0, 1) := by decide +kernel
theorem dX11_three_6 : decode cX11_three 6 = .ok (.if_icmp .ge 13, 3) := by decide +kernel
theorem dX11_three_9 : decode cX11_three 9 = .ok (.iload_n 1, 1) := by decide +kernel
theorem dX11_three_10 : decode cX11_three 10 = .ok (.iconst 3, 1) := by decide +kernel
theorem dX11_three_11 : decode cX11_three 11 = .ok (.imul, 1) := by decide +kernel
theorem dX11_three_12 : decode cX11_three 12 = .ok (.istore_n 1, 1) := by decide +kernel
theorem dX11_three_13 : decode cX11_three 13 = .ok (.iinc 2 1, 3) := by decide +kernel
theorem dX11_three_16 : decode cX11_three 16 = .ok (.goto (-12), 3) := by decide +kernel
theorem dX11_three_19 : decode cX11_three 19 = .ok (.iload_n 1, 1) := by decide +kernel
theorem dX11_three_20 : decode cX11_three 20 = .ok (.ireturn, 1) := by decide +kernel
set_option maxRecDepth 20000 in
theorem ggX11_figureOf_X11_three : GoodIn wsX11_figureOf wsX11_three := goodIn_r _ [4] (by decide +kernel) (by decide +kernel)
set_option maxRecDepth 20000 in
theorem gX11_figureOf_X11_three : GoodIn wsX11_figureOf (va_wsS RX11 154 yX11_three wsX11_three) := goodIn_app (goodIn_of _ (by decide +kernel)) ggX11_figureOf_X11_three
theorem dX11_figureOf_0 : decode cX11_figureOf 0 = .ok (.iload_n 0, 1) := by decide +kernel
theorem dX11_figureOf_1 : decode cX11_figureOf 1 = .ok (.iload_n 1, 1) := by decide +kernel
theorem dX11_figureOf_2 : decode cX11_figureOf 2 = .ok (.invokestatic 154, 3) := by decide +kernel
theorem dX11_figureOf_5 : decode cX11_figureOf 5 = .ok (.idiv, 1) := by decide +kernel
theorem dX11_figureOf_6 : decode cX11_figureOf 6 = .ok (.iconst 3, 1) := by decide +kernel
theorem dX11_figureOf_7 : decode cX11_figureOf 7 = .ok (.irem, 1) := by decide +kernel
theorem dX11_figureOf_8 : decode cX11_figureOf 8 = .ok (.ireturn, 1) := by decide +kernel
set_option maxRecDepth 20000 in
theorem ggX11_eggsOf_X11_figureOf : GoodIn wsX11_eggsOf wsX11_figureOf := goodIn_r _ [4, 5, 6, 3, 7] (by decide +kernel) (by decide +kernel)
set_option maxRecDepth 20000 in
theorem gX11_eggsOf_X11_figureOf : GoodIn wsX11_eggsOf (va_wsS RX11 157 yX11_figureOf wsX11_figureOf) := goodIn_app (goodIn_of _ (by decide +kernel)) ggX11_eggsOf_X11_figureOf
theorem dX11_eggsOf_0 : decode cX11_eggsOf 0 = .ok (.iconst 0, 1) := by decide +kernel
theorem dX11_eggsOf_1 : decode cX11_eggsOf 1 = .ok (.istore_n 3, 1) := by decide +kernel
theorem dX11_eggsOf_2 : decode cX11_eggsOf 2 = .ok (.iconst 0, 1) := by decide +kernel
theorem dX11_eggsOf_3 : decode cX11_eggsOf 3 = .ok (.istore 4, 2) := by decide +kernel
theorem dX11_eggsOf_5 : decode cX11_eggsOf 5 = .ok (.iload 4, 2) := by decide +kernel
theorem dX11_eggsOf_7 : decode cX11_eggsOf 7 = .ok (.bipush 6, 2) := by decide +kernel
theorem dX11_eggsOf_9 : decode cX11_eggsOf 9 = .ok (.if_icmp .ge 46, 3) := by decide +kernel
theorem dX11_eggsOf_12 : decode cX11_eggsOf 12 = .ok (.iload_n 1, 1) := by decide +kernel
theorem dX11_eggsOf_13 : decode cX11_eggsOf 13 = .ok (.iload 4, 2) := by decide +kernel
theorem dX11_eggsOf_15 : decode cX11_eggsOf 15 = .ok (.invokestatic 157, 3) := by decide +kernel
theorem dX11_eggsOf_18 : decode cX11_eggsOf 18 = .ok (.istore 5, 2) := by decide +kernel
theorem dX11_eggsOf_20 : decode cX11_eggsOf 20 = .ok (.iload_n 3, 1) := by decide +kernel
theorem dX11_eggsOf_21 : decode cX11_eggsOf 21 = .ok (.iload_n 2, 1) := by decide +kernel
theorem dX11_eggsOf_22 : decode cX11_eggsOf 22 = .ok (.ifCond .ne 11, 3) := by decide +kernel
theorem dX11_eggsOf_25 : decode cX11_eggsOf 25 = .ok (.iload 5, 2) := by decide +kernel
theorem dX11_eggsOf_27 : decode cX11_eggsOf 27 = .ok (.ifCond .le 19, 3) := by decide +kernel
theorem dX11_eggsOf_30 : decode cX11_eggsOf 30 = .ok (.goto 9, 3) := by decide +kernel
theorem dX11_eggsOf_33 : decode cX11_eggsOf 33 = .ok (.iload 5, 2) := by decide +kernel
theorem dX11_eggsOf_35 : decode cX11_eggsOf 35 = .ok (.iload_n 2, 1) := by decide +kernel
theorem dX11_eggsOf_36 : decode cX11_eggsOf 36 = .ok (.if_icmp .ne 10, 3) := by decide +kernel
theorem dX11_eggsOf_39 : decode cX11_eggsOf 39 = .ok (.iconst 1, 1) := by decide +kernel
theorem dX11_eggsOf_40 : decode cX11_eggsOf 40 = .ok (.iload 4, 2) := by decide +kernel
theorem dX11_eggsOf_42 : decode cX11_eggsOf 42 = .ok (.ishl, 1) := by decide +kernel
theorem dX11_eggsOf_43 : decode cX11_eggsOf 43 = .ok (.goto 4, 3) := by decide +kernel
theorem dX11_eggsOf_46 : decode cX11_eggsOf 46 = .ok (.iconst 0, 1) := by decide +kernel
theorem dX11_eggsOf_47 : decode cX11_eggsOf 47 = .ok (.ior, 1) := by decide +kernel
theorem dX11_eggsOf_48 : decode cX11_eggsOf 48 = .ok (.istore_n 3, 1) := by decide +kernel
theorem dX11_eggsOf_49 : decode cX11_eggsOf 49 = .ok (.iinc 4 1, 3) := by decide +kernel
theorem dX11_eggsOf_52 : decode cX11_eggsOf 52 = .ok (.goto (-47), 3) := by decide +kernel
theorem dX11_eggsOf_55 : decode cX11_eggsOf 55 = .ok (.iload_n 3, 1) := by decide +kernel
theorem dX11_eggsOf_56 : decode cX11_eggsOf 56 = .ok (.ireturn, 1) := by decide +kernel
set_option maxRecDepth 20000 in
theorem ggX11_layWeights_X11_eggsOf : GoodIn wsX11_layWeights wsX11_eggsOf := goodIn_r _ [9, 10, 11, 8, 12, 13, 14, 15] (by decide +kernel) (by decide +kernel)
set_option maxRecDepth 20000 in
theorem gX11_layWeights_X11_eggsOf : GoodIn wsX11_layWeights (wsV RX11 160 RX11 yX11_eggsOf wsX11_eggsOf) := goodIn_app (goodIn_of _ (by decide +kernel)) ggX11_layWeights_X11_eggsOf
theorem dX11_layWeights_0 : decode cX11_layWeights 0 = .ok (.iconst 0, 1) := by decide +kernel
theorem dX11_layWeights_1 : decode cX11_layWeights 1 = .ok (.istore_n 1, 1) := by decide +kernel
theorem dX11_layWeights_2 : decode cX11_layWeights 2 = .ok (.iload_n 1, 1) := by decide +kernel
theorem dX11_layWeights_3 : decode cX11_layWeights 3 = .ok (.sipush 729, 3) := by decide +kernel
theorem dX11_layWeights_6 : decode cX11_layWeights 6 = .ok (.if_icmp .ge 89, 3) := by decide +kernel
theorem dX11_layWeights_9 : decode cX11_layWeights 9 = .ok (.aload_n 0, 1) := by decide +kernel
theorem dX11_layWeights_10 : decode cX11_layWeights 10 = .ok (.iload_n 1, 1) := by decide +kernel
theorem dX11_layWeights_11 : decode cX11_layWeights 11 = .ok (.iconst 0, 1) := by decide +kernel
theorem dX11_layWeights_12 : decode cX11_layWeights 12 = .ok (.invokevirtual 160, 3) := by decide +kernel
theorem dX11_layWeights_15 : decode cX11_layWeights 15 = .ok (.istore_n 2, 1) := by decide +kernel
theorem dX11_layWeights_16 : decode cX11_layWeights 16 = .ok (.aload_n 0, 1) := by decide +kernel
theorem dX11_layWeights_17 : decode cX11_layWeights 17 = .ok (.iload_n 1, 1) := by decide +kernel
theorem dX11_layWeights_18 : decode cX11_layWeights 18 = .ok (.iconst 2, 1) := by decide +kernel
theorem dX11_layWeights_19 : decode cX11_layWeights 19 = .ok (.invokevirtual 160, 3) := by decide +kernel
theorem dX11_layWeights_22 : decode cX11_layWeights 22 = .ok (.istore_n 3, 1) := by decide +kernel
theorem dX11_layWeights_23 : decode cX11_layWeights 23 = .ok (.lconst 0, 1) := by decide +kernel
theorem dX11_layWeights_24 : decode cX11_layWeights 24 = .ok (.lstore 4, 2) := by decide +kernel
theorem dX11_layWeights_26 : decode cX11_layWeights 26 = .ok (.iconst 0, 1) := by decide +kernel
theorem dX11_layWeights_27 : decode cX11_layWeights 27 = .ok (.istore 6, 2) := by decide +kernel
theorem dX11_layWeights_29 : decode cX11_layWeights 29 = .ok (.iload 6, 2) := by decide +kernel
theorem dX11_layWeights_31 : decode cX11_layWeights 31 = .ok (.iconst 1, 1) := by decide +kernel
theorem dX11_layWeights_32 : decode cX11_layWeights 32 = .ok (.aload_n 0, 1) := by decide +kernel
theorem dX11_layWeights_33 : decode cX11_layWeights 33 = .ok (.getfield 71, 3) := by decide +kernel
theorem dX11_layWeights_36 : decode cX11_layWeights 36 = .ok (.ishl, 1) := by decide +kernel
theorem dX11_layWeights_37 : decode cX11_layWeights 37 = .ok (.if_icmp .ge 44, 3) := by decide +kernel
theorem dX11_layWeights_40 : decode cX11_layWeights 40 = .ok (.iload_n 2, 1) := by decide +kernel
theorem dX11_layWeights_41 : decode cX11_layWeights 41 = .ok (.aload_n 0, 1) := by decide +kernel
theorem dX11_layWeights_42 : decode cX11_layWeights 42 = .ok (.getfield 86, 3) := by decide +kernel
theorem dX11_layWeights_45 : decode cX11_layWeights 45 = .ok (.iconst (-1), 1) := by decide +kernel
theorem dX11_layWeights_46 : decode cX11_layWeights 46 = .ok (.ixor, 1) := by decide +kernel
theorem dX11_layWeights_47 : decode cX11_layWeights 47 = .ok (.iand, 1) := by decide +kernel
theorem dX11_layWeights_48 : decode cX11_layWeights 48 = .ok (.ifCond .ne 33, 3) := by decide +kernel
theorem dX11_layWeights_51 : decode cX11_layWeights 51 = .ok (.lload 4, 2) := by decide +kernel
theorem dX11_layWeights_53 : decode cX11_layWeights 53 = .ok (.iload 6, 2) := by decide +kernel
theorem dX11_layWeights_55 : decode cX11_layWeights 55 = .ok (.iload_n 2, 1) := by decide +kernel
theorem dX11_layWeights_56 : decode cX11_layWeights 56 = .ok (.iand, 1) := by decide +kernel
theorem dX11_layWeights_57 : decode cX11_layWeights 57 = .ok (.iload_n 3, 1) := by decide +kernel
theorem dX11_layWeights_58 : decode cX11_layWeights 58 = .ok (.if_icmp .ne 13, 3) := by decide +kernel
theorem dX11_layWeights_61 : decode cX11_layWeights 61 = .ok (.aload_n 0, 1) := by decide +kernel
theorem dX11_layWeights_62 : decode cX11_layWeights 62 = .ok (.getfield 39, 3) := by decide +kernel
theorem dX11_layWeights_65 : decode cX11_layWeights 65 = .ok (.iload 6, 2) := by decide +kernel
theorem dX11_layWeights_67 : decode cX11_layWeights 67 = .ok (.laload, 1) := by decide +kernel
theorem dX11_layWeights_68 : decode cX11_layWeights 68 = .ok (.goto 4, 3) := by decide +kernel
theorem dX11_layWeights_71 : decode cX11_layWeights 71 = .ok (.lconst 0, 1) := by decide +kernel
theorem dX11_layWeights_72 : decode cX11_layWeights 72 = .ok (.ladd, 1) := by decide +kernel
theorem dX11_layWeights_73 : decode cX11_layWeights 73 = .ok (.lstore 4, 2) := by decide +kernel
theorem dX11_layWeights_75 : decode cX11_layWeights 75 = .ok (.iinc 6 1, 3) := by decide +kernel
theorem dX11_layWeights_78 : decode cX11_layWeights 78 = .ok (.goto (-49), 3) := by decide +kernel
theorem dX11_layWeights_81 : decode cX11_layWeights 81 = .ok (.aload_n 0, 1) := by decide +kernel
theorem dX11_layWeights_82 : decode cX11_layWeights 82 = .ok (.getfield 29, 3) := by decide +kernel
theorem dX11_layWeights_85 : decode cX11_layWeights 85 = .ok (.iload_n 1, 1) := by decide +kernel
theorem dX11_layWeights_86 : decode cX11_layWeights 86 = .ok (.lload 4, 2) := by decide +kernel
theorem dX11_layWeights_88 : decode cX11_layWeights 88 = .ok (.lastore, 1) := by decide +kernel
theorem dX11_layWeights_89 : decode cX11_layWeights 89 = .ok (.iinc 1 1, 3) := by decide +kernel
theorem dX11_layWeights_92 : decode cX11_layWeights 92 = .ok (.goto (-90), 3) := by decide +kernel
theorem dX11_layWeights_95 : decode cX11_layWeights 95 = .ok (.return_, 1) := by decide +kernel
set_option maxRecDepth 20000 in
theorem ggX11_layState_X11_eggsOf : GoodIn wsX11_layState wsX11_eggsOf := goodIn_r _ [11, 12, 13, 10, 14, 15, 16, 17] (by decide +kernel) (by decide +kernel)
set_option maxRecDepth 20000 in
theorem gX11_layState_X11_eggsOf : GoodIn wsX11_layState (wsV RX11 160 RX11 yX11_eggsOf wsX11_eggsOf) := goodIn_app (goodIn_of _ (by decide +kernel)) ggX11_layState_X11_eggsOf
set_option maxRecDepth 20000 in
theorem ggX11_layState_X11_size : GoodIn wsX11_layState wsX11_size := goodIn_r _ [20] (by decide +kernel) (by decide +kernel)
set_option maxRecDepth 20000 in
theorem gX11_layState_X11_size : GoodIn wsX11_layState (va_wsS RX11 109 yX11_size wsX11_size) := goodIn_app (goodIn_of _ (by decide +kernel)) ggX11_layState_X11_size
set_option maxRecDepth 20000 in
theorem ggX11_layState_X11_isInBox : GoodIn wsX11_layState wsX11_isInBox := goodIn_r _ [24, 25, 26, 27, 10, 28, 33, 34, 35, 36, 37, 38, 39, 40, 41, 42, 43, 44, 45, 46, 47, 48, 49, 50, 51, 52, 53, 54, 55, 56, 57, 58, 59, 60, 61, 62, 63, 64] (by decide +kernel) (by decide +kernel)
set_option maxRecDepth 20000 in
theorem gX11_layState_X11_isInBox : GoodIn wsX11_layState (wsV RX11 123 RX11 yX11_isInBox wsX11_isInBox) := goodIn_app (goodIn_of _ (by decide +kernel)) ggX11_layState_X11_isInBox
set_option maxRecDepth 20000 in
theorem ggX11_layState_X11_figureOf : GoodIn wsX11_layState wsX11_figureOf := goodIn_r _ [14, 15, 16, 10, 17] (by decide +kernel) (by decide +kernel)
set_option maxRecDepth 20000 in
theorem gX11_layState_X11_figureOf : GoodIn wsX11_layState (va_wsS RX11 157 yX11_figureOf wsX11_figureOf) := goodIn_app (goodIn_of _ (by decide +kernel)) ggX11_layState_X11_figureOf
set_option maxRecDepth 20000 in
theorem ggX11_layState_X11_three : GoodIn wsX11_layState wsX11_three := goodIn_r _ [17] (by decide +kernel) (by decide +kernel)
set_option maxRecDepth 20000 in
theorem gX11_layState_X11_three : GoodIn wsX11_layState (va_wsS RX11 154 yX11_three wsX11_three) := goodIn_app (goodIn_of _ (by decide +kernel)) ggX11_layState_X11_three
set_option maxRecDepth 20000 in
theorem ggX11_layState_X11_larger : GoodIn wsX11_layState wsX11_larger := goodIn_r _ [32, 4, 1, 33, 34, 35, 36, 37, 38, 39, 40, 41, 42, 43, 44, 45, 46, 47, 48, 49, 50, 51, 52, 53, 54, 55, 56, 57, 58, 59, 60, 61, 62, 63, 64] (by decide +kernel) (by decide +kernel)
set_option maxRecDepth 20000 in
theorem gX11_layState_X11_larger : GoodIn wsX11_layState (wsV RX11 168 RX11 yX11_larger wsX11_larger) := goodIn_app (goodIn_of _ (by decide +kernel)) ggX11_layState_X11_larger
theorem dX11_layState_0 : decode cX11_layState 0 = .ok (.aload_n 0, 1) := by decide +kernel
theorem dX11_layState_1 : decode cX11_layState 1 = .ok (.getfield 33, 3) := by decide +kernel
theorem dX11_layState_4 : decode cX11_layState 4 = .ok (.iload_n 1, 1) := by decide +kernel
theorem dX11_layState_5 : decode cX11_layState 5 = .ok (.iconst 0, 1) := by decide +kernel
theorem dX11_layState_6 : decode cX11_layState 6 = .ok (.iastore, 1) := by decide +kernel
theorem dX11_layState_7 : decode cX11_layState 7 = .ok (.aload_n 0, 1) := by decide +kernel
theorem dX11_layState_8 : decode cX11_layState 8 = .ok (.getfield 36, 3) := by decide +kernel
theorem dX11_layState_11 : decode cX11_layState 11 = .ok (.iload_n 1, 1) := by decide +kernel
theorem dX11_layState_12 : decode cX11_layState 12 = .ok (.lconst 0, 1) := by decide +kernel
theorem dX11_layState_13 : decode cX11_layState 13 = .ok (.lastore, 1) := by decide +kernel
theorem dX11_layState_14 : decode cX11_layState 14 = .ok (.aload_n 0, 1) := by decide +kernel
theorem dX11_layState_15 : decode cX11_layState 15 = .ok (.iconst (-1), 1) := by decide +kernel
theorem dX11_layState_16 : decode cX11_layState 16 = .ok (.putfield 163, 3) := by decide +kernel
theorem dX11_layState_19 : decode cX11_layState 19 = .ok (.aload_n 0, 1) := by decide +kernel
theorem dX11_layState_20 : decode cX11_layState 20 = .ok (.getfield 29, 3) := by decide +kernel
theorem dX11_layState_23 : decode cX11_layState 23 = .ok (.iload_n 1, 1) := by decide +kernel
theorem dX11_layState_24 : decode cX11_layState 24 = .ok (.laload, 1) := by decide +kernel
theorem dX11_layState_25 : decode cX11_layState 25 = .ok (.lconst 0, 1) := by decide +kernel
theorem dX11_layState_26 : decode cX11_layState 26 = .ok (.lcmp, 1) := by decide +kernel
theorem dX11_layState_27 : decode cX11_layState 27 = .ok (.ifCond .eq 16, 3) := by decide +kernel
theorem dX11_layState_30 : decode cX11_layState 30 = .ok (.aload_n 0, 1) := by decide +kernel
theorem dX11_layState_31 : decode cX11_layState 31 = .ok (.iload_n 1, 1) := by decide +kernel
theorem dX11_layState_32 : decode cX11_layState 32 = .ok (.iconst 1, 1) := by decide +kernel
theorem dX11_layState_33 : decode cX11_layState 33 = .ok (.invokevirtual 160, 3) := by decide +kernel
theorem dX11_layState_36 : decode cX11_layState 36 = .ok (.invokestatic 109, 3) := by decide +kernel
theorem dX11_layState_39 : decode cX11_layState 39 = .ok (.iload_n 2, 1) := by decide +kernel
theorem dX11_layState_40 : decode cX11_layState 40 = .ok (.if_icmp .lt 4, 3) := by decide +kernel
theorem dX11_layState_43 : decode cX11_layState 43 = .ok (.return_, 1) := by decide +kernel
theorem dX11_layState_44 : decode cX11_layState 44 = .ok (.bipush 7, 2) := by decide +kernel
theorem dX11_layState_46 : decode cX11_layState 46 = .ok (.istore_n 3, 1) := by decide +kernel
theorem dX11_layState_47 : decode cX11_layState 47 = .ok (.ldc2_w 166, 3) := by decide +kernel
theorem dX11_layState_50 : decode cX11_layState 50 = .ok (.lstore 4, 2) := by decide +kernel
theorem dX11_layState_52 : decode cX11_layState 52 = .ok (.iconst 0, 1) := by decide +kernel
theorem dX11_layState_53 : decode cX11_layState 53 = .ok (.istore 6, 2) := by decide +kernel
theorem dX11_layState_55 : decode cX11_layState 55 = .ok (.iload 6, 2) := by decide +kernel
theorem dX11_layState_57 : decode cX11_layState 57 = .ok (.aload_n 0, 1) := by decide +kernel
theorem dX11_layState_58 : decode cX11_layState 58 = .ok (.getfield 71, 3) := by decide +kernel
theorem dX11_layState_61 : decode cX11_layState 61 = .ok (.if_icmp .ge 148, 3) := by decide +kernel
theorem dX11_layState_64 : decode cX11_layState 64 = .ok (.aload_n 0, 1) := by decide +kernel
theorem dX11_layState_65 : decode cX11_layState 65 = .ok (.iload 6, 2) := by decide +kernel
theorem dX11_layState_67 : decode cX11_layState 67 = .ok (.invokevirtual 123, 3) := by decide +kernel
theorem dX11_layState_70 : decode cX11_layState 70 = .ok (.ifCond .eq 133, 3) := by decide +kernel
theorem dX11_layState_73 : decode cX11_layState 73 = .ok (.iload_n 1, 1) := by decide +kernel
theorem dX11_layState_74 : decode cX11_layState 74 = .ok (.iload 6, 2) := by decide +kernel
theorem dX11_layState_76 : decode cX11_layState 76 = .ok (.invokestatic 157, 3) := by decide +kernel
theorem dX11_layState_79 : decode cX11_layState 79 = .ok (.ifCond .ne 124, 3) := by decide +kernel
theorem dX11_layState_82 : decode cX11_layState 82 = .ok (.iload_n 1, 1) := by decide +kernel
theorem dX11_layState_83 : decode cX11_layState 83 = .ok (.iload 6, 2) := by decide +kernel
theorem dX11_layState_85 : decode cX11_layState 85 = .ok (.invokestatic 154, 3) := by decide +kernel
theorem dX11_layState_88 : decode cX11_layState 88 = .ok (.iadd, 1) := by decide +kernel
theorem dX11_layState_89 : decode cX11_layState 89 = .ok (.istore 7, 2) := by decide +kernel
theorem dX11_layState_91 : decode cX11_layState 91 = .ok (.iload_n 1, 1) := by decide +kernel
theorem dX11_layState_92 : decode cX11_layState 92 = .ok (.iconst 2, 1) := by decide +kernel
theorem dX11_layState_93 : decode cX11_layState 93 = .ok (.iload 6, 2) := by decide +kernel
theorem dX11_layState_95 : decode cX11_layState 95 = .ok (.invokestatic 154, 3) := by decide +kernel
theorem dX11_layState_98 : decode cX11_layState 98 = .ok (.imul, 1) := by decide +kernel
theorem dX11_layState_99 : decode cX11_layState 99 = .ok (.iadd, 1) := by decide +kernel
theorem dX11_layState_100 : decode cX11_layState 100 = .ok (.istore 8, 2) := by decide +kernel
theorem dX11_layState_102 : decode cX11_layState 102 = .ok (.iconst 1, 1) := by decide +kernel
theorem dX11_layState_103 : decode cX11_layState 103 = .ok (.aload_n 0, 1) := by decide +kernel
theorem dX11_layState_104 : decode cX11_layState 104 = .ok (.iload 7, 2) := by decide +kernel
theorem dX11_layState_106 : decode cX11_layState 106 = .ok (.iload 8, 2) := by decide +kernel
theorem dX11_layState_108 : decode cX11_layState 108 = .ok (.invokevirtual 168, 3) := by decide +kernel
theorem dX11_layState_111 : decode cX11_layState 111 = .ok (.iadd, 1) := by decide +kernel
theorem dX11_layState_112 : decode cX11_layState 112 = .ok (.istore 9, 2) := by decide +kernel
theorem dX11_layState_114 : decode cX11_layState 114 = .ok (.aload_n 0, 1) := by decide +kernel
theorem dX11_layState_115 : decode cX11_layState 115 = .ok (.getfield 29, 3) := by decide +kernel
theorem dX11_layState_118 : decode cX11_layState 118 = .ok (.iload_n 1, 1) := by decide +kernel
theorem dX11_layState_119 : decode cX11_layState 119 = .ok (.laload, 1) := by decide +kernel
theorem dX11_layState_120 : decode cX11_layState 120 = .ok (.aload_n 0, 1) := by decide +kernel
theorem dX11_layState_121 : decode cX11_layState 121 = .ok (.getfield 36, 3) := by decide +kernel
theorem dX11_layState_124 : decode cX11_layState 124 = .ok (.iload 7, 2) := by decide +kernel
theorem dX11_layState_126 : decode cX11_layState 126 = .ok (.laload, 1) := by decide +kernel
theorem dX11_layState_127 : decode cX11_layState 127 = .ok (.ladd, 1) := by decide +kernel
theorem dX11_layState_128 : decode cX11_layState 128 = .ok (.aload_n 0, 1) := by decide +kernel
theorem dX11_layState_129 : decode cX11_layState 129 = .ok (.getfield 36, 3) := by decide +kernel
theorem dX11_layState_132 : decode cX11_layState 132 = .ok (.iload 8, 2) := by decide +kernel
theorem dX11_layState_134 : decode cX11_layState 134 = .ok (.laload, 1) := by decide +kernel
theorem dX11_layState_135 : decode cX11_layState 135 = .ok (.ladd, 1) := by decide +kernel
theorem dX11_layState_136 : decode cX11_layState 136 = .ok (.lstore 10, 2) := by decide +kernel
theorem dX11_layState_138 : decode cX11_layState 138 = .ok (.iload 9, 2) := by decide +kernel
theorem dX11_layState_140 : decode cX11_layState 140 = .ok (.iload_n 3, 1) := by decide +kernel
theorem dX11_layState_141 : decode cX11_layState 141 = .ok (.if_icmp .ge 8, 3) := by decide +kernel
theorem dX11_layState_144 : decode cX11_layState 144 = .ok (.iload 9, 2) := by decide +kernel
theorem dX11_layState_146 : decode cX11_layState 146 = .ok (.goto 4, 3) := by decide +kernel
theorem dX11_layState_149 : decode cX11_layState 149 = .ok (.iload_n 3, 1) := by decide +kernel
theorem dX11_layState_150 : decode cX11_layState 150 = .ok (.istore_n 3, 1) := by decide +kernel
theorem dX11_layState_151 : decode cX11_layState 151 = .ok (.aload_n 0, 1) := by decide +kernel
theorem dX11_layState_152 : decode cX11_layState 152 = .ok (.lload 4, 2) := by decide +kernel
theorem dX11_layState_154 : decode cX11_layState 154 = .ok (.lconst 0, 1) := by decide +kernel
theorem dX11_layState_155 : decode cX11_layState 155 = .ok (.lcmp, 1) := by decide +kernel
theorem dX11_layState_156 : decode cX11_layState 156 = .ok (.ifCond .lt 11, 3) := by decide +kernel
theorem dX11_layState_159 : decode cX11_layState 159 = .ok (.lload 10, 2) := by decide +kernel
theorem dX11_layState_161 : decode cX11_layState 161 = .ok (.lload 4, 2) := by decide +kernel
theorem dX11_layState_163 : decode cX11_layState 163 = .ok (.lcmp, 1) := by decide +kernel
theorem dX11_layState_164 : decode cX11_layState 164 = .ok (.ifCond .ge 8, 3) := by decide +kernel
theorem dX11_layState_167 : decode cX11_layState 167 = .ok (.iload 6, 2) := by decide +kernel
theorem dX11_layState_169 : decode cX11_layState 169 = .ok (.goto 7, 3) := by decide +kernel
theorem dX11_layState_172 : decode cX11_layState 172 = .ok (.aload_n 0, 1) := by decide +kernel
theorem dX11_layState_173 : decode cX11_layState 173 = .ok (.getfield 163, 3) := by decide +kernel
theorem dX11_layState_176 : decode cX11_layState 176 = .ok (.putfield 163, 3) := by decide +kernel
theorem dX11_layState_179 : decode cX11_layState 179 = .ok (.lload 4, 2) := by decide +kernel
theorem dX11_layState_181 : decode cX11_layState 181 = .ok (.lconst 0, 1) := by decide +kernel
theorem dX11_layState_182 : decode cX11_layState 182 = .ok (.lcmp, 1) := by decide +kernel
theorem dX11_layState_183 : decode cX11_layState 183 = .ok (.ifCond .lt 11, 3) := by decide +kernel
theorem dX11_layState_186 : decode cX11_layState 186 = .ok (.lload 10, 2) := by decide +kernel
theorem dX11_layState_188 : decode cX11_layState 188 = .ok (.lload 4, 2) := by decide +kernel
theorem dX11_layState_190 : decode cX11_layState 190 = .ok (.lcmp, 1) := by decide +kernel
theorem dX11_layState_191 : decode cX11_layState 191 = .ok (.ifCond .ge 8, 3) := by decide +kernel
theorem dX11_layState_194 : decode cX11_layState 194 = .ok (.lload 10, 2) := by decide +kernel
theorem dX11_layState_196 : decode cX11_layState 196 = .ok (.goto 5, 3) := by decide +kernel
theorem dX11_layState_199 : decode cX11_layState 199 = .ok (.lload 4, 2) := by decide +kernel
theorem dX11_layState_201 : decode cX11_layState 201 = .ok (.lstore 4, 2) := by decide +kernel
theorem dX11_layState_203 : decode cX11_layState 203 = .ok (.iinc 6 1, 3) := by decide +kernel
theorem dX11_layState_206 : decode cX11_layState 206 = .ok (.goto (-151), 3) := by decide +kernel
theorem dX11_layState_209 : decode cX11_layState 209 = .ok (.aload_n 0, 1) := by decide +kernel
theorem dX11_layState_210 : decode cX11_layState 210 = .ok (.getfield 33, 3) := by decide +kernel
theorem dX11_layState_213 : decode cX11_layState 213 = .ok (.iload_n 1, 1) := by decide +kernel
theorem dX11_layState_214 : decode cX11_layState 214 = .ok (.iload_n 3, 1) := by decide +kernel
theorem dX11_layState_215 : decode cX11_layState 215 = .ok (.iastore, 1) := by decide +kernel
theorem dX11_layState_216 : decode cX11_layState 216 = .ok (.aload_n 0, 1) := by decide +kernel
theorem dX11_layState_217 : decode cX11_layState 217 = .ok (.getfield 36, 3) := by decide +kernel
theorem dX11_layState_220 : decode cX11_layState 220 = .ok (.iload_n 1, 1) := by decide +kernel
theorem dX11_layState_221 : decode cX11_layState 221 = .ok (.lload 4, 2) := by decide +kernel
theorem dX11_layState_223 : decode cX11_layState 223 = .ok (.lconst 0, 1) := by decide +kernel
theorem dX11_layState_224 : decode cX11_layState 224 = .ok (.lcmp, 1) := by decide +kernel
theorem dX11_layState_225 : decode cX11_layState 225 = .ok (.ifCond .ge 7, 3) := by decide +kernel
theorem dX11_layState_228 : decode cX11_layState 228 = .ok (.lconst 0, 1) := by decide +kernel
theorem dX11_layState_229 : decode cX11_layState 229 = .ok (.goto 5, 3) := by decide +kernel
theorem dX11_layState_232 : decode cX11_layState 232 = .ok (.lload 4, 2) := by decide +kernel
theorem dX11_layState_234 : decode cX11_layState 234 = .ok (.lastore, 1) := by decide +kernel
theorem dX11_layState_235 : decode cX11_layState 235 = .ok (.return_, 1) := by decide +kernel
theorem dX11_larger_0 : decode cX11_larger 0 = .ok (.aload_n 0, 1) := by decide +kernel
theorem dX11_larger_1 : decode cX11_larger 1 = .ok (.getfield 29, 3) := by decide +kernel
theorem dX11_larger_4 : decode cX11_larger 4 = .ok (.iload_n 1, 1) := by decide +kernel
theorem dX11_larger_5 : decode cX11_larger 5 = .ok (.laload, 1) := by decide +kernel
theorem dX11_larger_6 : decode cX11_larger 6 = .ok (.lconst 0, 1) := by decide +kernel
theorem dX11_larger_7 : decode cX11_larger 7 = .ok (.lcmp, 1) := by decide +kernel
theorem dX11_larger_8 : decode cX11_larger 8 = .ok (.ifCond .le 12, 3) := by decide +kernel
theorem dX11_larger_11 : decode cX11_larger 11 = .ok (.aload_n 0, 1) := by decide +kernel
theorem dX11_larger_12 : decode cX11_larger 12 = .ok (.getfield 33, 3) := by decide +kernel
theorem dX11_larger_15 : decode cX11_larger 15 = .ok (.iload_n 1, 1) := by decide +kernel
theorem dX11_larger_16 : decode cX11_larger 16 = .ok (.iaload, 1) := by decide +kernel
theorem dX11_larger_17 : decode cX11_larger 17 = .ok (.goto 4, 3) := by decide +kernel
theorem dX11_larger_20 : decode cX11_larger 20 = .ok (.iconst 0, 1) := by decide +kernel
theorem dX11_larger_21 : decode cX11_larger 21 = .ok (.istore_n 3, 1) := by decide +kernel
theorem dX11_larger_22 : decode cX11_larger 22 = .ok (.aload_n 0, 1) := by decide +kernel
theorem dX11_larger_23 : decode cX11_larger 23 = .ok (.getfield 29, 3) := by decide +kernel
theorem dX11_larger_26 : decode cX11_larger 26 = .ok (.iload_n 2, 1) := by decide +kernel
theorem dX11_larger_27 : decode cX11_larger 27 = .ok (.laload, 1) := by decide +kernel
theorem dX11_larger_28 : decode cX11_larger 28 = .ok (.lconst 0, 1) := by decide +kernel
theorem dX11_larger_29 : decode cX11_larger 29 = .ok (.lcmp, 1) := by decide +kernel
theorem dX11_larger_30 : decode cX11_larger 30 = .ok (.ifCond .le 12, 3) := by decide +kernel
theorem dX11_larger_33 : decode cX11_larger 33 = .ok (.aload_n 0, 1) := by decide +kernel
theorem dX11_larger_34 : decode cX11_larger 34 = .ok (.getfield 33, 3) := by decide +kernel
theorem dX11_larger_37 : decode cX11_larger 37 = .ok (.iload_n 2, 1) := by decide +kernel
theorem dX11_larger_38 : decode cX11_larger 38 = .ok (.iaload, 1) := by decide +kernel
theorem dX11_larger_39 : decode cX11_larger 39 = .ok (.goto 4, 3) := by decide +kernel
theorem dX11_larger_42 : decode cX11_larger 42 = .ok (.iconst 0, 1) := by decide +kernel
theorem dX11_larger_43 : decode cX11_larger 43 = .ok (.istore 4, 2) := by decide +kernel
theorem dX11_larger_45 : decode cX11_larger 45 = .ok (.iload_n 3, 1) := by decide +kernel
theorem dX11_larger_46 : decode cX11_larger 46 = .ok (.iload 4, 2) := by decide +kernel
theorem dX11_larger_48 : decode cX11_larger 48 = .ok (.if_icmp .le 7, 3) := by decide +kernel
theorem dX11_larger_51 : decode cX11_larger 51 = .ok (.iload_n 3, 1) := by decide +kernel
theorem dX11_larger_52 : decode cX11_larger 52 = .ok (.goto 5, 3) := by decide +kernel
theorem dX11_larger_55 : decode cX11_larger 55 = .ok (.iload 4, 2) := by decide +kernel
theorem dX11_larger_57 : decode cX11_larger 57 = .ok (.ireturn, 1) := by decide +kernel
set_option maxRecDepth 20000 in
theorem ggX11_layBreaking_X11_weight : GoodIn wsX11_layBreaking wsX11_weight := goodIn_r _ [8, 9, 2, 10, 11, 12, 13, 14, 15, 7, 16, 17, 18, 19, 20, 21, 22, 23, 24, 25, 26, 27, 28, 60, 61, 62, 63, 64, 65, 66, 67, 68, 69, 70, 71, 72, 73, 74, 75, 76, 77, 78, 79, 80, 81, 82, 83, 84, 85, 86, 87, 88, 89, 90, 91] (by decide +kernel) (by decide +kernel)
set_option maxRecDepth 20000 in
theorem gX11_layBreaking_X11_weight : GoodIn wsX11_layBreaking (wsV RX11 119 RX11 yX11_weight wsX11_weight) := goodIn_app (goodIn_of _ (by decide +kernel)) ggX11_layBreaking_X11_weight
set_option maxRecDepth 20000 in
theorem ggX11_layBreaking_X11_size : GoodIn wsX11_layBreaking wsX11_size := goodIn_r _ [16] (by decide +kernel) (by decide +kernel)
set_option maxRecDepth 20000 in
theorem gX11_layBreaking_X11_size : GoodIn wsX11_layBreaking (va_wsS RX11 109 yX11_size wsX11_size) := goodIn_app (goodIn_of _ (by decide +kernel)) ggX11_layBreaking_X11_size
set_option maxRecDepth 20000 in
theorem ggX11_layBreaking_X11_layWeights : GoodIn wsX11_layBreaking wsX11_layWeights := goodIn_r _ [32, 2, 3, 1, 33, 34, 35, 36, 7, 37, 38, 39, 40, 41, 42, 43, 60, 61, 62, 63, 64, 65, 66, 67, 68, 69, 70, 71, 72, 73, 74, 75, 76, 77, 78, 79, 80, 81, 82, 83, 84, 85, 86, 87, 88, 89, 90, 91] (by decide +kernel) (by decide +kernel)
set_option maxRecDepth 20000 in
theorem gX11_layBreaking_X11_layWeights : GoodIn wsX11_layBreaking (wsV RX11 171 RX11 yX11_layWeights wsX11_layWeights) := goodIn_app (goodIn_of _ (by decide +kernel)) ggX11_layBreaking_X11_layWeights
set_option maxRecDepth 20000 in
theorem ggX11_layBreaking_X11_layState : GoodIn wsX11_layBreaking wsX11_layState := goodIn_r _ [47, 48, 49, 50, 33, 51, 2, 34, 35, 36, 7, 37, 38, 39, 40, 41, 42, 43, 14, 15, 16, 52, 53, 54, 55, 3, 17, 18, 19, 56, 57, 58, 59, 60, 61, 62, 63, 64, 65, 66, 67, 68, 69, 70, 71, 72, 73, 74, 75, 76, 77, 78, 79, 80, 81, 82, 83, 84, 85, 86, 87, 88, 89, 90, 91] (by decide +kernel) (by decide +kernel)
set_option maxRecDepth 20000 in
theorem gX11_layBreaking_X11_layState : GoodIn wsX11_layBreaking (wsV RX11 174 RX11 yX11_layState wsX11_layState) := goodIn_app (goodIn_of _ (by decide +kernel)) ggX11_layBreaking_X11_layState
theorem dX11_layBreaking_0 : decode cX11_layBreaking 0 = .ok (.iconst 1, 1) := by decide +kernel
theorem dX11_layBreaking_1 : decode cX11_layBreaking 1 = .ok (.istore_n 2, 1) := by decide +kernel
theorem dX11_layBreaking_2 : decode cX11_layBreaking 2 = .ok (.iconst 0, 1) := by decide +kernel
theorem dX11_layBreaking_3 : decode cX11_layBreaking 3 = .ok (.istore_n 3, 1) := by decide +kernel
theorem dX11_layBreaking_4 : decode cX11_layBreaking 4 = .ok (.iload_n 3, 1) := by decide +kernel
theorem dX11_layBreaking_5 : decode cX11_layBreaking 5 = .ok (.bipush 64, 2) := by decide +kernel
theorem dX11_layBreaking_7 : decode cX11_layBreaking 7 = .ok (.if_icmp .ge 72, 3) := by decide +kernel
theorem dX11_layBreaking_10 : decode cX11_layBreaking 10 = .ok (.aload_n 0, 1) := by decide +kernel
theorem dX11_layBreaking_11 : decode cX11_layBreaking 11 = .ok (.getfield 39, 3) := by decide +kernel
theorem dX11_layBreaking_14 : decode cX11_layBreaking 14 = .ok (.iload_n 3, 1) := by decide +kernel
theorem dX11_layBreaking_15 : decode cX11_layBreaking 15 = .ok (.iload_n 3, 1) := by decide +kernel
theorem dX11_layBreaking_16 : decode cX11_layBreaking 16 = .ok (.iconst 1, 1) := by decide +kernel
theorem dX11_layBreaking_17 : decode cX11_layBreaking 17 = .ok (.aload_n 0, 1) := by decide +kernel
theorem dX11_layBreaking_18 : decode cX11_layBreaking 18 = .ok (.getfield 71, 3) := by decide +kernel
theorem dX11_layBreaking_21 : decode cX11_layBreaking 21 = .ok (.ishl, 1) := by decide +kernel
theorem dX11_layBreaking_22 : decode cX11_layBreaking 22 = .ok (.if_icmp .ge 13, 3) := by decide +kernel
theorem dX11_layBreaking_25 : decode cX11_layBreaking 25 = .ok (.aload_n 0, 1) := by decide +kernel
theorem dX11_layBreaking_26 : decode cX11_layBreaking 26 = .ok (.iload_n 3, 1) := by decide +kernel
theorem dX11_layBreaking_27 : decode cX11_layBreaking 27 = .ok (.iconst (-1), 1) := by decide +kernel
theorem dX11_layBreaking_28 : decode cX11_layBreaking 28 = .ok (.iconst 0, 1) := by decide +kernel
theorem dX11_layBreaking_29 : decode cX11_layBreaking 29 = .ok (.invokevirtual 119, 3) := by decide +kernel
theorem dX11_layBreaking_32 : decode cX11_layBreaking 32 = .ok (.goto 4, 3) := by decide +kernel
theorem dX11_layBreaking_35 : decode cX11_layBreaking 35 = .ok (.lconst 0, 1) := by decide +kernel
theorem dX11_layBreaking_36 : decode cX11_layBreaking 36 = .ok (.lastore, 1) := by decide +kernel
theorem dX11_layBreaking_37 : decode cX11_layBreaking 37 = .ok (.iload_n 2, 1) := by decide +kernel
theorem dX11_layBreaking_38 : decode cX11_layBreaking 38 = .ok (.ifCond .eq 33, 3) := by decide +kernel
theorem dX11_layBreaking_41 : decode cX11_layBreaking 41 = .ok (.aload_n 0, 1) := by decide +kernel
theorem dX11_layBreaking_42 : decode cX11_layBreaking 42 = .ok (.getfield 39, 3) := by decide +kernel
theorem dX11_layBreaking_45 : decode cX11_layBreaking 45 = .ok (.iload_n 3, 1) := by decide +kernel
theorem dX11_layBreaking_46 : decode cX11_layBreaking 46 = .ok (.laload, 1) := by decide +kernel
theorem dX11_layBreaking_47 : decode cX11_layBreaking 47 = .ok (.lconst 0, 1) := by decide +kernel
theorem dX11_layBreaking_48 : decode cX11_layBreaking 48 = .ok (.lcmp, 1) := by decide +kernel
theorem dX11_layBreaking_49 : decode cX11_layBreaking 49 = .ok (.ifCond .eq 18, 3) := by decide +kernel
theorem dX11_layBreaking_52 : decode cX11_layBreaking 52 = .ok (.aload_n 0, 1) := by decide +kernel
theorem dX11_layBreaking_53 : decode cX11_layBreaking 53 = .ok (.getfield 86, 3) := by decide +kernel
theorem dX11_layBreaking_56 : decode cX11_layBreaking 56 = .ok (.iload_n 3, 1) := by decide +kernel
theorem dX11_layBreaking_57 : decode cX11_layBreaking 57 = .ok (.iconst (-1), 1) := by decide +kernel
theorem dX11_layBreaking_58 : decode cX11_layBreaking 58 = .ok (.ixor, 1) := by decide +kernel
theorem dX11_layBreaking_59 : decode cX11_layBreaking 59 = .ok (.iand, 1) := by decide +kernel
theorem dX11_layBreaking_60 : decode cX11_layBreaking 60 = .ok (.invokestatic 109, 3) := by decide +kernel
theorem dX11_layBreaking_63 : decode cX11_layBreaking 63 = .ok (.iload_n 1, 1) := by decide +kernel
theorem dX11_layBreaking_64 : decode cX11_layBreaking 64 = .ok (.if_icmp .lt 7, 3) := by decide +kernel
theorem dX11_layBreaking_67 : decode cX11_layBreaking 67 = .ok (.iconst 1, 1) := by decide +kernel
theorem dX11_layBreaking_68 : decode cX11_layBreaking 68 = .ok (.goto 4, 3) := by decide +kernel
theorem dX11_layBreaking_71 : decode cX11_layBreaking 71 = .ok (.iconst 0, 1) := by decide +kernel
theorem dX11_layBreaking_72 : decode cX11_layBreaking 72 = .ok (.istore_n 2, 1) := by decide +kernel
theorem dX11_layBreaking_73 : decode cX11_layBreaking 73 = .ok (.iinc 3 1, 3) := by decide +kernel
theorem dX11_layBreaking_76 : decode cX11_layBreaking 76 = .ok (.goto (-72), 3) := by decide +kernel
theorem dX11_layBreaking_79 : decode cX11_layBreaking 79 = .ok (.iload_n 2, 1) := by decide +kernel
theorem dX11_layBreaking_80 : decode cX11_layBreaking 80 = .ok (.ifCond .eq 27, 3) := by decide +kernel
theorem dX11_layBreaking_83 : decode cX11_layBreaking 83 = .ok (.aload_n 0, 1) := by decide +kernel
theorem dX11_layBreaking_84 : decode cX11_layBreaking 84 = .ok (.invokevirtual 171, 3) := by decide +kernel
theorem dX11_layBreaking_87 : decode cX11_layBreaking 87 = .ok (.sipush 728, 3) := by decide +kernel
theorem dX11_layBreaking_90 : decode cX11_layBreaking 90 = .ok (.istore_n 3, 1) := by decide +kernel
theorem dX11_layBreaking_91 : decode cX11_layBreaking 91 = .ok (.iload_n 3, 1) := by decide +kernel
theorem dX11_layBreaking_92 : decode cX11_layBreaking 92 = .ok (.ifCond .lt 15, 3) := by decide +kernel
theorem dX11_layBreaking_95 : decode cX11_layBreaking 95 = .ok (.aload_n 0, 1) := by decide +kernel
theorem dX11_layBreaking_96 : decode cX11_layBreaking 96 = .ok (.iload_n 3, 1) := by decide +kernel
theorem dX11_layBreaking_97 : decode cX11_layBreaking 97 = .ok (.iload_n 1, 1) := by decide +kernel
theorem dX11_layBreaking_98 : decode cX11_layBreaking 98 = .ok (.invokevirtual 174, 3) := by decide +kernel
theorem dX11_layBreaking_101 : decode cX11_layBreaking 101 = .ok (.iinc 3 (-1), 3) := by decide +kernel
theorem dX11_layBreaking_104 : decode cX11_layBreaking 104 = .ok (.goto (-13), 3) := by decide +kernel
theorem dX11_layBreaking_107 : decode cX11_layBreaking 107 = .ok (.iload_n 2, 1) := by decide +kernel
theorem dX11_layBreaking_108 : decode cX11_layBreaking 108 = .ok (.ireturn, 1) := by decide +kernel
theorem dX11_mayAsk_0 : decode cX11_mayAsk 0 = .ok (.aload_n 0, 1) := by decide +kernel
theorem dX11_mayAsk_1 : decode cX11_mayAsk 1 = .ok (.getfield 71, 3) := by decide +kernel
theorem dX11_mayAsk_4 : decode cX11_mayAsk 4 = .ok (.ifCond .le 16, 3) := by decide +kernel
theorem dX11_mayAsk_7 : decode cX11_mayAsk 7 = .ok (.aload_n 0, 1) := by decide +kernel
theorem dX11_mayAsk_8 : decode cX11_mayAsk 8 = .ok (.getfield 178, 3) := by decide +kernel
theorem dX11_mayAsk_11 : decode cX11_mayAsk 11 = .ok (.bipush 60, 2) := by decide +kernel
theorem dX11_mayAsk_13 : decode cX11_mayAsk 13 = .ok (.if_icmp .ge 7, 3) := by decide +kernel
theorem dX11_mayAsk_16 : decode cX11_mayAsk 16 = .ok (.iconst 1, 1) := by decide +kernel
theorem dX11_mayAsk_17 : decode cX11_mayAsk 17 = .ok (.goto 4, 3) := by decide +kernel
theorem dX11_mayAsk_20 : decode cX11_mayAsk 20 = .ok (.iconst 0, 1) := by decide +kernel
theorem dX11_mayAsk_21 : decode cX11_mayAsk 21 = .ok (.ireturn, 1) := by decide +kernel
set_option maxRecDepth 20000 in
theorem ggX11_worst_X11_within : GoodIn wsX11_worst wsX11_within := goodIn_r _ [7] (by decide +kernel) (by decide +kernel)
set_option maxRecDepth 20000 in
theorem gX11_worst_X11_within : GoodIn wsX11_worst (va_wsS RX11 51 yX11_within wsX11_within) := goodIn_app (goodIn_of _ (by decide +kernel)) ggX11_worst_X11_within
set_option maxRecDepth 20000 in
theorem ggX11_worst_X11_mayAsk : GoodIn wsX11_worst wsX11_mayAsk := goodIn_r _ [11, 12, 1, 72, 73, 74, 75, 76, 77, 78, 79, 80, 81, 82, 83, 84, 85, 86, 87, 88, 89, 90, 91, 92, 93, 94, 95, 96, 97, 98, 99, 100, 101, 102, 103] (by decide +kernel) (by decide +kernel)
set_option maxRecDepth 20000 in
theorem gX11_worst_X11_mayAsk : GoodIn wsX11_worst (wsV RX11 181 RX11 yX11_mayAsk wsX11_mayAsk) := goodIn_app (goodIn_of _ (by decide +kernel)) ggX11_worst_X11_mayAsk
set_option maxRecDepth 20000 in
theorem ggX11_worst_X11_layBreaking : GoodIn wsX11_worst wsX11_layBreaking := goodIn_r _ [16, 17, 12, 18, 19, 20, 21, 6, 22, 23, 24, 25, 26, 27, 28, 29, 30, 31, 32, 33, 34, 35, 36, 37, 38, 39, 40, 41, 42, 43, 44, 45, 46, 47, 48, 49, 50, 51, 52, 53, 54, 55, 56, 57, 58, 59, 60, 61, 2, 62, 3, 63, 64, 65, 66, 67, 68, 69, 70, 71, 72, 73, 74, 75, 76, 77, 78, 79, 80, 81, 82, 83, 84, 85, 86, 87, 88, 89, 90, 91, 92, 93, 94, 95, 96, 97, 98, 99, 100, 101, 102, 103] (by decide +kernel) (by decide +kernel)
set_option maxRecDepth 20000 in
theorem gX11_worst_X11_layBreaking : GoodIn wsX11_worst (wsV RX11 185 RX11 yX11_layBreaking wsX11_layBreaking) := goodIn_app (goodIn_of _ (by decide +kernel)) ggX11_worst_X11_layBreaking
theorem dX11_worst_0 : decode cX11_worst 0 = .ok (.iload_n 1, 1) := by decide +kernel
theorem dX11_worst_1 : decode cX11_worst 1 = .ok (.iconst 1, 1) := by decide +kernel
theorem dX11_worst_2 : decode cX11_worst 2 = .ok (.bipush 6, 2) := by decide +kernel
theorem dX11_worst_4 : decode cX11_worst 4 = .ok (.invokestatic 51, 3) := by decide +kernel
theorem dX11_worst_7 : decode cX11_worst 7 = .ok (.ifCond .eq 12, 3) := by decide +kernel
theorem dX11_worst_10 : decode cX11_worst 10 = .ok (.iload_n 2, 1) := by decide +kernel
theorem dX11_worst_11 : decode cX11_worst 11 = .ok (.iconst 0, 1) := by decide +kernel
theorem dX11_worst_12 : decode cX11_worst 12 = .ok (.iconst 1, 1) := by decide +kernel
theorem dX11_worst_13 : decode cX11_worst 13 = .ok (.invokestatic 51, 3) := by decide +kernel
theorem dX11_worst_16 : decode cX11_worst 16 = .ok (.ifCond .ne 6, 3) := by decide +kernel
theorem dX11_worst_19 : decode cX11_worst 19 = .ok (.bipush (-102), 2) := by decide +kernel
theorem dX11_worst_21 : decode cX11_worst 21 = .ok (.ireturn, 1) := by decide +kernel
theorem dX11_worst_22 : decode cX11_worst 22 = .ok (.aload_n 0, 1) := by decide +kernel
theorem dX11_worst_23 : decode cX11_worst 23 = .ok (.invokevirtual 181, 3) := by decide +kernel
theorem dX11_worst_26 : decode cX11_worst 26 = .ok (.ifCond .ne 6, 3) := by decide +kernel
theorem dX11_worst_29 : decode cX11_worst 29 = .ok (.bipush (-103), 2) := by decide +kernel
theorem dX11_worst_31 : decode cX11_worst 31 = .ok (.ireturn, 1) := by decide +kernel
theorem dX11_worst_32 : decode cX11_worst 32 = .ok (.aload_n 0, 1) := by decide +kernel
theorem dX11_worst_33 : decode cX11_worst 33 = .ok (.dup, 1) := by decide +kernel
theorem dX11_worst_34 : decode cX11_worst 34 = .ok (.getfield 178, 3) := by decide +kernel
theorem dX11_worst_37 : decode cX11_worst 37 = .ok (.iconst 1, 1) := by decide +kernel
theorem dX11_worst_38 : decode cX11_worst 38 = .ok (.iadd, 1) := by decide +kernel
theorem dX11_worst_39 : decode cX11_worst 39 = .ok (.putfield 178, 3) := by decide +kernel
theorem dX11_worst_42 : decode cX11_worst 42 = .ok (.aload_n 0, 1) := by decide +kernel
theorem dX11_worst_43 : decode cX11_worst 43 = .ok (.iload_n 1, 1) := by decide +kernel
theorem dX11_worst_44 : decode cX11_worst 44 = .ok (.invokevirtual 185, 3) := by decide +kernel
theorem dX11_worst_47 : decode cX11_worst 47 = .ok (.ifCond .ne 7, 3) := by decide +kernel
theorem dX11_worst_50 : decode cX11_worst 50 = .ok (.iconst (-1), 1) := by decide +kernel
theorem dX11_worst_51 : decode cX11_worst 51 = .ok (.goto 20, 3) := by decide +kernel
theorem dX11_worst_54 : decode cX11_worst 54 = .ok (.iload_n 2, 1) := by decide +kernel
theorem dX11_worst_55 : decode cX11_worst 55 = .ok (.ifCond .ne 12, 3) := by decide +kernel
theorem dX11_worst_58 : decode cX11_worst 58 = .ok (.aload_n 0, 1) := by decide +kernel
theorem dX11_worst_59 : decode cX11_worst 59 = .ok (.getfield 33, 3) := by decide +kernel
theorem dX11_worst_62 : decode cX11_worst 62 = .ok (.iconst 0, 1) := by decide +kernel
theorem dX11_worst_63 : decode cX11_worst 63 = .ok (.iaload, 1) := by decide +kernel
theorem dX11_worst_64 : decode cX11_worst 64 = .ok (.goto 7, 3) := by decide +kernel
theorem dX11_worst_67 : decode cX11_worst 67 = .ok (.aload_n 0, 1) := by decide +kernel
theorem dX11_worst_68 : decode cX11_worst 68 = .ok (.getfield 163, 3) := by decide +kernel
theorem dX11_worst_71 : decode cX11_worst 71 = .ok (.ireturn, 1) := by decide +kernel
set_option maxRecDepth 20000 in
theorem ggX11_mean_X11_within : GoodIn wsX11_mean wsX11_within := goodIn_r _ [10] (by decide +kernel) (by decide +kernel)
set_option maxRecDepth 20000 in
theorem gX11_mean_X11_within : GoodIn wsX11_mean (va_wsS RX11 51 yX11_within wsX11_within) := goodIn_app (goodIn_of _ (by decide +kernel)) ggX11_mean_X11_within
set_option maxRecDepth 20000 in
theorem ggX11_mean_X11_mayAsk : GoodIn wsX11_mean wsX11_mayAsk := goodIn_r _ [14, 15, 3, 77, 78, 79, 80, 81, 82, 83, 84, 85, 86, 87, 88, 89, 90, 91, 92, 93, 94, 95, 96, 97, 98, 99, 100, 101, 102, 103, 104, 105, 106, 107, 108] (by decide +kernel) (by decide +kernel)
set_option maxRecDepth 20000 in
theorem gX11_mean_X11_mayAsk : GoodIn wsX11_mean (wsV RX11 181 RX11 yX11_mayAsk wsX11_mayAsk) := goodIn_app (goodIn_of _ (by decide +kernel)) ggX11_mean_X11_mayAsk
set_option maxRecDepth 20000 in
theorem ggX11_mean_X11_layBreaking : GoodIn wsX11_mean wsX11_layBreaking := goodIn_r _ [19, 20, 15, 21, 22, 23, 24, 9, 25, 26, 27, 28, 29, 30, 31, 32, 33, 34, 35, 36, 37, 38, 39, 40, 41, 42, 43, 44, 45, 46, 47, 48, 49, 5, 50, 51, 52, 53, 54, 55, 56, 57, 58, 59, 60, 61, 62, 63, 64, 4, 65, 6, 66, 67, 68, 69, 70, 71, 72, 73, 77, 78, 79, 80, 81, 82, 83, 84, 85, 86, 87, 88, 89, 90, 91, 92, 93, 94, 95, 96, 97, 98, 99, 100, 101, 102, 103, 104, 105, 106, 107, 108] (by decide +kernel) (by decide +kernel)
set_option maxRecDepth 20000 in
theorem gX11_mean_X11_layBreaking : GoodIn wsX11_mean (wsV RX11 185 RX11 yX11_layBreaking wsX11_layBreaking) := goodIn_app (goodIn_of _ (by decide +kernel)) ggX11_mean_X11_layBreaking
set_option maxRecDepth 20000 in
theorem ggX11_mean_X11_lowest : GoodIn wsX11_mean wsX11_lowest := goodIn_r _ [76] (by decide +kernel) (by decide +kernel)
set_option maxRecDepth 20000 in
theorem gX11_mean_X11_lowest : GoodIn wsX11_mean (va_wsS RX11 135 yX11_lowest wsX11_lowest) := goodIn_app (goodIn_of _ (by decide +kernel)) ggX11_mean_X11_lowest
theorem dX11_mean_0 : decode cX11_mean 0 = .ok (.iload_n 1, 1) := by decide +kernel
theorem dX11_mean_1 : decode cX11_mean 1 = .ok (.iconst 1, 1) := by decide +kernel
theorem dX11_mean_2 : decode cX11_mean 2 = .ok (.bipush 6, 2) := by decide +kernel
theorem dX11_mean_4 : decode cX11_mean 4 = .ok (.invokestatic 51, 3) := by decide +kernel
theorem dX11_mean_7 : decode cX11_mean 7 = .ok (.ifCond .eq 12, 3) := by decide +kernel
theorem dX11_mean_10 : decode cX11_mean 10 = .ok (.iload_n 2, 1) := by decide +kernel
theorem dX11_mean_11 : decode cX11_mean 11 = .ok (.iconst 0, 1) := by decide +kernel
theorem dX11_mean_12 : decode cX11_mean 12 = .ok (.iconst 1, 1) := by decide +kernel
theorem dX11_mean_13 : decode cX11_mean 13 = .ok (.invokestatic 51, 3) := by decide +kernel
theorem dX11_mean_16 : decode cX11_mean 16 = .ok (.ifCond .ne 7, 3) := by decide +kernel
theorem dX11_mean_19 : decode cX11_mean 19 = .ok (.ldc2_w 144, 3) := by decide +kernel
theorem dX11_mean_22 : decode cX11_mean 22 = .ok (.lreturn, 1) := by decide +kernel
theorem dX11_mean_23 : decode cX11_mean 23 = .ok (.aload_n 0, 1) := by decide +kernel
theorem dX11_mean_24 : decode cX11_mean 24 = .ok (.invokevirtual 181, 3) := by decide +kernel
theorem dX11_mean_27 : decode cX11_mean 27 = .ok (.ifCond .ne 7, 3) := by decide +kernel
theorem dX11_mean_30 : decode cX11_mean 30 = .ok (.ldc2_w 188, 3) := by decide +kernel
theorem dX11_mean_33 : decode cX11_mean 33 = .ok (.lreturn, 1) := by decide +kernel
theorem dX11_mean_34 : decode cX11_mean 34 = .ok (.aload_n 0, 1) := by decide +kernel
theorem dX11_mean_35 : decode cX11_mean 35 = .ok (.dup, 1) := by decide +kernel
theorem dX11_mean_36 : decode cX11_mean 36 = .ok (.getfield 178, 3) := by decide +kernel
theorem dX11_mean_39 : decode cX11_mean 39 = .ok (.iconst 1, 1) := by decide +kernel
theorem dX11_mean_40 : decode cX11_mean 40 = .ok (.iadd, 1) := by decide +kernel
theorem dX11_mean_41 : decode cX11_mean 41 = .ok (.putfield 178, 3) := by decide +kernel
theorem dX11_mean_44 : decode cX11_mean 44 = .ok (.aload_n 0, 1) := by decide +kernel
theorem dX11_mean_45 : decode cX11_mean 45 = .ok (.iload_n 1, 1) := by decide +kernel
theorem dX11_mean_46 : decode cX11_mean 46 = .ok (.invokevirtual 185, 3) := by decide +kernel
theorem dX11_mean_49 : decode cX11_mean 49 = .ok (.ifCond .eq 22, 3) := by decide +kernel
theorem dX11_mean_52 : decode cX11_mean 52 = .ok (.aload_n 0, 1) := by decide +kernel
theorem dX11_mean_53 : decode cX11_mean 53 = .ok (.getfield 36, 3) := by decide +kernel
theorem dX11_mean_56 : decode cX11_mean 56 = .ok (.iconst 0, 1) := by decide +kernel
theorem dX11_mean_57 : decode cX11_mean 57 = .ok (.laload, 1) := by decide +kernel
theorem dX11_mean_58 : decode cX11_mean 58 = .ok (.aload_n 0, 1) := by decide +kernel
theorem dX11_mean_59 : decode cX11_mean 59 = .ok (.getfield 29, 3) := by decide +kernel
theorem dX11_mean_62 : decode cX11_mean 62 = .ok (.iconst 0, 1) := by decide +kernel
theorem dX11_mean_63 : decode cX11_mean 63 = .ok (.laload, 1) := by decide +kernel
theorem dX11_mean_64 : decode cX11_mean 64 = .ok (.iload_n 2, 1) := by decide +kernel
theorem dX11_mean_65 : decode cX11_mean 65 = .ok (.invokestatic 135, 3) := by decide +kernel
theorem dX11_mean_68 : decode cX11_mean 68 = .ok (.goto 14, 3) := by decide +kernel
theorem dX11_mean_71 : decode cX11_mean 71 = .ok (.iload_n 2, 1) := by decide +kernel
theorem dX11_mean_72 : decode cX11_mean 72 = .ok (.ifCond .ne 9, 3) := by decide +kernel
theorem dX11_mean_75 : decode cX11_mean 75 = .ok (.ldc2_w 166, 3) := by decide +kernel
theorem dX11_mean_78 : decode cX11_mean 78 = .ok (.goto 4, 3) := by decide +kernel
theorem dX11_mean_81 : decode cX11_mean 81 = .ok (.lconst 0, 1) := by decide +kernel
theorem dX11_mean_82 : decode cX11_mean 82 = .ok (.lreturn, 1) := by decide +kernel
set_option maxRecDepth 20000 in
theorem ggX11_riskNow_X11_total : GoodIn wsX11_riskNow wsX11_total := goodIn_r _ [7, 8, 9, 10, 11, 6, 12, 13, 14, 15, 16, 17, 18, 19, 20, 21, 22, 23, 24, 25, 26, 27, 28, 29, 30, 31, 32, 40, 41, 42, 43, 44, 45, 46, 47, 48, 49, 50, 51, 52, 53, 54, 55, 56, 57, 58, 59, 60, 61, 62, 63, 64, 65, 66, 67, 68, 69, 70, 71] (by decide +kernel) (by decide +kernel)
set_option maxRecDepth 20000 in
theorem gX11_riskNow_X11_total : GoodIn wsX11_riskNow (wsV RX11 126 RX11 yX11_total wsX11_total) := goodIn_app (goodIn_of _ (by decide +kernel)) ggX11_riskNow_X11_total
set_option maxRecDepth 20000 in
theorem ggX11_riskNow_X11_boiledWeight : GoodIn wsX11_riskNow wsX11_boiledWeight := goodIn_r _ [36, 8, 21, 22, 6, 23, 9, 10, 11, 12, 13, 14, 15, 16, 17, 18, 19, 20, 24, 25, 26, 27, 28, 29, 30, 31, 32, 40, 41, 42, 43, 44, 45, 46, 47, 48, 49, 50, 51, 52, 53, 54, 55, 56, 57, 58, 59, 60, 61, 62, 63, 64, 65, 66, 67, 68, 69, 70, 71] (by decide +kernel) (by decide +kernel)
set_option maxRecDepth 20000 in
theorem gX11_riskNow_X11_boiledWeight : GoodIn wsX11_riskNow (wsV RX11 132 RX11 yX11_boiledWeight wsX11_boiledWeight) := goodIn_app (goodIn_of _ (by decide +kernel)) ggX11_riskNow_X11_boiledWeight
set_option maxRecDepth 20000 in
theorem ggX11_riskNow_X11_lowest : GoodIn wsX11_riskNow wsX11_lowest := goodIn_r _ [39] (by decide +kernel) (by decide +kernel)
set_option maxRecDepth 20000 in
theorem gX11_riskNow_X11_lowest : GoodIn wsX11_riskNow (va_wsS RX11 135 yX11_lowest wsX11_lowest) := goodIn_app (goodIn_of _ (by decide +kernel)) ggX11_riskNow_X11_lowest
theorem dX11_riskNow_0 : decode cX11_riskNow 0 = .ok (.aload_n 0, 1) := by decide +kernel
theorem dX11_riskNow_1 : decode cX11_riskNow 1 = .ok (.iconst (-1), 1) := by decide +kernel
theorem dX11_riskNow_2 : decode cX11_riskNow 2 = .ok (.iconst 0, 1) := by decide +kernel
theorem dX11_riskNow_3 : decode cX11_riskNow 3 = .ok (.invokevirtual 126, 3) := by decide +kernel
theorem dX11_riskNow_6 : decode cX11_riskNow 6 = .ok (.lstore_n 3, 1) := by decide +kernel
theorem dX11_riskNow_7 : decode cX11_riskNow 7 = .ok (.aload_n 0, 1) := by decide +kernel
theorem dX11_riskNow_8 : decode cX11_riskNow 8 = .ok (.getfield 83, 3) := by decide +kernel
theorem dX11_riskNow_11 : decode cX11_riskNow 11 = .ok (.i2l, 1) := by decide +kernel
theorem dX11_riskNow_12 : decode cX11_riskNow 12 = .ok (.lload_n 3, 1) := by decide +kernel
theorem dX11_riskNow_13 : decode cX11_riskNow 13 = .ok (.aload_n 0, 1) := by decide +kernel
theorem dX11_riskNow_14 : decode cX11_riskNow 14 = .ok (.iload_n 1, 1) := by decide +kernel
theorem dX11_riskNow_15 : decode cX11_riskNow 15 = .ok (.iconst 0, 1) := by decide +kernel
theorem dX11_riskNow_16 : decode cX11_riskNow 16 = .ok (.invokevirtual 132, 3) := by decide +kernel
theorem dX11_riskNow_19 : decode cX11_riskNow 19 = .ok (.lsub, 1) := by decide +kernel
theorem dX11_riskNow_20 : decode cX11_riskNow 20 = .ok (.lmul, 1) := by decide +kernel
theorem dX11_riskNow_21 : decode cX11_riskNow 21 = .ok (.ldc2_w 149, 3) := by decide +kernel
theorem dX11_riskNow_24 : decode cX11_riskNow 24 = .ok (.lload_n 3, 1) := by decide +kernel
theorem dX11_riskNow_25 : decode cX11_riskNow 25 = .ok (.lmul, 1) := by decide +kernel
theorem dX11_riskNow_26 : decode cX11_riskNow 26 = .ok (.iload_n 2, 1) := by decide +kernel
theorem dX11_riskNow_27 : decode cX11_riskNow 27 = .ok (.invokestatic 135, 3) := by decide +kernel
theorem dX11_riskNow_30 : decode cX11_riskNow 30 = .ok (.lreturn, 1) := by decide +kernel
set_option maxRecDepth 20000 in
theorem ggX11_risk_X11_isEgg : GoodIn wsX11_risk wsX11_isEgg := goodIn_r _ [8, 9, 10, 11, 7, 12, 59, 60, 61, 62, 63, 64, 65, 66, 67, 68, 69, 70, 71, 72, 73, 74, 75, 76, 77, 78, 79, 80, 81, 82, 83, 84, 85, 86, 87, 88, 89, 90] (by decide +kernel) (by decide +kernel)
set_option maxRecDepth 20000 in
theorem gX11_risk_X11_isEgg : GoodIn wsX11_risk (wsV RX11 98 RX11 yX11_isEgg wsX11_isEgg) := goodIn_app (goodIn_of _ (by decide +kernel)) ggX11_risk_X11_isEgg
set_option maxRecDepth 20000 in
theorem ggX11_risk_X11_within : GoodIn wsX11_risk wsX11_within := goodIn_r _ [12] (by decide +kernel) (by decide +kernel)
set_option maxRecDepth 20000 in
theorem gX11_risk_X11_within : GoodIn wsX11_risk (va_wsS RX11 51 yX11_within wsX11_within) := goodIn_app (goodIn_of _ (by decide +kernel)) ggX11_risk_X11_within
set_option maxRecDepth 20000 in
theorem ggX11_risk_X11_isInBox : GoodIn wsX11_risk wsX11_isInBox := goodIn_r _ [16, 17, 18, 19, 7, 20, 59, 60, 61, 62, 63, 64, 65, 66, 67, 68, 69, 70, 71, 72, 73, 74, 75, 76, 77, 78, 79, 80, 81, 82, 83, 84, 85, 86, 87, 88, 89, 90] (by decide +kernel) (by decide +kernel)
set_option maxRecDepth 20000 in
theorem gX11_risk_X11_isInBox : GoodIn wsX11_risk (wsV RX11 123 RX11 yX11_isInBox wsX11_isInBox) := goodIn_app (goodIn_of _ (by decide +kernel)) ggX11_risk_X11_isInBox
set_option maxRecDepth 20000 in
theorem ggX11_risk_X11_riskNow : GoodIn wsX11_risk wsX11_riskNow := goodIn_r _ [24, 25, 26, 27, 28, 29, 7, 30, 9, 31, 32, 33, 34, 35, 36, 37, 38, 39, 40, 41, 42, 18, 19, 20, 43, 44, 45, 46, 47, 48, 49, 50, 51, 52, 53, 54, 55, 56, 57, 58, 59, 60, 61, 62, 63, 64, 65, 66, 67, 68, 69, 70, 71, 72, 73, 74, 75, 76, 77, 78, 79, 80, 81, 82, 83, 84, 85, 86, 87, 88, 89, 90] (by decide +kernel) (by decide +kernel)
set_option maxRecDepth 20000 in
theorem gX11_risk_X11_riskNow : GoodIn wsX11_risk (wsV RX11 190 RX11 yX11_riskNow wsX11_riskNow) := goodIn_app (goodIn_of _ (by decide +kernel)) ggX11_risk_X11_riskNow
theorem dX11_risk_0 : decode cX11_risk 0 = .ok (.aload_n 0, 1) := by decide +kernel
theorem dX11_risk_1 : decode cX11_risk 1 = .ok (.iload_n 1, 1) := by decide +kernel
theorem dX11_risk_2 : decode cX11_risk 2 = .ok (.invokevirtual 98, 3) := by decide +kernel
theorem dX11_risk_5 : decode cX11_risk 5 = .ok (.ifCond .ne 7, 3) := by decide +kernel
theorem dX11_risk_8 : decode cX11_risk 8 = .ok (.ldc2_w 139, 3) := by decide +kernel
theorem dX11_risk_11 : decode cX11_risk 11 = .ok (.lreturn, 1) := by decide +kernel
theorem dX11_risk_12 : decode cX11_risk 12 = .ok (.iload_n 2, 1) := by decide +kernel
theorem dX11_risk_13 : decode cX11_risk 13 = .ok (.iconst 0, 1) := by decide +kernel
theorem dX11_risk_14 : decode cX11_risk 14 = .ok (.iconst 1, 1) := by decide +kernel
theorem dX11_risk_15 : decode cX11_risk 15 = .ok (.invokestatic 51, 3) := by decide +kernel
theorem dX11_risk_18 : decode cX11_risk 18 = .ok (.ifCond .ne 7, 3) := by decide +kernel
theorem dX11_risk_21 : decode cX11_risk 21 = .ok (.ldc2_w 144, 3) := by decide +kernel
theorem dX11_risk_24 : decode cX11_risk 24 = .ok (.lreturn, 1) := by decide +kernel
theorem dX11_risk_25 : decode cX11_risk 25 = .ok (.aload_n 0, 1) := by decide +kernel
theorem dX11_risk_26 : decode cX11_risk 26 = .ok (.iload_n 1, 1) := by decide +kernel
theorem dX11_risk_27 : decode cX11_risk 27 = .ok (.invokevirtual 123, 3) := by decide +kernel
theorem dX11_risk_30 : decode cX11_risk 30 = .ok (.ifCond .eq 12, 3) := by decide +kernel
theorem dX11_risk_33 : decode cX11_risk 33 = .ok (.aload_n 0, 1) := by decide +kernel
theorem dX11_risk_34 : decode cX11_risk 34 = .ok (.iload_n 1, 1) := by decide +kernel
theorem dX11_risk_35 : decode cX11_risk 35 = .ok (.iload_n 2, 1) := by decide +kernel
theorem dX11_risk_36 : decode cX11_risk 36 = .ok (.invokevirtual 190, 3) := by decide +kernel
theorem dX11_risk_39 : decode cX11_risk 39 = .ok (.goto 6, 3) := by decide +kernel
theorem dX11_risk_42 : decode cX11_risk 42 = .ok (.ldc2_w 188, 3) := by decide +kernel
theorem dX11_risk_45 : decode cX11_risk 45 = .ok (.lreturn, 1) := by decide +kernel
set_option maxRecDepth 20000 in
theorem ggX11_trier_X11_within : GoodIn wsX11_trier wsX11_within := goodIn_r _ [7] (by decide +kernel) (by decide +kernel)
set_option maxRecDepth 20000 in
theorem gX11_trier_X11_within : GoodIn wsX11_trier (va_wsS RX11 51 yX11_within wsX11_within) := goodIn_app (goodIn_of _ (by decide +kernel)) ggX11_trier_X11_within
theorem dX11_trier_0 : decode cX11_trier 0 = .ok (.iload_n 1, 1) := by decide +kernel
theorem dX11_trier_1 : decode cX11_trier 1 = .ok (.iconst 0, 1) := by decide +kernel
theorem dX11_trier_2 : decode cX11_trier 2 = .ok (.iconst 4, 1) := by decide +kernel
theorem dX11_trier_3 : decode cX11_trier 3 = .ok (.invokestatic 51, 3) := by decide +kernel
theorem dX11_trier_6 : decode cX11_trier 6 = .ok (.ifCond .ne 6, 3) := by decide +kernel
theorem dX11_trier_9 : decode cX11_trier 9 = .ok (.bipush (-102), 2) := by decide +kernel
theorem dX11_trier_11 : decode cX11_trier 11 = .ok (.ireturn, 1) := by decide +kernel
theorem dX11_trier_12 : decode cX11_trier 12 = .ok (.aload_n 0, 1) := by decide +kernel
theorem dX11_trier_13 : decode cX11_trier 13 = .ok (.getfield 71, 3) := by decide +kernel
theorem dX11_trier_16 : decode cX11_trier 16 = .ok (.ifCond .ne 6, 3) := by decide +kernel
theorem dX11_trier_19 : decode cX11_trier 19 = .ok (.bipush (-103), 2) := by decide +kernel
theorem dX11_trier_21 : decode cX11_trier 21 = .ok (.ireturn, 1) := by decide +kernel
theorem dX11_trier_22 : decode cX11_trier 22 = .ok (.aload_n 0, 1) := by decide +kernel
theorem dX11_trier_23 : decode cX11_trier 23 = .ok (.getfield 92, 3) := by decide +kernel
theorem dX11_trier_26 : decode cX11_trier 26 = .ok (.iconst 4, 1) := by decide +kernel
theorem dX11_trier_27 : decode cX11_trier 27 = .ok (.if_icmp .ne 6, 3) := by decide +kernel
theorem dX11_trier_30 : decode cX11_trier 30 = .ok (.bipush (-104), 2) := by decide +kernel
theorem dX11_trier_32 : decode cX11_trier 32 = .ok (.ireturn, 1) := by decide +kernel
theorem dX11_trier_33 : decode cX11_trier 33 = .ok (.aload_n 0, 1) := by decide +kernel
theorem dX11_trier_34 : decode cX11_trier 34 = .ok (.getfield 22, 3) := by decide +kernel
theorem dX11_trier_37 : decode cX11_trier 37 = .ok (.aload_n 0, 1) := by decide +kernel
theorem dX11_trier_38 : decode cX11_trier 38 = .ok (.getfield 92, 3) := by decide +kernel
theorem dX11_trier_41 : decode cX11_trier 41 = .ok (.iload_n 1, 1) := by decide +kernel
theorem dX11_trier_42 : decode cX11_trier 42 = .ok (.iastore, 1) := by decide +kernel
theorem dX11_trier_43 : decode cX11_trier 43 = .ok (.aload_n 0, 1) := by decide +kernel
theorem dX11_trier_44 : decode cX11_trier 44 = .ok (.dup, 1) := by decide +kernel
theorem dX11_trier_45 : decode cX11_trier 45 = .ok (.getfield 92, 3) := by decide +kernel
theorem dX11_trier_48 : decode cX11_trier 48 = .ok (.iconst 1, 1) := by decide +kernel
theorem dX11_trier_49 : decode cX11_trier 49 = .ok (.iadd, 1) := by decide +kernel
theorem dX11_trier_50 : decode cX11_trier 50 = .ok (.putfield 92, 3) := by decide +kernel
theorem dX11_trier_53 : decode cX11_trier 53 = .ok (.aload_n 0, 1) := by decide +kernel
theorem dX11_trier_54 : decode cX11_trier 54 = .ok (.getfield 92, 3) := by decide +kernel
theorem dX11_trier_57 : decode cX11_trier 57 = .ok (.iconst 1, 1) := by decide +kernel
theorem dX11_trier_58 : decode cX11_trier 58 = .ok (.isub, 1) := by decide +kernel
theorem dX11_trier_59 : decode cX11_trier 59 = .ok (.ireturn, 1) := by decide +kernel
set_option maxRecDepth 20000 in
theorem ggX11_isTrier_X11_within : GoodIn wsX11_isTrier wsX11_within := goodIn_r _ [5] (by decide +kernel) (by decide +kernel)
set_option maxRecDepth 20000 in
theorem gX11_isTrier_X11_within : GoodIn wsX11_isTrier (va_wsS RX11 51 yX11_within wsX11_within) := goodIn_app (goodIn_of _ (by decide +kernel)) ggX11_isTrier_X11_within
theorem dX11_isTrier_0 : decode cX11_isTrier 0 = .ok (.iload_n 1, 1) := by decide +kernel
theorem dX11_isTrier_1 : decode cX11_isTrier 1 = .ok (.iconst 0, 1) := by decide +kernel
theorem dX11_isTrier_2 : decode cX11_isTrier 2 = .ok (.aload_n 0, 1) := by decide +kernel
theorem dX11_isTrier_3 : decode cX11_isTrier 3 = .ok (.getfield 92, 3) := by decide +kernel
theorem dX11_isTrier_6 : decode cX11_isTrier 6 = .ok (.iconst 1, 1) := by decide +kernel
theorem dX11_isTrier_7 : decode cX11_isTrier 7 = .ok (.isub, 1) := by decide +kernel
theorem dX11_isTrier_8 : decode cX11_isTrier 8 = .ok (.invokestatic 51, 3) := by decide +kernel
theorem dX11_isTrier_11 : decode cX11_isTrier 11 = .ok (.ireturn, 1) := by decide +kernel
set_option maxRecDepth 20000 in
theorem ggX11_badness_X11_total : GoodIn wsX11_badness wsX11_total := goodIn_r _ [6, 7, 8, 9, 10, 5, 11, 12, 13, 14, 15, 16, 17, 18, 19, 20, 21, 22, 23, 24, 25, 26, 27, 28, 29, 30, 31, 36, 37, 38, 39, 40, 41, 42, 43, 44, 45, 46, 47, 48, 49, 50, 51, 52, 53, 54, 55, 56, 57, 58, 59, 60, 61, 62, 63, 64, 65, 66, 67] (by decide +kernel) (by decide +kernel)
set_option maxRecDepth 20000 in
theorem gX11_badness_X11_total : GoodIn wsX11_badness (wsV RX11 126 RX11 yX11_total wsX11_total) := goodIn_app (goodIn_of _ (by decide +kernel)) ggX11_badness_X11_total
set_option maxRecDepth 20000 in
theorem ggX11_badness_X11_boiledWeight : GoodIn wsX11_badness wsX11_boiledWeight := goodIn_r _ [35, 7, 20, 21, 5, 22, 8, 9, 10, 11, 12, 13, 14, 15, 16, 17, 18, 19, 23, 24, 25, 26, 27, 28, 29, 30, 31, 36, 37, 38, 39, 40, 41, 42, 43, 44, 45, 46, 47, 48, 49, 50, 51, 52, 53, 54, 55, 56, 57, 58, 59, 60, 61, 62, 63, 64, 65, 66, 67] (by decide +kernel) (by decide +kernel)
set_option maxRecDepth 20000 in
theorem gX11_badness_X11_boiledWeight : GoodIn wsX11_badness (wsV RX11 132 RX11 yX11_boiledWeight wsX11_boiledWeight) := goodIn_app (goodIn_of _ (by decide +kernel)) ggX11_badness_X11_boiledWeight
theorem dX11_badness_0 : decode cX11_badness 0 = .ok (.aload_n 0, 1) := by decide +kernel
theorem dX11_badness_1 : decode cX11_badness 1 = .ok (.iconst (-1), 1) := by decide +kernel
theorem dX11_badness_2 : decode cX11_badness 2 = .ok (.iconst 0, 1) := by decide +kernel
theorem dX11_badness_3 : decode cX11_badness 3 = .ok (.invokevirtual 126, 3) := by decide +kernel
theorem dX11_badness_6 : decode cX11_badness 6 = .ok (.lstore_n 3, 1) := by decide +kernel
theorem dX11_badness_7 : decode cX11_badness 7 = .ok (.aload_n 0, 1) := by decide +kernel
theorem dX11_badness_8 : decode cX11_badness 8 = .ok (.iload_n 2, 1) := by decide +kernel
theorem dX11_badness_9 : decode cX11_badness 9 = .ok (.iconst 0, 1) := by decide +kernel
theorem dX11_badness_10 : decode cX11_badness 10 = .ok (.invokevirtual 132, 3) := by decide +kernel
theorem dX11_badness_13 : decode cX11_badness 13 = .ok (.lstore 5, 2) := by decide +kernel
theorem dX11_badness_15 : decode cX11_badness 15 = .ok (.ldc2_w 193, 3) := by decide +kernel
theorem dX11_badness_18 : decode cX11_badness 18 = .ok (.lload 5, 2) := by decide +kernel
theorem dX11_badness_20 : decode cX11_badness 20 = .ok (.lmul, 1) := by decide +kernel
theorem dX11_badness_21 : decode cX11_badness 21 = .ok (.lload_n 3, 1) := by decide +kernel
theorem dX11_badness_22 : decode cX11_badness 22 = .ok (.lsub, 1) := by decide +kernel
theorem dX11_badness_23 : decode cX11_badness 23 = .ok (.lstore 7, 2) := by decide +kernel
theorem dX11_badness_25 : decode cX11_badness 25 = .ok (.iload_n 1, 1) := by decide +kernel
theorem dX11_badness_26 : decode cX11_badness 26 = .ok (.ifCond .ne 7, 3) := by decide +kernel
theorem dX11_badness_29 : decode cX11_badness 29 = .ok (.lconst 0, 1) := by decide +kernel
theorem dX11_badness_30 : decode cX11_badness 30 = .ok (.goto 39, 3) := by decide +kernel
theorem dX11_badness_33 : decode cX11_badness 33 = .ok (.iload_n 1, 1) := by decide +kernel
theorem dX11_badness_34 : decode cX11_badness 34 = .ok (.iconst 1, 1) := by decide +kernel
theorem dX11_badness_35 : decode cX11_badness 35 = .ok (.if_icmp .ne 21, 3) := by decide +kernel
theorem dX11_badness_38 : decode cX11_badness 38 = .ok (.lload 7, 2) := by decide +kernel
theorem dX11_badness_40 : decode cX11_badness 40 = .ok (.lconst 0, 1) := by decide +kernel
theorem dX11_badness_41 : decode cX11_badness 41 = .ok (.lcmp, 1) := by decide +kernel
theorem dX11_badness_42 : decode cX11_badness 42 = .ok (.ifCond .ge 9, 3) := by decide +kernel
theorem dX11_badness_45 : decode cX11_badness 45 = .ok (.lload 7, 2) := by decide +kernel
theorem dX11_badness_47 : decode cX11_badness 47 = .ok (.lneg, 1) := by decide +kernel
theorem dX11_badness_48 : decode cX11_badness 48 = .ok (.goto 21, 3) := by decide +kernel
theorem dX11_badness_51 : decode cX11_badness 51 = .ok (.lload 7, 2) := by decide +kernel
theorem dX11_badness_53 : decode cX11_badness 53 = .ok (.goto 16, 3) := by decide +kernel
theorem dX11_badness_56 : decode cX11_badness 56 = .ok (.iload_n 1, 1) := by decide +kernel
theorem dX11_badness_57 : decode cX11_badness 57 = .ok (.iconst 2, 1) := by decide +kernel
theorem dX11_badness_58 : decode cX11_badness 58 = .ok (.if_icmp .ne 8, 3) := by decide +kernel
theorem dX11_badness_61 : decode cX11_badness 61 = .ok (.lload 5, 2) := by decide +kernel
theorem dX11_badness_63 : decode cX11_badness 63 = .ok (.goto 6, 3) := by decide +kernel
theorem dX11_badness_66 : decode cX11_badness 66 = .ok (.lload 5, 2) := by decide +kernel
theorem dX11_badness_68 : decode cX11_badness 68 = .ok (.lneg, 1) := by decide +kernel
theorem dX11_badness_69 : decode cX11_badness 69 = .ok (.lreturn, 1) := by decide +kernel
set_option maxRecDepth 20000 in
theorem ggX11_nextOf_X11_isInBox : GoodIn wsX11_nextOf wsX11_isInBox := goodIn_r _ [6, 7, 8, 9, 5, 10, 45, 46, 47, 48, 49, 50, 51, 52, 53, 54, 55, 56, 57, 58, 59, 60, 61, 62, 63, 64, 65, 66, 67, 68, 69, 70, 71, 72, 73, 74, 75, 76] (by decide +kernel) (by decide +kernel)
set_option maxRecDepth 20000 in
theorem gX11_nextOf_X11_isInBox : GoodIn wsX11_nextOf (wsV RX11 123 RX11 yX11_isInBox wsX11_isInBox) := goodIn_app (goodIn_of _ (by decide +kernel)) ggX11_nextOf_X11_isInBox
set_option maxRecDepth 20000 in
theorem ggX11_nextOf_X11_badness : GoodIn wsX11_nextOf wsX11_badness := goodIn_r _ [14, 15, 16, 17, 18, 5, 19, 1, 20, 21, 22, 23, 24, 25, 26, 27, 28, 29, 30, 31, 8, 9, 10, 32, 33, 34, 35, 36, 37, 38, 39, 40, 41, 42, 43, 44, 45, 46, 47, 48, 49, 50, 51, 52, 53, 54, 55, 56, 57, 58, 59, 60, 61, 62, 63, 64, 65, 66, 67, 68, 69, 70, 71, 72, 73, 74, 75, 76] (by decide +kernel) (by decide +kernel)
set_option maxRecDepth 20000 in
theorem gX11_nextOf_X11_badness : GoodIn wsX11_nextOf (wsV RX11 195 RX11 yX11_badness wsX11_badness) := goodIn_app (goodIn_of _ (by decide +kernel)) ggX11_nextOf_X11_badness
theorem dX11_nextOf_0 : decode cX11_nextOf 0 = .ok (.iconst (-1), 1) := by decide +kernel
theorem dX11_nextOf_1 : decode cX11_nextOf 1 = .ok (.istore_n 2, 1) := by decide +kernel
theorem dX11_nextOf_2 : decode cX11_nextOf 2 = .ok (.iconst 0, 1) := by decide +kernel
theorem dX11_nextOf_3 : decode cX11_nextOf 3 = .ok (.istore_n 3, 1) := by decide +kernel
theorem dX11_nextOf_4 : decode cX11_nextOf 4 = .ok (.iload_n 3, 1) := by decide +kernel
theorem dX11_nextOf_5 : decode cX11_nextOf 5 = .ok (.aload_n 0, 1) := by decide +kernel
theorem dX11_nextOf_6 : decode cX11_nextOf 6 = .ok (.getfield 71, 3) := by decide +kernel
theorem dX11_nextOf_9 : decode cX11_nextOf 9 = .ok (.if_icmp .ge 75, 3) := by decide +kernel
theorem dX11_nextOf_12 : decode cX11_nextOf 12 = .ok (.aload_n 0, 1) := by decide +kernel
theorem dX11_nextOf_13 : decode cX11_nextOf 13 = .ok (.iload_n 3, 1) := by decide +kernel
theorem dX11_nextOf_14 : decode cX11_nextOf 14 = .ok (.invokevirtual 123, 3) := by decide +kernel
theorem dX11_nextOf_17 : decode cX11_nextOf 17 = .ok (.ifCond .eq 61, 3) := by decide +kernel
theorem dX11_nextOf_20 : decode cX11_nextOf 20 = .ok (.aload_n 0, 1) := by decide +kernel
theorem dX11_nextOf_21 : decode cX11_nextOf 21 = .ok (.iload_n 1, 1) := by decide +kernel
theorem dX11_nextOf_22 : decode cX11_nextOf 22 = .ok (.iload_n 3, 1) := by decide +kernel
theorem dX11_nextOf_23 : decode cX11_nextOf 23 = .ok (.invokevirtual 195, 3) := by decide +kernel
theorem dX11_nextOf_26 : decode cX11_nextOf 26 = .ok (.lstore 4, 2) := by decide +kernel
theorem dX11_nextOf_28 : decode cX11_nextOf 28 = .ok (.iload_n 2, 1) := by decide +kernel
theorem dX11_nextOf_29 : decode cX11_nextOf 29 = .ok (.iconst (-1), 1) := by decide +kernel
theorem dX11_nextOf_30 : decode cX11_nextOf 30 = .ok (.if_icmp .ne 8, 3) := by decide +kernel
theorem dX11_nextOf_33 : decode cX11_nextOf 33 = .ok (.lload 4, 2) := by decide +kernel
theorem dX11_nextOf_35 : decode cX11_nextOf 35 = .ok (.goto 9, 3) := by decide +kernel
theorem dX11_nextOf_38 : decode cX11_nextOf 38 = .ok (.aload_n 0, 1) := by decide +kernel
theorem dX11_nextOf_39 : decode cX11_nextOf 39 = .ok (.iload_n 1, 1) := by decide +kernel
theorem dX11_nextOf_40 : decode cX11_nextOf 40 = .ok (.iload_n 2, 1) := by decide +kernel
theorem dX11_nextOf_41 : decode cX11_nextOf 41 = .ok (.invokevirtual 195, 3) := by decide +kernel
theorem dX11_nextOf_44 : decode cX11_nextOf 44 = .ok (.lstore 6, 2) := by decide +kernel
theorem dX11_nextOf_46 : decode cX11_nextOf 46 = .ok (.iload_n 2, 1) := by decide +kernel
theorem dX11_nextOf_47 : decode cX11_nextOf 47 = .ok (.iconst (-1), 1) := by decide +kernel
theorem dX11_nextOf_48 : decode cX11_nextOf 48 = .ok (.if_icmp .eq 24, 3) := by decide +kernel
theorem dX11_nextOf_51 : decode cX11_nextOf 51 = .ok (.lload 4, 2) := by decide +kernel
theorem dX11_nextOf_53 : decode cX11_nextOf 53 = .ok (.lload 6, 2) := by decide +kernel
theorem dX11_nextOf_55 : decode cX11_nextOf 55 = .ok (.lcmp, 1) := by decide +kernel
theorem dX11_nextOf_56 : decode cX11_nextOf 56 = .ok (.ifCond .lt 16, 3) := by decide +kernel
theorem dX11_nextOf_59 : decode cX11_nextOf 59 = .ok (.iload_n 1, 1) := by decide +kernel
theorem dX11_nextOf_60 : decode cX11_nextOf 60 = .ok (.iconst 4, 1) := by decide +kernel
theorem dX11_nextOf_61 : decode cX11_nextOf 61 = .ok (.if_icmp .ne 15, 3) := by decide +kernel
theorem dX11_nextOf_64 : decode cX11_nextOf 64 = .ok (.lload 4, 2) := by decide +kernel
theorem dX11_nextOf_66 : decode cX11_nextOf 66 = .ok (.lload 6, 2) := by decide +kernel
theorem dX11_nextOf_68 : decode cX11_nextOf 68 = .ok (.lcmp, 1) := by decide +kernel
theorem dX11_nextOf_69 : decode cX11_nextOf 69 = .ok (.ifCond .ne 7, 3) := by decide +kernel
theorem dX11_nextOf_72 : decode cX11_nextOf 72 = .ok (.iload_n 3, 1) := by decide +kernel
theorem dX11_nextOf_73 : decode cX11_nextOf 73 = .ok (.goto 4, 3) := by decide +kernel
theorem dX11_nextOf_76 : decode cX11_nextOf 76 = .ok (.iload_n 2, 1) := by decide +kernel
theorem dX11_nextOf_77 : decode cX11_nextOf 77 = .ok (.istore_n 2, 1) := by decide +kernel
theorem dX11_nextOf_78 : decode cX11_nextOf 78 = .ok (.iinc 3 1, 3) := by decide +kernel
theorem dX11_nextOf_81 : decode cX11_nextOf 81 = .ok (.goto (-77), 3) := by decide +kernel
theorem dX11_nextOf_84 : decode cX11_nextOf 84 = .ok (.iload_n 2, 1) := by decide +kernel
theorem dX11_nextOf_85 : decode cX11_nextOf 85 = .ok (.ireturn, 1) := by decide +kernel
set_option maxRecDepth 20000 in
theorem ggX11_trierNow_X11_nextOf : GoodIn wsX11_trierNow wsX11_nextOf := goodIn_r _ [6, 7, 8, 9, 10, 5, 11, 12, 13, 14, 15, 16, 17, 18, 19, 20, 21, 22, 23, 24, 25, 26, 27, 28, 29, 30, 31, 32, 33, 34, 35, 36, 37, 38, 39, 40, 41, 42, 43, 44, 45, 46, 47, 48, 49, 50, 51, 52, 53, 54, 55, 56, 57, 58, 59, 60, 61, 62, 63, 64, 65, 66, 67, 68, 69, 70, 71, 72, 73, 74, 75, 76, 77, 78, 79, 80, 81] (by decide +kernel) (by decide +kernel)
set_option maxRecDepth 20000 in
theorem gX11_trierNow_X11_nextOf : GoodIn wsX11_trierNow (wsV RX11 198 RX11 yX11_nextOf wsX11_nextOf) := goodIn_app (goodIn_of _ (by decide +kernel)) ggX11_trierNow_X11_nextOf
theorem dX11_trierNow_0 : decode cX11_trierNow 0 = .ok (.iload_n 2, 1) := by decide +kernel
theorem dX11_trierNow_1 : decode cX11_trierNow 1 = .ok (.ifCond .ne 12, 3) := by decide +kernel
theorem dX11_trierNow_4 : decode cX11_trierNow 4 = .ok (.aload_n 0, 1) := by decide +kernel
theorem dX11_trierNow_5 : decode cX11_trierNow 5 = .ok (.getfield 22, 3) := by decide +kernel
theorem dX11_trierNow_8 : decode cX11_trierNow 8 = .ok (.iload_n 1, 1) := by decide +kernel
theorem dX11_trierNow_9 : decode cX11_trierNow 9 = .ok (.iaload, 1) := by decide +kernel
theorem dX11_trierNow_10 : decode cX11_trierNow 10 = .ok (.goto 13, 3) := by decide +kernel
theorem dX11_trierNow_13 : decode cX11_trierNow 13 = .ok (.aload_n 0, 1) := by decide +kernel
theorem dX11_trierNow_14 : decode cX11_trierNow 14 = .ok (.aload_n 0, 1) := by decide +kernel
theorem dX11_trierNow_15 : decode cX11_trierNow 15 = .ok (.getfield 22, 3) := by decide +kernel
theorem dX11_trierNow_18 : decode cX11_trierNow 18 = .ok (.iload_n 1, 1) := by decide +kernel
theorem dX11_trierNow_19 : decode cX11_trierNow 19 = .ok (.iaload, 1) := by decide +kernel
theorem dX11_trierNow_20 : decode cX11_trierNow 20 = .ok (.invokevirtual 198, 3) := by decide +kernel
theorem dX11_trierNow_23 : decode cX11_trierNow 23 = .ok (.ireturn, 1) := by decide +kernel
set_option maxRecDepth 20000 in
theorem ggX11_about_X11_isTrier : GoodIn wsX11_about wsX11_isTrier := goodIn_r _ [5, 6, 7, 8, 4, 9, 62, 63, 64, 65, 66, 67, 68, 69, 70, 71, 72, 73, 74, 75, 76, 77, 78, 79, 80, 81, 82, 83, 84, 85, 86, 87, 88, 89, 90, 91, 92, 93] (by decide +kernel) (by decide +kernel)
set_option maxRecDepth 20000 in
theorem gX11_about_X11_isTrier : GoodIn wsX11_about (wsV RX11 201 RX11 yX11_isTrier wsX11_isTrier) := goodIn_app (goodIn_of _ (by decide +kernel)) ggX11_about_X11_isTrier
set_option maxRecDepth 20000 in
theorem ggX11_about_X11_within : GoodIn wsX11_about wsX11_within := goodIn_r _ [9] (by decide +kernel) (by decide +kernel)
set_option maxRecDepth 20000 in
theorem gX11_about_X11_within : GoodIn wsX11_about (va_wsS RX11 51 yX11_within wsX11_within) := goodIn_app (goodIn_of _ (by decide +kernel)) ggX11_about_X11_within
set_option maxRecDepth 20000 in
theorem ggX11_about_X11_trierNow : GoodIn wsX11_about wsX11_trierNow := goodIn_r _ [13, 14, 15, 16, 17, 4, 18, 19, 20, 21, 22, 23, 24, 25, 26, 27, 28, 29, 30, 31, 32, 33, 34, 35, 36, 37, 38, 39, 40, 41, 42, 43, 44, 45, 46, 47, 48, 49, 50, 51, 52, 53, 54, 55, 56, 57, 58, 59, 60, 61, 62, 63, 64, 65, 66, 67, 68, 69, 70, 71, 72, 73, 74, 75, 76, 77, 78, 79, 80, 81, 82, 83, 84, 85, 86, 87, 88, 89, 90, 91, 92, 93] (by decide +kernel) (by decide +kernel)
set_option maxRecDepth 20000 in
theorem gX11_about_X11_trierNow : GoodIn wsX11_about (wsV RX11 204 RX11 yX11_trierNow wsX11_trierNow) := goodIn_app (goodIn_of _ (by decide +kernel)) ggX11_about_X11_trierNow
theorem dX11_about_0 : decode cX11_about 0 = .ok (.aload_n 0, 1) := by decide +kernel
theorem dX11_about_1 : decode cX11_about 1 = .ok (.iload_n 1, 1) := by decide +kernel
theorem dX11_about_2 : decode cX11_about 2 = .ok (.invokevirtual 201, 3) := by decide +kernel
theorem dX11_about_5 : decode cX11_about 5 = .ok (.ifCond .ne 8, 3) := by decide +kernel
theorem dX11_about_8 : decode cX11_about 8 = .ok (.bipush (-101), 2) := by decide +kernel
theorem dX11_about_10 : decode cX11_about 10 = .ok (.goto 23, 3) := by decide +kernel
theorem dX11_about_13 : decode cX11_about 13 = .ok (.iload_n 2, 1) := by decide +kernel
theorem dX11_about_14 : decode cX11_about 14 = .ok (.iconst 0, 1) := by decide +kernel
theorem dX11_about_15 : decode cX11_about 15 = .ok (.iconst 1, 1) := by decide +kernel
theorem dX11_about_16 : decode cX11_about 16 = .ok (.invokestatic 51, 3) := by decide +kernel
theorem dX11_about_19 : decode cX11_about 19 = .ok (.ifCond .eq 12, 3) := by decide +kernel
theorem dX11_about_22 : decode cX11_about 22 = .ok (.aload_n 0, 1) := by decide +kernel
theorem dX11_about_23 : decode cX11_about 23 = .ok (.iload_n 1, 1) := by decide +kernel
theorem dX11_about_24 : decode cX11_about 24 = .ok (.iload_n 2, 1) := by decide +kernel
theorem dX11_about_25 : decode cX11_about 25 = .ok (.invokevirtual 204, 3) := by decide +kernel
theorem dX11_about_28 : decode cX11_about 28 = .ok (.goto 5, 3) := by decide +kernel
theorem dX11_about_31 : decode cX11_about 31 = .ok (.bipush (-102), 2) := by decide +kernel
theorem dX11_about_33 : decode cX11_about 33 = .ok (.ireturn, 1) := by decide +kernel
set_option maxRecDepth 20000 in
theorem ggX11_as_X11_isTrier : GoodIn wsX11_as wsX11_isTrier := goodIn_r _ [6, 7, 8, 9, 5, 10, 11, 12, 13, 14, 15, 16, 17, 18, 19, 20, 21, 22, 23, 24, 25, 26, 27, 28, 29, 30, 31, 32, 33, 34, 35, 36, 37, 38, 39, 40, 41, 42] (by decide +kernel) (by decide +kernel)
set_option maxRecDepth 20000 in
theorem gX11_as_X11_isTrier : GoodIn wsX11_as (wsV RX11 201 RX11 yX11_isTrier wsX11_isTrier) := goodIn_app (goodIn_of _ (by decide +kernel)) ggX11_as_X11_isTrier
set_option maxRecDepth 20000 in
theorem ggX11_as_X11_within : GoodIn wsX11_as wsX11_within := goodIn_r _ [10] (by decide +kernel) (by decide +kernel)
set_option maxRecDepth 20000 in
theorem gX11_as_X11_within : GoodIn wsX11_as (va_wsS RX11 51 yX11_within wsX11_within) := goodIn_app (goodIn_of _ (by decide +kernel)) ggX11_as_X11_within
theorem dX11_as_0 : decode cX11_as 0 = .ok (.aload_n 0, 1) := by decide +kernel
theorem dX11_as_1 : decode cX11_as 1 = .ok (.iload_n 1, 1) := by decide +kernel
theorem dX11_as_2 : decode cX11_as 2 = .ok (.invokevirtual 201, 3) := by decide +kernel
theorem dX11_as_5 : decode cX11_as 5 = .ok (.ifCond .ne 6, 3) := by decide +kernel
theorem dX11_as_8 : decode cX11_as 8 = .ok (.bipush (-101), 2) := by decide +kernel
theorem dX11_as_10 : decode cX11_as 10 = .ok (.ireturn, 1) := by decide +kernel
theorem dX11_as_11 : decode cX11_as 11 = .ok (.iload_n 2, 1) := by decide +kernel
theorem dX11_as_12 : decode cX11_as 12 = .ok (.iconst 0, 1) := by decide +kernel
theorem dX11_as_13 : decode cX11_as 13 = .ok (.iconst 4, 1) := by decide +kernel
theorem dX11_as_14 : decode cX11_as 14 = .ok (.invokestatic 51, 3) := by decide +kernel
theorem dX11_as_17 : decode cX11_as 17 = .ok (.ifCond .ne 6, 3) := by decide +kernel
theorem dX11_as_20 : decode cX11_as 20 = .ok (.bipush (-102), 2) := by decide +kernel
theorem dX11_as_22 : decode cX11_as 22 = .ok (.ireturn, 1) := by decide +kernel
theorem dX11_as_23 : decode cX11_as 23 = .ok (.aload_n 0, 1) := by decide +kernel
theorem dX11_as_24 : decode cX11_as 24 = .ok (.getfield 22, 3) := by decide +kernel
theorem dX11_as_27 : decode cX11_as 27 = .ok (.iload_n 1, 1) := by decide +kernel
theorem dX11_as_28 : decode cX11_as 28 = .ok (.iaload, 1) := by decide +kernel
theorem dX11_as_29 : decode cX11_as 29 = .ok (.istore_n 3, 1) := by decide +kernel
theorem dX11_as_30 : decode cX11_as 30 = .ok (.iload_n 2, 1) := by decide +kernel
theorem dX11_as_31 : decode cX11_as 31 = .ok (.ifCond .eq 18, 3) := by decide +kernel
theorem dX11_as_34 : decode cX11_as 34 = .ok (.iload_n 3, 1) := by decide +kernel
theorem dX11_as_35 : decode cX11_as 35 = .ok (.iload_n 2, 1) := by decide +kernel
theorem dX11_as_36 : decode cX11_as 36 = .ok (.if_icmp .eq 13, 3) := by decide +kernel
theorem dX11_as_39 : decode cX11_as 39 = .ok (.iload_n 2, 1) := by decide +kernel
theorem dX11_as_40 : decode cX11_as 40 = .ok (.iconst 3, 1) := by decide +kernel
theorem dX11_as_41 : decode cX11_as 41 = .ok (.if_icmp .ne 12, 3) := by decide +kernel
theorem dX11_as_44 : decode cX11_as 44 = .ok (.iload_n 3, 1) := by decide +kernel
theorem dX11_as_45 : decode cX11_as 45 = .ok (.iconst 4, 1) := by decide +kernel
theorem dX11_as_46 : decode cX11_as 46 = .ok (.if_icmp .ne 7, 3) := by decide +kernel
theorem dX11_as_49 : decode cX11_as 49 = .ok (.iload_n 1, 1) := by decide +kernel
theorem dX11_as_50 : decode cX11_as 50 = .ok (.goto 4, 3) := by decide +kernel
theorem dX11_as_53 : decode cX11_as 53 = .ok (.iconst (-1), 1) := by decide +kernel
theorem dX11_as_54 : decode cX11_as 54 = .ok (.ireturn, 1) := by decide +kernel
set_option maxRecDepth 20000 in
theorem ggX11_fitsNow_X11_weight : GoodIn wsX11_fitsNow wsX11_weight := goodIn_r _ [6, 7, 1, 8, 9, 10, 11, 12, 13, 5, 14, 15, 16, 17, 18, 19, 20, 21, 22, 23, 24, 25, 26, 27, 28, 29, 30, 31, 32, 33, 34, 35, 36, 37, 38, 39, 40, 41, 42, 43, 44, 45, 46, 47, 48, 49, 50, 51, 52, 53, 54, 55, 56, 57, 58] (by decide +kernel) (by decide +kernel)
set_option maxRecDepth 20000 in
theorem gX11_fitsNow_X11_weight : GoodIn wsX11_fitsNow (wsV RX11 119 RX11 yX11_weight wsX11_weight) := goodIn_app (goodIn_of _ (by decide +kernel)) ggX11_fitsNow_X11_weight
theorem dX11_fitsNow_0 : decode cX11_fitsNow 0 = .ok (.iconst 0, 1) := by decide +kernel
theorem dX11_fitsNow_1 : decode cX11_fitsNow 1 = .ok (.istore_n 2, 1) := by decide +kernel
theorem dX11_fitsNow_2 : decode cX11_fitsNow 2 = .ok (.iconst 1, 1) := by decide +kernel
theorem dX11_fitsNow_3 : decode cX11_fitsNow 3 = .ok (.aload_n 0, 1) := by decide +kernel
theorem dX11_fitsNow_4 : decode cX11_fitsNow 4 = .ok (.getfield 71, 3) := by decide +kernel
theorem dX11_fitsNow_7 : decode cX11_fitsNow 7 = .ok (.ishl, 1) := by decide +kernel
theorem dX11_fitsNow_8 : decode cX11_fitsNow 8 = .ok (.iconst 1, 1) := by decide +kernel
theorem dX11_fitsNow_9 : decode cX11_fitsNow 9 = .ok (.isub, 1) := by decide +kernel
theorem dX11_fitsNow_10 : decode cX11_fitsNow 10 = .ok (.istore_n 3, 1) := by decide +kernel
theorem dX11_fitsNow_11 : decode cX11_fitsNow 11 = .ok (.iload_n 3, 1) := by decide +kernel
theorem dX11_fitsNow_12 : decode cX11_fitsNow 12 = .ok (.istore 4, 2) := by decide +kernel
theorem dX11_fitsNow_14 : decode cX11_fitsNow 14 = .ok (.iconst 0, 1) := by decide +kernel
theorem dX11_fitsNow_15 : decode cX11_fitsNow 15 = .ok (.istore 5, 2) := by decide +kernel
theorem dX11_fitsNow_17 : decode cX11_fitsNow 17 = .ok (.iload 5, 2) := by decide +kernel
theorem dX11_fitsNow_19 : decode cX11_fitsNow 19 = .ok (.iconst 1, 1) := by decide +kernel
theorem dX11_fitsNow_20 : decode cX11_fitsNow 20 = .ok (.aload_n 0, 1) := by decide +kernel
theorem dX11_fitsNow_21 : decode cX11_fitsNow 21 = .ok (.getfield 71, 3) := by decide +kernel
theorem dX11_fitsNow_24 : decode cX11_fitsNow 24 = .ok (.ishl, 1) := by decide +kernel
theorem dX11_fitsNow_25 : decode cX11_fitsNow 25 = .ok (.if_icmp .ge 39, 3) := by decide +kernel
theorem dX11_fitsNow_28 : decode cX11_fitsNow 28 = .ok (.aload_n 0, 1) := by decide +kernel
theorem dX11_fitsNow_29 : decode cX11_fitsNow 29 = .ok (.iload 5, 2) := by decide +kernel
theorem dX11_fitsNow_31 : decode cX11_fitsNow 31 = .ok (.iconst (-1), 1) := by decide +kernel
theorem dX11_fitsNow_32 : decode cX11_fitsNow 32 = .ok (.iconst 0, 1) := by decide +kernel
theorem dX11_fitsNow_33 : decode cX11_fitsNow 33 = .ok (.invokevirtual 119, 3) := by decide +kernel
theorem dX11_fitsNow_36 : decode cX11_fitsNow 36 = .ok (.lconst 0, 1) := by decide +kernel
theorem dX11_fitsNow_37 : decode cX11_fitsNow 37 = .ok (.lcmp, 1) := by decide +kernel
theorem dX11_fitsNow_38 : decode cX11_fitsNow 38 = .ok (.ifCond .le 20, 3) := by decide +kernel
theorem dX11_fitsNow_41 : decode cX11_fitsNow 41 = .ok (.iinc 2 1, 3) := by decide +kernel
theorem dX11_fitsNow_44 : decode cX11_fitsNow 44 = .ok (.iload_n 3, 1) := by decide +kernel
theorem dX11_fitsNow_45 : decode cX11_fitsNow 45 = .ok (.iload 5, 2) := by decide +kernel
theorem dX11_fitsNow_47 : decode cX11_fitsNow 47 = .ok (.iand, 1) := by decide +kernel
theorem dX11_fitsNow_48 : decode cX11_fitsNow 48 = .ok (.istore_n 3, 1) := by decide +kernel
theorem dX11_fitsNow_49 : decode cX11_fitsNow 49 = .ok (.iload 4, 2) := by decide +kernel
theorem dX11_fitsNow_51 : decode cX11_fitsNow 51 = .ok (.iload 5, 2) := by decide +kernel
theorem dX11_fitsNow_53 : decode cX11_fitsNow 53 = .ok (.iconst (-1), 1) := by decide +kernel
theorem dX11_fitsNow_54 : decode cX11_fitsNow 54 = .ok (.ixor, 1) := by decide +kernel
theorem dX11_fitsNow_55 : decode cX11_fitsNow 55 = .ok (.iand, 1) := by decide +kernel
theorem dX11_fitsNow_56 : decode cX11_fitsNow 56 = .ok (.istore 4, 2) := by decide +kernel
theorem dX11_fitsNow_58 : decode cX11_fitsNow 58 = .ok (.iinc 5 1, 3) := by decide +kernel
theorem dX11_fitsNow_61 : decode cX11_fitsNow 61 = .ok (.goto (-44), 3) := by decide +kernel
theorem dX11_fitsNow_64 : decode cX11_fitsNow 64 = .ok (.iload_n 1, 1) := by decide +kernel
theorem dX11_fitsNow_65 : decode cX11_fitsNow 65 = .ok (.ifCond .ne 7, 3) := by decide +kernel
theorem dX11_fitsNow_68 : decode cX11_fitsNow 68 = .ok (.iload_n 2, 1) := by decide +kernel
theorem dX11_fitsNow_69 : decode cX11_fitsNow 69 = .ok (.goto 14, 3) := by decide +kernel
theorem dX11_fitsNow_72 : decode cX11_fitsNow 72 = .ok (.iload_n 1, 1) := by decide +kernel
theorem dX11_fitsNow_73 : decode cX11_fitsNow 73 = .ok (.iconst 1, 1) := by decide +kernel
theorem dX11_fitsNow_74 : decode cX11_fitsNow 74 = .ok (.if_icmp .ne 7, 3) := by decide +kernel
theorem dX11_fitsNow_77 : decode cX11_fitsNow 77 = .ok (.iload_n 3, 1) := by decide +kernel
theorem dX11_fitsNow_78 : decode cX11_fitsNow 78 = .ok (.goto 5, 3) := by decide +kernel
theorem dX11_fitsNow_81 : decode cX11_fitsNow 81 = .ok (.iload 4, 2) := by decide +kernel
theorem dX11_fitsNow_83 : decode cX11_fitsNow 83 = .ok (.ireturn, 1) := by decide +kernel
set_option maxRecDepth 20000 in
theorem ggX11_fits_X11_within : GoodIn wsX11_fits wsX11_within := goodIn_r _ [5] (by decide +kernel) (by decide +kernel)
set_option maxRecDepth 20000 in
theorem gX11_fits_X11_within : GoodIn wsX11_fits (va_wsS RX11 51 yX11_within wsX11_within) := goodIn_app (goodIn_of _ (by decide +kernel)) ggX11_fits_X11_within
set_option maxRecDepth 20000 in
theorem ggX11_fits_X11_fitsNow : GoodIn wsX11_fits wsX11_fitsNow := goodIn_r _ [9, 1, 10, 11, 12, 4, 13, 14, 15, 16, 17, 18, 19, 20, 21, 22, 23, 24, 25, 26, 27, 28, 29, 30, 31, 32, 33, 34, 35, 36, 37, 38, 39, 40, 41, 42, 43, 44, 45, 46, 47, 48, 49, 50, 51, 52, 53, 54, 55, 56, 57, 58, 59, 60, 61, 62, 63, 64, 65] (by decide +kernel) (by decide +kernel)
set_option maxRecDepth 20000 in
theorem gX11_fits_X11_fitsNow : GoodIn wsX11_fits (wsV RX11 207 RX11 yX11_fitsNow wsX11_fitsNow) := goodIn_app (goodIn_of _ (by decide +kernel)) ggX11_fits_X11_fitsNow
theorem dX11_fits_0 : decode cX11_fits 0 = .ok (.iload_n 1, 1) := by decide +kernel
theorem dX11_fits_1 : decode cX11_fits 1 = .ok (.iconst 0, 1) := by decide +kernel
theorem dX11_fits_2 : decode cX11_fits 2 = .ok (.iconst 2, 1) := by decide +kernel
theorem dX11_fits_3 : decode cX11_fits 3 = .ok (.invokestatic 51, 3) := by decide +kernel
theorem dX11_fits_6 : decode cX11_fits 6 = .ok (.ifCond .ne 6, 3) := by decide +kernel
theorem dX11_fits_9 : decode cX11_fits 9 = .ok (.bipush (-102), 2) := by decide +kernel
theorem dX11_fits_11 : decode cX11_fits 11 = .ok (.ireturn, 1) := by decide +kernel
theorem dX11_fits_12 : decode cX11_fits 12 = .ok (.aload_n 0, 1) := by decide +kernel
theorem dX11_fits_13 : decode cX11_fits 13 = .ok (.getfield 71, 3) := by decide +kernel
theorem dX11_fits_16 : decode cX11_fits 16 = .ok (.ifCond .ne 8, 3) := by decide +kernel
theorem dX11_fits_19 : decode cX11_fits 19 = .ok (.bipush (-103), 2) := by decide +kernel
theorem dX11_fits_21 : decode cX11_fits 21 = .ok (.goto 8, 3) := by decide +kernel
theorem dX11_fits_24 : decode cX11_fits 24 = .ok (.aload_n 0, 1) := by decide +kernel
theorem dX11_fits_25 : decode cX11_fits 25 = .ok (.iload_n 1, 1) := by decide +kernel
theorem dX11_fits_26 : decode cX11_fits 26 = .ok (.invokevirtual 207, 3) := by decide +kernel
theorem dX11_fits_29 : decode cX11_fits 29 = .ok (.ireturn, 1) := by decide +kernel
theorem dX11_draw_0 : decode cX11_draw 0 = .ok (.aload_n 0, 1) := by decide +kernel
theorem dX11_draw_1 : decode cX11_draw 1 = .ok (.ldc2_w 210, 3) := by decide +kernel
theorem dX11_draw_4 : decode cX11_draw 4 = .ok (.aload_n 0, 1) := by decide +kernel
theorem dX11_draw_5 : decode cX11_draw 5 = .ok (.getfield 212, 3) := by decide +kernel
theorem dX11_draw_8 : decode cX11_draw 8 = .ok (.lmul, 1) := by decide +kernel
theorem dX11_draw_9 : decode cX11_draw 9 = .ok (.ldc2_w 216, 3) := by decide +kernel
theorem dX11_draw_12 : decode cX11_draw 12 = .ok (.ladd, 1) := by decide +kernel
theorem dX11_draw_13 : decode cX11_draw 13 = .ok (.ldc2_w 218, 3) := by decide +kernel
theorem dX11_draw_16 : decode cX11_draw 16 = .ok (.land, 1) := by decide +kernel
theorem dX11_draw_17 : decode cX11_draw 17 = .ok (.putfield 212, 3) := by decide +kernel
theorem dX11_draw_20 : decode cX11_draw 20 = .ok (.aload_n 0, 1) := by decide +kernel
theorem dX11_draw_21 : decode cX11_draw 21 = .ok (.getfield 212, 3) := by decide +kernel
theorem dX11_draw_24 : decode cX11_draw 24 = .ok (.ldc2_w 220, 3) := by decide +kernel
theorem dX11_draw_27 : decode cX11_draw 27 = .ok (.ldiv, 1) := by decide +kernel
theorem dX11_draw_28 : decode cX11_draw 28 = .ok (.iload_n 1, 1) := by decide +kernel
theorem dX11_draw_29 : decode cX11_draw 29 = .ok (.i2l, 1) := by decide +kernel
theorem dX11_draw_30 : decode cX11_draw 30 = .ok (.lrem, 1) := by decide +kernel
theorem dX11_draw_31 : decode cX11_draw 31 = .ok (.l2i, 1) := by decide +kernel
theorem dX11_draw_32 : decode cX11_draw 32 = .ok (.ireturn, 1) := by decide +kernel
set_option maxRecDepth 20000 in
theorem ggX11_boxBy_X11_weight : GoodIn wsX11_boxBy wsX11_weight := goodIn_r _ [6, 7, 1, 8, 9, 10, 11, 12, 13, 5, 14, 15, 16, 17, 18, 19, 20, 21, 22, 23, 24, 25, 26, 27, 28, 29, 30, 31, 32, 33, 34, 35, 36, 37, 38, 39, 40, 41, 42, 43, 44, 45, 46, 47, 48, 49, 50, 51, 52, 53, 54, 55, 56, 57, 58] (by decide +kernel) (by decide +kernel)
set_option maxRecDepth 20000 in
theorem gX11_boxBy_X11_weight : GoodIn wsX11_boxBy (wsV RX11 119 RX11 yX11_weight wsX11_weight) := goodIn_app (goodIn_of _ (by decide +kernel)) ggX11_boxBy_X11_weight
theorem dX11_boxBy_0 : decode cX11_boxBy 0 = .ok (.iload_n 1, 1) := by decide +kernel
theorem dX11_boxBy_1 : decode cX11_boxBy 1 = .ok (.istore_n 2, 1) := by decide +kernel
theorem dX11_boxBy_2 : decode cX11_boxBy 2 = .ok (.iconst 0, 1) := by decide +kernel
theorem dX11_boxBy_3 : decode cX11_boxBy 3 = .ok (.istore_n 3, 1) := by decide +kernel
theorem dX11_boxBy_4 : decode cX11_boxBy 4 = .ok (.iload_n 3, 1) := by decide +kernel
theorem dX11_boxBy_5 : decode cX11_boxBy 5 = .ok (.iconst 1, 1) := by decide +kernel
theorem dX11_boxBy_6 : decode cX11_boxBy 6 = .ok (.aload_n 0, 1) := by decide +kernel
theorem dX11_boxBy_7 : decode cX11_boxBy 7 = .ok (.getfield 71, 3) := by decide +kernel
theorem dX11_boxBy_10 : decode cX11_boxBy 10 = .ok (.ishl, 1) := by decide +kernel
theorem dX11_boxBy_11 : decode cX11_boxBy 11 = .ok (.if_icmp .ge 30, 3) := by decide +kernel
theorem dX11_boxBy_14 : decode cX11_boxBy 14 = .ok (.aload_n 0, 1) := by decide +kernel
theorem dX11_boxBy_15 : decode cX11_boxBy 15 = .ok (.iload_n 3, 1) := by decide +kernel
theorem dX11_boxBy_16 : decode cX11_boxBy 16 = .ok (.iconst (-1), 1) := by decide +kernel
theorem dX11_boxBy_17 : decode cX11_boxBy 17 = .ok (.iconst 0, 1) := by decide +kernel
theorem dX11_boxBy_18 : decode cX11_boxBy 18 = .ok (.invokevirtual 119, 3) := by decide +kernel
theorem dX11_boxBy_21 : decode cX11_boxBy 21 = .ok (.lconst 0, 1) := by decide +kernel
theorem dX11_boxBy_22 : decode cX11_boxBy 22 = .ok (.lcmp, 1) := by decide +kernel
theorem dX11_boxBy_23 : decode cX11_boxBy 23 = .ok (.ifCond .le 12, 3) := by decide +kernel
theorem dX11_boxBy_26 : decode cX11_boxBy 26 = .ok (.iload_n 2, 1) := by decide +kernel
theorem dX11_boxBy_27 : decode cX11_boxBy 27 = .ok (.ifCond .ne 5, 3) := by decide +kernel
theorem dX11_boxBy_30 : decode cX11_boxBy 30 = .ok (.iload_n 3, 1) := by decide +kernel
theorem dX11_boxBy_31 : decode cX11_boxBy 31 = .ok (.ireturn, 1) := by decide +kernel
theorem dX11_boxBy_32 : decode cX11_boxBy 32 = .ok (.iinc 2 (-1), 3) := by decide +kernel
theorem dX11_boxBy_35 : decode cX11_boxBy 35 = .ok (.iinc 3 1, 3) := by decide +kernel
theorem dX11_boxBy_38 : decode cX11_boxBy 38 = .ok (.goto (-34), 3) := by decide +kernel
theorem dX11_boxBy_41 : decode cX11_boxBy 41 = .ok (.iconst (-1), 1) := by decide +kernel
theorem dX11_boxBy_42 : decode cX11_boxBy 42 = .ok (.ireturn, 1) := by decide +kernel
set_option maxRecDepth 20000 in
theorem ggX11_morningsNow_X11_fitsNow : GoodIn wsX11_morningsNow wsX11_fitsNow := goodIn_r _ [9, 2, 10, 11, 12, 8, 13, 14, 15, 3, 4, 16, 17, 18, 19, 20, 21, 22, 23, 24, 25, 26, 27, 28, 29, 30, 31, 44, 45, 46, 47, 48, 49, 50, 51, 52, 53, 54, 55, 56, 57, 58, 59, 60, 61, 62, 63, 64, 65, 66, 67, 68, 69, 70, 71, 72, 73, 74, 75] (by decide +kernel) (by decide +kernel)
set_option maxRecDepth 20000 in
theorem gX11_morningsNow_X11_fitsNow : GoodIn wsX11_morningsNow (wsV RX11 207 RX11 yX11_fitsNow wsX11_fitsNow) := goodIn_app (goodIn_of _ (by decide +kernel)) ggX11_morningsNow_X11_fitsNow
set_option maxRecDepth 20000 in
theorem ggX11_morningsNow_X11_draw : GoodIn wsX11_morningsNow wsX11_draw := goodIn_r _ [35, 36, 1, 37, 38, 39, 44, 45, 46, 47, 48, 49, 50, 51, 52, 53, 54, 55, 56, 57, 58, 59, 60, 61, 62, 63, 64, 65, 66, 67, 68, 69, 70, 71, 72, 73, 74, 75] (by decide +kernel) (by decide +kernel)
set_option maxRecDepth 20000 in
theorem gX11_morningsNow_X11_draw : GoodIn wsX11_morningsNow (wsV RX11 222 RX11 yX11_draw wsX11_draw) := goodIn_app (goodIn_of _ (by decide +kernel)) ggX11_morningsNow_X11_draw
set_option maxRecDepth 20000 in
theorem ggX11_morningsNow_X11_boxBy : GoodIn wsX11_morningsNow wsX11_boxBy := goodIn_r _ [43, 2, 10, 11, 12, 8, 13, 14, 15, 3, 4, 16, 17, 18, 19, 20, 21, 22, 23, 24, 25, 26, 27, 28, 29, 30, 31, 44, 45, 46, 47, 48, 49, 50, 51, 52, 53, 54, 55, 56, 57, 58, 59, 60, 61, 62, 63, 64, 65, 66, 67, 68, 69, 70, 71, 72, 73, 74, 75] (by decide +kernel) (by decide +kernel)
set_option maxRecDepth 20000 in
theorem gX11_morningsNow_X11_boxBy : GoodIn wsX11_morningsNow (wsV RX11 225 RX11 yX11_boxBy wsX11_boxBy) := goodIn_app (goodIn_of _ (by decide +kernel)) ggX11_morningsNow_X11_boxBy
set_option maxRecDepth 20000 in
theorem ggX11_morningsNow_X11_has : GoodIn wsX11_morningsNow wsX11_has := goodIn_r _ [22] (by decide +kernel) (by decide +kernel)
set_option maxRecDepth 20000 in
theorem gX11_morningsNow_X11_has : GoodIn wsX11_morningsNow (va_wsS RX11 112 yX11_has wsX11_has) := goodIn_app (goodIn_of _ (by decide +kernel)) ggX11_morningsNow_X11_has
theorem dX11_morningsNow_0 : decode cX11_morningsNow 0 = .ok (.aload_n 0, 1) := by decide +kernel
theorem dX11_morningsNow_1 : decode cX11_morningsNow 1 = .ok (.iload_n 2, 1) := by decide +kernel
theorem dX11_morningsNow_2 : decode cX11_morningsNow 2 = .ok (.i2l, 1) := by decide +kernel
theorem dX11_morningsNow_3 : decode cX11_morningsNow 3 = .ok (.putfield 212, 3) := by decide +kernel
theorem dX11_morningsNow_6 : decode cX11_morningsNow 6 = .ok (.aload_n 0, 1) := by decide +kernel
theorem dX11_morningsNow_7 : decode cX11_morningsNow 7 = .ok (.iconst 0, 1) := by decide +kernel
theorem dX11_morningsNow_8 : decode cX11_morningsNow 8 = .ok (.invokevirtual 207, 3) := by decide +kernel
theorem dX11_morningsNow_11 : decode cX11_morningsNow 11 = .ok (.istore 4, 2) := by decide +kernel
theorem dX11_morningsNow_13 : decode cX11_morningsNow 13 = .ok (.iconst 0, 1) := by decide +kernel
theorem dX11_morningsNow_14 : decode cX11_morningsNow 14 = .ok (.istore 5, 2) := by decide +kernel
theorem dX11_morningsNow_16 : decode cX11_morningsNow 16 = .ok (.iconst 0, 1) := by decide +kernel
theorem dX11_morningsNow_17 : decode cX11_morningsNow 17 = .ok (.istore 6, 2) := by decide +kernel
theorem dX11_morningsNow_19 : decode cX11_morningsNow 19 = .ok (.iload 6, 2) := by decide +kernel
theorem dX11_morningsNow_21 : decode cX11_morningsNow 21 = .ok (.iload_n 1, 1) := by decide +kernel
theorem dX11_morningsNow_22 : decode cX11_morningsNow 22 = .ok (.if_icmp .ge 97, 3) := by decide +kernel
theorem dX11_morningsNow_25 : decode cX11_morningsNow 25 = .ok (.aload_n 0, 1) := by decide +kernel
theorem dX11_morningsNow_26 : decode cX11_morningsNow 26 = .ok (.aload_n 0, 1) := by decide +kernel
theorem dX11_morningsNow_27 : decode cX11_morningsNow 27 = .ok (.iload 4, 2) := by decide +kernel
theorem dX11_morningsNow_29 : decode cX11_morningsNow 29 = .ok (.invokevirtual 222, 3) := by decide +kernel
theorem dX11_morningsNow_32 : decode cX11_morningsNow 32 = .ok (.invokevirtual 225, 3) := by decide +kernel
theorem dX11_morningsNow_35 : decode cX11_morningsNow 35 = .ok (.istore 7, 2) := by decide +kernel
theorem dX11_morningsNow_37 : decode cX11_morningsNow 37 = .ok (.iconst 0, 1) := by decide +kernel
theorem dX11_morningsNow_38 : decode cX11_morningsNow 38 = .ok (.istore 8, 2) := by decide +kernel
theorem dX11_morningsNow_40 : decode cX11_morningsNow 40 = .ok (.iload 8, 2) := by decide +kernel
theorem dX11_morningsNow_42 : decode cX11_morningsNow 42 = .ok (.aload_n 0, 1) := by decide +kernel
theorem dX11_morningsNow_43 : decode cX11_morningsNow 43 = .ok (.getfield 71, 3) := by decide +kernel
theorem dX11_morningsNow_46 : decode cX11_morningsNow 46 = .ok (.if_icmp .ge 67, 3) := by decide +kernel
theorem dX11_morningsNow_49 : decode cX11_morningsNow 49 = .ok (.iload 7, 2) := by decide +kernel
theorem dX11_morningsNow_51 : decode cX11_morningsNow 51 = .ok (.iload 8, 2) := by decide +kernel
theorem dX11_morningsNow_53 : decode cX11_morningsNow 53 = .ok (.invokestatic 112, 3) := by decide +kernel
theorem dX11_morningsNow_56 : decode cX11_morningsNow 56 = .ok (.istore 9, 2) := by decide +kernel
theorem dX11_morningsNow_58 : decode cX11_morningsNow 58 = .ok (.aload_n 0, 1) := by decide +kernel
theorem dX11_morningsNow_59 : decode cX11_morningsNow 59 = .ok (.bipush 10, 2) := by decide +kernel
theorem dX11_morningsNow_61 : decode cX11_morningsNow 61 = .ok (.invokevirtual 222, 3) := by decide +kernel
theorem dX11_morningsNow_64 : decode cX11_morningsNow 64 = .ok (.iload 9, 2) := by decide +kernel
theorem dX11_morningsNow_66 : decode cX11_morningsNow 66 = .ok (.ifCond .eq 10, 3) := by decide +kernel
theorem dX11_morningsNow_69 : decode cX11_morningsNow 69 = .ok (.aload_n 0, 1) := by decide +kernel
theorem dX11_morningsNow_70 : decode cX11_morningsNow 70 = .ok (.getfield 77, 3) := by decide +kernel
theorem dX11_morningsNow_73 : decode cX11_morningsNow 73 = .ok (.goto 7, 3) := by decide +kernel
theorem dX11_morningsNow_76 : decode cX11_morningsNow 76 = .ok (.aload_n 0, 1) := by decide +kernel
theorem dX11_morningsNow_77 : decode cX11_morningsNow 77 = .ok (.getfield 80, 3) := by decide +kernel
theorem dX11_morningsNow_80 : decode cX11_morningsNow 80 = .ok (.if_icmp .ge 7, 3) := by decide +kernel
theorem dX11_morningsNow_83 : decode cX11_morningsNow 83 = .ok (.iconst 1, 1) := by decide +kernel
theorem dX11_morningsNow_84 : decode cX11_morningsNow 84 = .ok (.goto 4, 3) := by decide +kernel
theorem dX11_morningsNow_87 : decode cX11_morningsNow 87 = .ok (.iconst 0, 1) := by decide +kernel
theorem dX11_morningsNow_88 : decode cX11_morningsNow 88 = .ok (.istore 10, 2) := by decide +kernel
theorem dX11_morningsNow_90 : decode cX11_morningsNow 90 = .ok (.iload 5, 2) := by decide +kernel
theorem dX11_morningsNow_92 : decode cX11_morningsNow 92 = .ok (.iload 10, 2) := by decide +kernel
theorem dX11_morningsNow_94 : decode cX11_morningsNow 94 = .ok (.iload 9, 2) := by decide +kernel
theorem dX11_morningsNow_96 : decode cX11_morningsNow 96 = .ok (.if_icmp .ne 7, 3) := by decide +kernel
theorem dX11_morningsNow_99 : decode cX11_morningsNow 99 = .ok (.iconst 1, 1) := by decide +kernel
theorem dX11_morningsNow_100 : decode cX11_morningsNow 100 = .ok (.goto 4, 3) := by decide +kernel
theorem dX11_morningsNow_103 : decode cX11_morningsNow 103 = .ok (.iconst 0, 1) := by decide +kernel
theorem dX11_morningsNow_104 : decode cX11_morningsNow 104 = .ok (.iadd, 1) := by decide +kernel
theorem dX11_morningsNow_105 : decode cX11_morningsNow 105 = .ok (.istore 5, 2) := by decide +kernel
theorem dX11_morningsNow_107 : decode cX11_morningsNow 107 = .ok (.iinc 8 1, 3) := by decide +kernel
theorem dX11_morningsNow_110 : decode cX11_morningsNow 110 = .ok (.goto (-70), 3) := by decide +kernel
theorem dX11_morningsNow_113 : decode cX11_morningsNow 113 = .ok (.iinc 6 1, 3) := by decide +kernel
theorem dX11_morningsNow_116 : decode cX11_morningsNow 116 = .ok (.goto (-97), 3) := by decide +kernel
theorem dX11_morningsNow_119 : decode cX11_morningsNow 119 = .ok (.iload_n 3, 1) := by decide +kernel
theorem dX11_morningsNow_120 : decode cX11_morningsNow 120 = .ok (.ifCond .ne 8, 3) := by decide +kernel
theorem dX11_morningsNow_123 : decode cX11_morningsNow 123 = .ok (.iload 5, 2) := by decide +kernel
theorem dX11_morningsNow_125 : decode cX11_morningsNow 125 = .ok (.goto 8, 3) := by decide +kernel
theorem dX11_morningsNow_128 : decode cX11_morningsNow 128 = .ok (.aload_n 0, 1) := by decide +kernel
theorem dX11_morningsNow_129 : decode cX11_morningsNow 129 = .ok (.getfield 212, 3) := by decide +kernel
theorem dX11_morningsNow_132 : decode cX11_morningsNow 132 = .ok (.l2i, 1) := by decide +kernel
theorem dX11_morningsNow_133 : decode cX11_morningsNow 133 = .ok (.ireturn, 1) := by decide +kernel
set_option maxRecDepth 20000 in
theorem ggX11_mornings_X11_within : GoodIn wsX11_mornings wsX11_within := goodIn_r _ [5] (by decide +kernel) (by decide +kernel)
set_option maxRecDepth 20000 in
theorem gX11_mornings_X11_within : GoodIn wsX11_mornings (va_wsS RX11 51 yX11_within wsX11_within) := goodIn_app (goodIn_of _ (by decide +kernel)) ggX11_mornings_X11_within
set_option maxRecDepth 20000 in
theorem ggX11_mornings_X11_morningsNow : GoodIn wsX11_mornings wsX11_morningsNow := goodIn_r _ [9, 10, 1, 11, 12, 13, 14, 15, 4, 16, 17, 18, 19, 20, 21, 22, 23, 24, 25, 26, 27, 28, 29, 30, 31, 32, 33, 34, 35, 36, 37, 38, 39, 40, 41, 42, 43, 44, 45, 46, 47, 48, 49, 50, 51, 52, 53, 54, 55, 56, 57, 58, 59, 60, 61, 62, 63, 64, 65, 66, 67, 68, 69, 70, 71, 72, 73, 74, 75, 76, 77, 78, 79, 80, 81, 82] (by decide +kernel) (by decide +kernel)
set_option maxRecDepth 20000 in
theorem gX11_mornings_X11_morningsNow : GoodIn wsX11_mornings (wsV RX11 228 RX11 yX11_morningsNow wsX11_morningsNow) := goodIn_app (goodIn_of _ (by decide +kernel)) ggX11_mornings_X11_morningsNow
theorem dX11_mornings_0 : decode cX11_mornings 0 = .ok (.iload_n 1, 1) := by decide +kernel
theorem dX11_mornings_1 : decode cX11_mornings 1 = .ok (.iconst 1, 1) := by decide +kernel
theorem dX11_mornings_2 : decode cX11_mornings 2 = .ok (.bipush 40, 2) := by decide +kernel
theorem dX11_mornings_4 : decode cX11_mornings 4 = .ok (.invokestatic 51, 3) := by decide +kernel
theorem dX11_mornings_7 : decode cX11_mornings 7 = .ok (.ifCond .eq 16, 3) := by decide +kernel
theorem dX11_mornings_10 : decode cX11_mornings 10 = .ok (.iload_n 2, 1) := by decide +kernel
theorem dX11_mornings_11 : decode cX11_mornings 11 = .ok (.ifCond .lt 12, 3) := by decide +kernel
theorem dX11_mornings_14 : decode cX11_mornings 14 = .ok (.iload_n 3, 1) := by decide +kernel
theorem dX11_mornings_15 : decode cX11_mornings 15 = .ok (.iconst 0, 1) := by decide +kernel
theorem dX11_mornings_16 : decode cX11_mornings 16 = .ok (.iconst 1, 1) := by decide +kernel
theorem dX11_mornings_17 : decode cX11_mornings 17 = .ok (.invokestatic 51, 3) := by decide +kernel
theorem dX11_mornings_20 : decode cX11_mornings 20 = .ok (.ifCond .ne 6, 3) := by decide +kernel
theorem dX11_mornings_23 : decode cX11_mornings 23 = .ok (.bipush (-102), 2) := by decide +kernel
theorem dX11_mornings_25 : decode cX11_mornings 25 = .ok (.ireturn, 1) := by decide +kernel
theorem dX11_mornings_26 : decode cX11_mornings 26 = .ok (.aload_n 0, 1) := by decide +kernel
theorem dX11_mornings_27 : decode cX11_mornings 27 = .ok (.getfield 71, 3) := by decide +kernel
theorem dX11_mornings_30 : decode cX11_mornings 30 = .ok (.ifCond .ne 8, 3) := by decide +kernel
theorem dX11_mornings_33 : decode cX11_mornings 33 = .ok (.bipush (-103), 2) := by decide +kernel
theorem dX11_mornings_35 : decode cX11_mornings 35 = .ok (.goto 10, 3) := by decide +kernel
theorem dX11_mornings_38 : decode cX11_mornings 38 = .ok (.aload_n 0, 1) := by decide +kernel
theorem dX11_mornings_39 : decode cX11_mornings 39 = .ok (.iload_n 1, 1) := by decide +kernel
theorem dX11_mornings_40 : decode cX11_mornings 40 = .ok (.iload_n 2, 1) := by decide +kernel
theorem dX11_mornings_41 : decode cX11_mornings 41 = .ok (.iload_n 3, 1) := by decide +kernel
theorem dX11_mornings_42 : decode cX11_mornings 42 = .ok (.invokevirtual 228, 3) := by decide +kernel
theorem dX11_mornings_45 : decode cX11_mornings 45 = .ok (.ireturn, 1) := by decide +kernel
set_option maxRecDepth 20000 in
theorem ggX11_image_X11_size : GoodIn wsX11_image wsX11_size := goodIn_r _ [20] (by decide +kernel) (by decide +kernel)
set_option maxRecDepth 20000 in
theorem gX11_image_X11_size : GoodIn wsX11_image (va_wsS RX11 109 yX11_size wsX11_size) := goodIn_app (goodIn_of _ (by decide +kernel)) ggX11_image_X11_size
theorem dX11_image_0 : decode cX11_image 0 = .ok (.aload_n 0, 1) := by decide +kernel
theorem dX11_image_1 : decode cX11_image 1 = .ok (.getfield 71, 3) := by decide +kernel
theorem dX11_image_4 : decode cX11_image 4 = .ok (.ifCond .ne 6, 3) := by decide +kernel
theorem dX11_image_7 : decode cX11_image 7 = .ok (.bipush (-103), 2) := by decide +kernel
theorem dX11_image_9 : decode cX11_image 9 = .ok (.ireturn, 1) := by decide +kernel
theorem dX11_image_10 : decode cX11_image 10 = .ok (.aload_n 0, 1) := by decide +kernel
theorem dX11_image_11 : decode cX11_image 11 = .ok (.iconst 1, 1) := by decide +kernel
theorem dX11_image_12 : decode cX11_image 12 = .ok (.putfield 232, 3) := by decide +kernel
theorem dX11_image_15 : decode cX11_image 15 = .ok (.aload_n 0, 1) := by decide +kernel
theorem dX11_image_16 : decode cX11_image 16 = .ok (.aload_n 0, 1) := by decide +kernel
theorem dX11_image_17 : decode cX11_image 17 = .ok (.getfield 95, 3) := by decide +kernel
theorem dX11_image_20 : decode cX11_image 20 = .ok (.putfield 236, 3) := by decide +kernel
theorem dX11_image_23 : decode cX11_image 23 = .ok (.aload_n 0, 1) := by decide +kernel
theorem dX11_image_24 : decode cX11_image 24 = .ok (.aload_n 0, 1) := by decide +kernel
theorem dX11_image_25 : decode cX11_image 25 = .ok (.getfield 86, 3) := by decide +kernel
theorem dX11_image_28 : decode cX11_image 28 = .ok (.putfield 239, 3) := by decide +kernel
theorem dX11_image_31 : decode cX11_image 31 = .ok (.aload_n 0, 1) := by decide +kernel
theorem dX11_image_32 : decode cX11_image 32 = .ok (.aload_n 0, 1) := by decide +kernel
theorem dX11_image_33 : decode cX11_image 33 = .ok (.getfield 89, 3) := by decide +kernel
theorem dX11_image_36 : decode cX11_image 36 = .ok (.putfield 242, 3) := by decide +kernel
theorem dX11_image_39 : decode cX11_image 39 = .ok (.aload_n 0, 1) := by decide +kernel
theorem dX11_image_40 : decode cX11_image 40 = .ok (.aload_n 0, 1) := by decide +kernel
theorem dX11_image_41 : decode cX11_image 41 = .ok (.getfield 92, 3) := by decide +kernel
theorem dX11_image_44 : decode cX11_image 44 = .ok (.putfield 245, 3) := by decide +kernel
theorem dX11_image_47 : decode cX11_image 47 = .ok (.iconst 0, 1) := by decide +kernel
theorem dX11_image_48 : decode cX11_image 48 = .ok (.istore_n 1, 1) := by decide +kernel
theorem dX11_image_49 : decode cX11_image 49 = .ok (.iload_n 1, 1) := by decide +kernel
theorem dX11_image_50 : decode cX11_image 50 = .ok (.bipush 6, 2) := by decide +kernel
theorem dX11_image_52 : decode cX11_image 52 = .ok (.if_icmp .ge 45, 3) := by decide +kernel
theorem dX11_image_55 : decode cX11_image 55 = .ok (.aload_n 0, 1) := by decide +kernel
theorem dX11_image_56 : decode cX11_image 56 = .ok (.getfield 42, 3) := by decide +kernel
theorem dX11_image_59 : decode cX11_image 59 = .ok (.iload_n 1, 1) := by decide +kernel
theorem dX11_image_60 : decode cX11_image 60 = .ok (.aload_n 0, 1) := by decide +kernel
theorem dX11_image_61 : decode cX11_image 61 = .ok (.getfield 13, 3) := by decide +kernel
theorem dX11_image_64 : decode cX11_image 64 = .ok (.iload_n 1, 1) := by decide +kernel
theorem dX11_image_65 : decode cX11_image 65 = .ok (.iaload, 1) := by decide +kernel
theorem dX11_image_66 : decode cX11_image 66 = .ok (.iastore, 1) := by decide +kernel
theorem dX11_image_67 : decode cX11_image 67 = .ok (.aload_n 0, 1) := by decide +kernel
theorem dX11_image_68 : decode cX11_image 68 = .ok (.getfield 45, 3) := by decide +kernel
theorem dX11_image_71 : decode cX11_image 71 = .ok (.iload_n 1, 1) := by decide +kernel
theorem dX11_image_72 : decode cX11_image 72 = .ok (.aload_n 0, 1) := by decide +kernel
theorem dX11_image_73 : decode cX11_image 73 = .ok (.getfield 16, 3) := by decide +kernel
theorem dX11_image_76 : decode cX11_image 76 = .ok (.iload_n 1, 1) := by decide +kernel
theorem dX11_image_77 : decode cX11_image 77 = .ok (.iaload, 1) := by decide +kernel
theorem dX11_image_78 : decode cX11_image 78 = .ok (.iastore, 1) := by decide +kernel
theorem dX11_image_79 : decode cX11_image 79 = .ok (.aload_n 0, 1) := by decide +kernel
theorem dX11_image_80 : decode cX11_image 80 = .ok (.getfield 48, 3) := by decide +kernel
theorem dX11_image_83 : decode cX11_image 83 = .ok (.iload_n 1, 1) := by decide +kernel
theorem dX11_image_84 : decode cX11_image 84 = .ok (.aload_n 0, 1) := by decide +kernel
theorem dX11_image_85 : decode cX11_image 85 = .ok (.getfield 19, 3) := by decide +kernel
theorem dX11_image_88 : decode cX11_image 88 = .ok (.iload_n 1, 1) := by decide +kernel
theorem dX11_image_89 : decode cX11_image 89 = .ok (.iaload, 1) := by decide +kernel
theorem dX11_image_90 : decode cX11_image 90 = .ok (.iastore, 1) := by decide +kernel
theorem dX11_image_91 : decode cX11_image 91 = .ok (.iinc 1 1, 3) := by decide +kernel
theorem dX11_image_94 : decode cX11_image 94 = .ok (.goto (-45), 3) := by decide +kernel
theorem dX11_image_97 : decode cX11_image 97 = .ok (.aload_n 0, 1) := by decide +kernel
theorem dX11_image_98 : decode cX11_image 98 = .ok (.getfield 86, 3) := by decide +kernel
theorem dX11_image_101 : decode cX11_image 101 = .ok (.invokestatic 109, 3) := by decide +kernel
theorem dX11_image_104 : decode cX11_image 104 = .ok (.ireturn, 1) := by decide +kernel
set_option maxRecDepth 20000 in
theorem ggX11_restore_X11_size : GoodIn wsX11_restore wsX11_size := goodIn_r _ [19] (by decide +kernel) (by decide +kernel)
set_option maxRecDepth 20000 in
theorem gX11_restore_X11_size : GoodIn wsX11_restore (va_wsS RX11 109 yX11_size wsX11_size) := goodIn_app (goodIn_of _ (by decide +kernel)) ggX11_restore_X11_size
theorem dX11_restore_0 : decode cX11_restore 0 = .ok (.aload_n 0, 1) := by decide +kernel
theorem dX11_restore_1 : decode cX11_restore 1 = .ok (.getfield 232, 3) := by decide +kernel
theorem dX11_restore_4 : decode cX11_restore 4 = .ok (.ifCond .eq 14, 3) := by decide +kernel
theorem dX11_restore_7 : decode cX11_restore 7 = .ok (.aload_n 0, 1) := by decide +kernel
theorem dX11_restore_8 : decode cX11_restore 8 = .ok (.getfield 236, 3) := by decide +kernel
theorem dX11_restore_11 : decode cX11_restore 11 = .ok (.aload_n 0, 1) := by decide +kernel
theorem dX11_restore_12 : decode cX11_restore 12 = .ok (.getfield 95, 3) := by decide +kernel
theorem dX11_restore_15 : decode cX11_restore 15 = .ok (.if_icmp .eq 6, 3) := by decide +kernel
theorem dX11_restore_18 : decode cX11_restore 18 = .ok (.bipush (-103), 2) := by decide +kernel
theorem dX11_restore_20 : decode cX11_restore 20 = .ok (.ireturn, 1) := by decide +kernel
theorem dX11_restore_21 : decode cX11_restore 21 = .ok (.aload_n 0, 1) := by decide +kernel
theorem dX11_restore_22 : decode cX11_restore 22 = .ok (.aload_n 0, 1) := by decide +kernel
theorem dX11_restore_23 : decode cX11_restore 23 = .ok (.getfield 239, 3) := by decide +kernel
theorem dX11_restore_26 : decode cX11_restore 26 = .ok (.putfield 86, 3) := by decide +kernel
theorem dX11_restore_29 : decode cX11_restore 29 = .ok (.aload_n 0, 1) := by decide +kernel
theorem dX11_restore_30 : decode cX11_restore 30 = .ok (.aload_n 0, 1) := by decide +kernel
theorem dX11_restore_31 : decode cX11_restore 31 = .ok (.getfield 242, 3) := by decide +kernel
theorem dX11_restore_34 : decode cX11_restore 34 = .ok (.putfield 89, 3) := by decide +kernel
theorem dX11_restore_37 : decode cX11_restore 37 = .ok (.aload_n 0, 1) := by decide +kernel
theorem dX11_restore_38 : decode cX11_restore 38 = .ok (.aload_n 0, 1) := by decide +kernel
theorem dX11_restore_39 : decode cX11_restore 39 = .ok (.getfield 245, 3) := by decide +kernel
theorem dX11_restore_42 : decode cX11_restore 42 = .ok (.putfield 92, 3) := by decide +kernel
theorem dX11_restore_45 : decode cX11_restore 45 = .ok (.iconst 0, 1) := by decide +kernel
theorem dX11_restore_46 : decode cX11_restore 46 = .ok (.istore_n 1, 1) := by decide +kernel
theorem dX11_restore_47 : decode cX11_restore 47 = .ok (.iload_n 1, 1) := by decide +kernel
theorem dX11_restore_48 : decode cX11_restore 48 = .ok (.bipush 6, 2) := by decide +kernel
theorem dX11_restore_50 : decode cX11_restore 50 = .ok (.if_icmp .ge 45, 3) := by decide +kernel
theorem dX11_restore_53 : decode cX11_restore 53 = .ok (.aload_n 0, 1) := by decide +kernel
theorem dX11_restore_54 : decode cX11_restore 54 = .ok (.getfield 13, 3) := by decide +kernel
theorem dX11_restore_57 : decode cX11_restore 57 = .ok (.iload_n 1, 1) := by decide +kernel
theorem dX11_restore_58 : decode cX11_restore 58 = .ok (.aload_n 0, 1) := by decide +kernel
theorem dX11_restore_59 : decode cX11_restore 59 = .ok (.getfield 42, 3) := by decide +kernel
theorem dX11_restore_62 : decode cX11_restore 62 = .ok (.iload_n 1, 1) := by decide +kernel
theorem dX11_restore_63 : decode cX11_restore 63 = .ok (.iaload, 1) := by decide +kernel
theorem dX11_restore_64 : decode cX11_restore 64 = .ok (.iastore, 1) := by decide +kernel
theorem dX11_restore_65 : decode cX11_restore 65 = .ok (.aload_n 0, 1) := by decide +kernel
theorem dX11_restore_66 : decode cX11_restore 66 = .ok (.getfield 16, 3) := by decide +kernel
theorem dX11_restore_69 : decode cX11_restore 69 = .ok (.iload_n 1, 1) := by decide +kernel
theorem dX11_restore_70 : decode cX11_restore 70 = .ok (.aload_n 0, 1) := by decide +kernel
theorem dX11_restore_71 : decode cX11_restore 71 = .ok (.getfield 45, 3) := by decide +kernel
theorem dX11_restore_74 : decode cX11_restore 74 = .ok (.iload_n 1, 1) := by decide +kernel
theorem dX11_restore_75 : decode cX11_restore 75 = .ok (.iaload, 1) := by decide +kernel
theorem dX11_restore_76 : decode cX11_restore 76 = .ok (.iastore, 1) := by decide +kernel
theorem dX11_restore_77 : decode cX11_restore 77 = .ok (.aload_n 0, 1) := by decide +kernel
theorem dX11_restore_78 : decode cX11_restore 78 = .ok (.getfield 19, 3) := by decide +kernel
theorem dX11_restore_81 : decode cX11_restore 81 = .ok (.iload_n 1, 1) := by decide +kernel
theorem dX11_restore_82 : decode cX11_restore 82 = .ok (.aload_n 0, 1) := by decide +kernel
theorem dX11_restore_83 : decode cX11_restore 83 = .ok (.getfield 48, 3) := by decide +kernel
theorem dX11_restore_86 : decode cX11_restore 86 = .ok (.iload_n 1, 1) := by decide +kernel
theorem dX11_restore_87 : decode cX11_restore 87 = .ok (.iaload, 1) := by decide +kernel
theorem dX11_restore_88 : decode cX11_restore 88 = .ok (.iastore, 1) := by decide +kernel
theorem dX11_restore_89 : decode cX11_restore 89 = .ok (.iinc 1 1, 3) := by decide +kernel
theorem dX11_restore_92 : decode cX11_restore 92 = .ok (.goto (-45), 3) := by decide +kernel
theorem dX11_restore_95 : decode cX11_restore 95 = .ok (.aload_n 0, 1) := by decide +kernel
theorem dX11_restore_96 : decode cX11_restore 96 = .ok (.getfield 86, 3) := by decide +kernel
theorem dX11_restore_99 : decode cX11_restore 99 = .ok (.invokestatic 109, 3) := by decide +kernel
theorem dX11_restore_102 : decode cX11_restore 102 = .ok (.ireturn, 1) := by decide +kernel
set_option maxRecDepth 20000 in
theorem ggX11_howMany_X11_size : GoodIn wsX11_howMany wsX11_size := goodIn_r _ [15] (by decide +kernel) (by decide +kernel)
set_option maxRecDepth 20000 in
theorem gX11_howMany_X11_size : GoodIn wsX11_howMany (va_wsS RX11 109 yX11_size wsX11_size) := goodIn_app (goodIn_of _ (by decide +kernel)) ggX11_howMany_X11_size
theorem dX11_howMany_0 : decode cX11_howMany 0 = .ok (.iload_n 1, 1) := by decide +kernel
theorem dX11_howMany_1 : decode cX11_howMany 1 = .ok (.tableswitch 117 0 10 #[59, 64, 69, 74, 79, 84, 92, 97, 102, 107, 112], 59) := by decide +kernel
theorem dX11_howMany_60 : decode cX11_howMany 60 = .ok (.aload_n 0, 1) := by decide +kernel
theorem dX11_howMany_61 : decode cX11_howMany 61 = .ok (.getfield 71, 3) := by decide +kernel
theorem dX11_howMany_64 : decode cX11_howMany 64 = .ok (.ireturn, 1) := by decide +kernel
theorem dX11_howMany_65 : decode cX11_howMany 65 = .ok (.aload_n 0, 1) := by decide +kernel
theorem dX11_howMany_66 : decode cX11_howMany 66 = .ok (.getfield 74, 3) := by decide +kernel
theorem dX11_howMany_69 : decode cX11_howMany 69 = .ok (.ireturn, 1) := by decide +kernel
theorem dX11_howMany_70 : decode cX11_howMany 70 = .ok (.aload_n 0, 1) := by decide +kernel
theorem dX11_howMany_71 : decode cX11_howMany 71 = .ok (.getfield 77, 3) := by decide +kernel
theorem dX11_howMany_74 : decode cX11_howMany 74 = .ok (.ireturn, 1) := by decide +kernel
theorem dX11_howMany_75 : decode cX11_howMany 75 = .ok (.aload_n 0, 1) := by decide +kernel
theorem dX11_howMany_76 : decode cX11_howMany 76 = .ok (.getfield 80, 3) := by decide +kernel
theorem dX11_howMany_79 : decode cX11_howMany 79 = .ok (.ireturn, 1) := by decide +kernel
theorem dX11_howMany_80 : decode cX11_howMany 80 = .ok (.aload_n 0, 1) := by decide +kernel
theorem dX11_howMany_81 : decode cX11_howMany 81 = .ok (.getfield 83, 3) := by decide +kernel
theorem dX11_howMany_84 : decode cX11_howMany 84 = .ok (.ireturn, 1) := by decide +kernel
theorem dX11_howMany_85 : decode cX11_howMany 85 = .ok (.aload_n 0, 1) := by decide +kernel
theorem dX11_howMany_86 : decode cX11_howMany 86 = .ok (.getfield 86, 3) := by decide +kernel
theorem dX11_howMany_89 : decode cX11_howMany 89 = .ok (.invokestatic 109, 3) := by decide +kernel
theorem dX11_howMany_92 : decode cX11_howMany 92 = .ok (.ireturn, 1) := by decide +kernel
theorem dX11_howMany_93 : decode cX11_howMany 93 = .ok (.aload_n 0, 1) := by decide +kernel
theorem dX11_howMany_94 : decode cX11_howMany 94 = .ok (.getfield 89, 3) := by decide +kernel
theorem dX11_howMany_97 : decode cX11_howMany 97 = .ok (.ireturn, 1) := by decide +kernel
theorem dX11_howMany_98 : decode cX11_howMany 98 = .ok (.aload_n 0, 1) := by decide +kernel
theorem dX11_howMany_99 : decode cX11_howMany 99 = .ok (.getfield 92, 3) := by decide +kernel
theorem dX11_howMany_102 : decode cX11_howMany 102 = .ok (.ireturn, 1) := by decide +kernel
theorem dX11_howMany_103 : decode cX11_howMany 103 = .ok (.aload_n 0, 1) := by decide +kernel
theorem dX11_howMany_104 : decode cX11_howMany 104 = .ok (.getfield 55, 3) := by decide +kernel
theorem dX11_howMany_107 : decode cX11_howMany 107 = .ok (.ireturn, 1) := by decide +kernel
theorem dX11_howMany_108 : decode cX11_howMany 108 = .ok (.aload_n 0, 1) := by decide +kernel
theorem dX11_howMany_109 : decode cX11_howMany 109 = .ok (.getfield 95, 3) := by decide +kernel
theorem dX11_howMany_112 : decode cX11_howMany 112 = .ok (.ireturn, 1) := by decide +kernel
theorem dX11_howMany_113 : decode cX11_howMany 113 = .ok (.aload_n 0, 1) := by decide +kernel
theorem dX11_howMany_114 : decode cX11_howMany 114 = .ok (.getfield 178, 3) := by decide +kernel
theorem dX11_howMany_117 : decode cX11_howMany 117 = .ok (.ireturn, 1) := by decide +kernel
theorem dX11_howMany_118 : decode cX11_howMany 118 = .ok (.bipush (-102), 2) := by decide +kernel
theorem dX11_howMany_120 : decode cX11_howMany 120 = .ok (.ireturn, 1) := by decide +kernel
set_option maxRecDepth 20000 in
theorem ggX11_count_X11_howMany : GoodIn wsX11_count wsX11_howMany := goodIn_r _ [5, 6, 7, 8, 9, 10, 11, 12, 13, 14, 15, 16, 17, 18, 4, 19, 20, 21, 22, 23, 24, 25, 26, 27, 28, 29, 30, 31, 32, 33, 34, 35, 36, 37, 38, 39, 40, 41, 42, 43, 44, 45, 46, 47, 48, 49, 50, 51] (by decide +kernel) (by decide +kernel)
set_option maxRecDepth 20000 in
theorem gX11_count_X11_howMany : GoodIn wsX11_count (wsV RX11 248 RX11 yX11_howMany wsX11_howMany) := goodIn_app (goodIn_of _ (by decide +kernel)) ggX11_count_X11_howMany
theorem dX11_count_0 : decode cX11_count 0 = .ok (.aload_n 0, 1) := by decide +kernel
theorem dX11_count_1 : decode cX11_count 1 = .ok (.iload_n 1, 1) := by decide +kernel
theorem dX11_count_2 : decode cX11_count 2 = .ok (.invokevirtual 248, 3) := by decide +kernel
theorem dX11_count_5 : decode cX11_count 5 = .ok (.ireturn, 1) := by decide +kernel
theorem dX11_mix_0 : decode cX11_mix 0 = .ok (.aload_n 0, 1) := by decide +kernel
theorem dX11_mix_1 : decode cX11_mix 1 = .ok (.ldc2_w 251, 3) := by decide +kernel
theorem dX11_mix_4 : decode cX11_mix 4 = .ok (.aload_n 0, 1) := by decide +kernel
theorem dX11_mix_5 : decode cX11_mix 5 = .ok (.getfield 253, 3) := by decide +kernel
theorem dX11_mix_8 : decode cX11_mix 8 = .ok (.lmul, 1) := by decide +kernel
theorem dX11_mix_9 : decode cX11_mix 9 = .ok (.lload_n 1, 1) := by decide +kernel
theorem dX11_mix_10 : decode cX11_mix 10 = .ok (.ladd, 1) := by decide +kernel
theorem dX11_mix_11 : decode cX11_mix 11 = .ok (.putfield 253, 3) := by decide +kernel
theorem dX11_mix_14 : decode cX11_mix 14 = .ok (.return_, 1) := by decide +kernel
set_option maxRecDepth 20000 in
theorem ggX11_digest_X11_eggNow : GoodIn wsX11_digest wsX11_eggNow := goodIn_r _ [11, 12, 13, 14, 15, 16, 91, 92, 93, 94, 95, 96, 97, 98, 99, 100, 101, 102, 103, 104, 105, 106, 107, 108, 109, 110, 111, 112, 113, 114, 115, 116, 117, 118, 119, 120, 121, 122] (by decide +kernel) (by decide +kernel)
set_option maxRecDepth 20000 in
theorem gX11_digest_X11_eggNow : GoodIn wsX11_digest (wsV RX11 101 RX11 yX11_eggNow wsX11_eggNow) := goodIn_app (goodIn_of _ (by decide +kernel)) ggX11_digest_X11_eggNow
set_option maxRecDepth 20000 in
theorem ggX11_digest_X11_mix : GoodIn wsX11_digest wsX11_mix := goodIn_r _ [20, 21, 2, 91, 92, 93, 94, 95, 96, 97, 98, 99, 100, 101, 102, 103, 104, 105, 106, 107, 108, 109, 110, 111, 112, 113, 114, 115, 116, 117, 118, 119, 120, 121, 122] (by decide +kernel) (by decide +kernel)
set_option maxRecDepth 20000 in
theorem gX11_digest_X11_mix : GoodIn wsX11_digest (wsV RX11 258 RX11 yX11_mix wsX11_mix) := goodIn_app (goodIn_of _ (by decide +kernel)) ggX11_digest_X11_mix
set_option maxRecDepth 20000 in
theorem ggX11_digest_X11_likelyNow : GoodIn wsX11_digest wsX11_likelyNow := goodIn_r _ [25, 26, 27, 28, 10, 29, 3, 30, 31, 32, 33, 34, 35, 36, 37, 16, 38, 39, 12, 40, 41, 42, 43, 44, 45, 46, 15, 14, 47, 48, 49, 50, 51, 52, 53, 54, 55, 56, 91, 92, 93, 94, 95, 96, 97, 98, 99, 100, 101, 102, 103, 104, 105, 106, 107, 108, 109, 110, 111, 112, 113, 114, 115, 116, 117, 118, 119, 120, 121, 122] (by decide +kernel) (by decide +kernel)
set_option maxRecDepth 20000 in
theorem gX11_digest_X11_likelyNow : GoodIn wsX11_digest (wsV RX11 141 RX11 yX11_likelyNow wsX11_likelyNow) := goodIn_app (goodIn_of _ (by decide +kernel)) ggX11_digest_X11_likelyNow
set_option maxRecDepth 20000 in
theorem ggX11_digest_X11_trierNow : GoodIn wsX11_digest wsX11_trierNow := goodIn_r _ [60, 61, 62, 63, 64, 10, 65, 3, 66, 67, 68, 69, 13, 30, 31, 32, 70, 71, 72, 73, 74, 50, 51, 52, 53, 33, 34, 35, 36, 37, 16, 38, 39, 12, 40, 41, 42, 43, 44, 45, 46, 15, 14, 47, 48, 49, 26, 27, 28, 29, 91, 92, 93, 94, 95, 96, 97, 98, 99, 100, 101, 102, 103, 104, 105, 106, 107, 108, 109, 110, 111, 112, 113, 114, 115, 116, 117, 118, 119, 120, 121, 122] (by decide +kernel) (by decide +kernel)
set_option maxRecDepth 20000 in
theorem gX11_digest_X11_trierNow : GoodIn wsX11_digest (wsV RX11 204 RX11 yX11_trierNow wsX11_trierNow) := goodIn_app (goodIn_of _ (by decide +kernel)) ggX11_digest_X11_trierNow
set_option maxRecDepth 20000 in
theorem ggX11_digest_X11_likeliestNow : GoodIn wsX11_digest wsX11_likeliestNow := goodIn_r _ [78, 3, 33, 34, 35, 10, 36, 37, 16, 38, 39, 12, 40, 41, 42, 30, 31, 32, 43, 44, 45, 46, 15, 14, 47, 48, 49, 91, 92, 93, 94, 95, 96, 97, 98, 99, 100, 101, 102, 103, 104, 105, 106, 107, 108, 109, 110, 111, 112, 113, 114, 115, 116, 117, 118, 119, 120, 121, 122] (by decide +kernel) (by decide +kernel)
set_option maxRecDepth 20000 in
theorem gX11_digest_X11_likeliestNow : GoodIn wsX11_digest (wsV RX11 146 RX11 yX11_likeliestNow wsX11_likeliestNow) := goodIn_app (goodIn_of _ (by decide +kernel)) ggX11_digest_X11_likeliestNow
set_option maxRecDepth 20000 in
theorem ggX11_digest_X11_fitsNow : GoodIn wsX11_digest wsX11_fitsNow := goodIn_r _ [82, 3, 33, 34, 35, 10, 36, 37, 16, 38, 39, 12, 40, 41, 42, 30, 31, 32, 43, 44, 45, 46, 15, 14, 47, 48, 49, 91, 92, 93, 94, 95, 96, 97, 98, 99, 100, 101, 102, 103, 104, 105, 106, 107, 108, 109, 110, 111, 112, 113, 114, 115, 116, 117, 118, 119, 120, 121, 122] (by decide +kernel) (by decide +kernel)
set_option maxRecDepth 20000 in
theorem gX11_digest_X11_fitsNow : GoodIn wsX11_digest (wsV RX11 207 RX11 yX11_fitsNow wsX11_fitsNow) := goodIn_app (goodIn_of _ (by decide +kernel)) ggX11_digest_X11_fitsNow
set_option maxRecDepth 20000 in
theorem ggX11_digest_X11_howMany : GoodIn wsX11_digest wsX11_howMany := goodIn_r _ [86, 3, 37, 38, 39, 87, 13, 88, 4, 5, 89, 90, 40, 41, 10, 42, 91, 92, 93, 94, 95, 96, 97, 98, 99, 100, 101, 102, 103, 104, 105, 106, 107, 108, 109, 110, 111, 112, 113, 114, 115, 116, 117, 118, 119, 120, 121, 122] (by decide +kernel) (by decide +kernel)
set_option maxRecDepth 20000 in
theorem gX11_digest_X11_howMany : GoodIn wsX11_digest (wsV RX11 248 RX11 yX11_howMany wsX11_howMany) := goodIn_app (goodIn_of _ (by decide +kernel)) ggX11_digest_X11_howMany
theorem dX11_digest_0 : decode cX11_digest 0 = .ok (.aload_n 0, 1) := by decide +kernel
theorem dX11_digest_1 : decode cX11_digest 1 = .ok (.ldc2_w 256, 3) := by decide +kernel
theorem dX11_digest_4 : decode cX11_digest 4 = .ok (.putfield 253, 3) := by decide +kernel
theorem dX11_digest_7 : decode cX11_digest 7 = .ok (.iconst 0, 1) := by decide +kernel
theorem dX11_digest_8 : decode cX11_digest 8 = .ok (.istore_n 1, 1) := by decide +kernel
theorem dX11_digest_9 : decode cX11_digest 9 = .ok (.iload_n 1, 1) := by decide +kernel
theorem dX11_digest_10 : decode cX11_digest 10 = .ok (.aload_n 0, 1) := by decide +kernel
theorem dX11_digest_11 : decode cX11_digest 11 = .ok (.getfield 71, 3) := by decide +kernel
theorem dX11_digest_14 : decode cX11_digest 14 = .ok (.if_icmp .ge 53, 3) := by decide +kernel
theorem dX11_digest_17 : decode cX11_digest 17 = .ok (.iconst 0, 1) := by decide +kernel
theorem dX11_digest_18 : decode cX11_digest 18 = .ok (.istore_n 2, 1) := by decide +kernel
theorem dX11_digest_19 : decode cX11_digest 19 = .ok (.iload_n 2, 1) := by decide +kernel
theorem dX11_digest_20 : decode cX11_digest 20 = .ok (.iconst 5, 1) := by decide +kernel
theorem dX11_digest_21 : decode cX11_digest 21 = .ok (.if_icmp .ge 20, 3) := by decide +kernel
theorem dX11_digest_24 : decode cX11_digest 24 = .ok (.aload_n 0, 1) := by decide +kernel
theorem dX11_digest_25 : decode cX11_digest 25 = .ok (.aload_n 0, 1) := by decide +kernel
theorem dX11_digest_26 : decode cX11_digest 26 = .ok (.iload_n 1, 1) := by decide +kernel
theorem dX11_digest_27 : decode cX11_digest 27 = .ok (.iload_n 2, 1) := by decide +kernel
theorem dX11_digest_28 : decode cX11_digest 28 = .ok (.invokevirtual 101, 3) := by decide +kernel
theorem dX11_digest_31 : decode cX11_digest 31 = .ok (.i2l, 1) := by decide +kernel
theorem dX11_digest_32 : decode cX11_digest 32 = .ok (.invokevirtual 258, 3) := by decide +kernel
theorem dX11_digest_35 : decode cX11_digest 35 = .ok (.iinc 2 1, 3) := by decide +kernel
theorem dX11_digest_38 : decode cX11_digest 38 = .ok (.goto (-19), 3) := by decide +kernel
theorem dX11_digest_41 : decode cX11_digest 41 = .ok (.aload_n 0, 1) := by decide +kernel
theorem dX11_digest_42 : decode cX11_digest 42 = .ok (.aload_n 0, 1) := by decide +kernel
theorem dX11_digest_43 : decode cX11_digest 43 = .ok (.iload_n 1, 1) := by decide +kernel
theorem dX11_digest_44 : decode cX11_digest 44 = .ok (.iconst 0, 1) := by decide +kernel
theorem dX11_digest_45 : decode cX11_digest 45 = .ok (.invokevirtual 141, 3) := by decide +kernel
theorem dX11_digest_48 : decode cX11_digest 48 = .ok (.invokevirtual 258, 3) := by decide +kernel
theorem dX11_digest_51 : decode cX11_digest 51 = .ok (.aload_n 0, 1) := by decide +kernel
theorem dX11_digest_52 : decode cX11_digest 52 = .ok (.aload_n 0, 1) := by decide +kernel
theorem dX11_digest_53 : decode cX11_digest 53 = .ok (.iload_n 1, 1) := by decide +kernel
theorem dX11_digest_54 : decode cX11_digest 54 = .ok (.iconst 1, 1) := by decide +kernel
theorem dX11_digest_55 : decode cX11_digest 55 = .ok (.invokevirtual 141, 3) := by decide +kernel
theorem dX11_digest_58 : decode cX11_digest 58 = .ok (.invokevirtual 258, 3) := by decide +kernel
theorem dX11_digest_61 : decode cX11_digest 61 = .ok (.iinc 1 1, 3) := by decide +kernel
theorem dX11_digest_64 : decode cX11_digest 64 = .ok (.goto (-55), 3) := by decide +kernel
theorem dX11_digest_67 : decode cX11_digest 67 = .ok (.iconst 0, 1) := by decide +kernel
theorem dX11_digest_68 : decode cX11_digest 68 = .ok (.istore_n 1, 1) := by decide +kernel
theorem dX11_digest_69 : decode cX11_digest 69 = .ok (.iload_n 1, 1) := by decide +kernel
theorem dX11_digest_70 : decode cX11_digest 70 = .ok (.aload_n 0, 1) := by decide +kernel
theorem dX11_digest_71 : decode cX11_digest 71 = .ok (.getfield 92, 3) := by decide +kernel
theorem dX11_digest_74 : decode cX11_digest 74 = .ok (.if_icmp .ge 31, 3) := by decide +kernel
theorem dX11_digest_77 : decode cX11_digest 77 = .ok (.aload_n 0, 1) := by decide +kernel
theorem dX11_digest_78 : decode cX11_digest 78 = .ok (.aload_n 0, 1) := by decide +kernel
theorem dX11_digest_79 : decode cX11_digest 79 = .ok (.iload_n 1, 1) := by decide +kernel
theorem dX11_digest_80 : decode cX11_digest 80 = .ok (.iconst 0, 1) := by decide +kernel
theorem dX11_digest_81 : decode cX11_digest 81 = .ok (.invokevirtual 204, 3) := by decide +kernel
theorem dX11_digest_84 : decode cX11_digest 84 = .ok (.i2l, 1) := by decide +kernel
theorem dX11_digest_85 : decode cX11_digest 85 = .ok (.invokevirtual 258, 3) := by decide +kernel
theorem dX11_digest_88 : decode cX11_digest 88 = .ok (.aload_n 0, 1) := by decide +kernel
theorem dX11_digest_89 : decode cX11_digest 89 = .ok (.aload_n 0, 1) := by decide +kernel
theorem dX11_digest_90 : decode cX11_digest 90 = .ok (.iload_n 1, 1) := by decide +kernel
theorem dX11_digest_91 : decode cX11_digest 91 = .ok (.iconst 1, 1) := by decide +kernel
theorem dX11_digest_92 : decode cX11_digest 92 = .ok (.invokevirtual 204, 3) := by decide +kernel
theorem dX11_digest_95 : decode cX11_digest 95 = .ok (.i2l, 1) := by decide +kernel
theorem dX11_digest_96 : decode cX11_digest 96 = .ok (.invokevirtual 258, 3) := by decide +kernel
theorem dX11_digest_99 : decode cX11_digest 99 = .ok (.iinc 1 1, 3) := by decide +kernel
theorem dX11_digest_102 : decode cX11_digest 102 = .ok (.goto (-33), 3) := by decide +kernel
theorem dX11_digest_105 : decode cX11_digest 105 = .ok (.aload_n 0, 1) := by decide +kernel
theorem dX11_digest_106 : decode cX11_digest 106 = .ok (.getfield 71, 3) := by decide +kernel
theorem dX11_digest_109 : decode cX11_digest 109 = .ok (.ifCond .le 42, 3) := by decide +kernel
theorem dX11_digest_112 : decode cX11_digest 112 = .ok (.aload_n 0, 1) := by decide +kernel
theorem dX11_digest_113 : decode cX11_digest 113 = .ok (.aload_n 0, 1) := by decide +kernel
theorem dX11_digest_114 : decode cX11_digest 114 = .ok (.invokevirtual 146, 3) := by decide +kernel
theorem dX11_digest_117 : decode cX11_digest 117 = .ok (.i2l, 1) := by decide +kernel
theorem dX11_digest_118 : decode cX11_digest 118 = .ok (.invokevirtual 258, 3) := by decide +kernel
theorem dX11_digest_121 : decode cX11_digest 121 = .ok (.aload_n 0, 1) := by decide +kernel
theorem dX11_digest_122 : decode cX11_digest 122 = .ok (.aload_n 0, 1) := by decide +kernel
theorem dX11_digest_123 : decode cX11_digest 123 = .ok (.iconst 0, 1) := by decide +kernel
theorem dX11_digest_124 : decode cX11_digest 124 = .ok (.invokevirtual 207, 3) := by decide +kernel
theorem dX11_digest_127 : decode cX11_digest 127 = .ok (.i2l, 1) := by decide +kernel
theorem dX11_digest_128 : decode cX11_digest 128 = .ok (.invokevirtual 258, 3) := by decide +kernel
theorem dX11_digest_131 : decode cX11_digest 131 = .ok (.aload_n 0, 1) := by decide +kernel
theorem dX11_digest_132 : decode cX11_digest 132 = .ok (.aload_n 0, 1) := by decide +kernel
theorem dX11_digest_133 : decode cX11_digest 133 = .ok (.iconst 1, 1) := by decide +kernel
theorem dX11_digest_134 : decode cX11_digest 134 = .ok (.invokevirtual 207, 3) := by decide +kernel
theorem dX11_digest_137 : decode cX11_digest 137 = .ok (.i2l, 1) := by decide +kernel
theorem dX11_digest_138 : decode cX11_digest 138 = .ok (.invokevirtual 258, 3) := by decide +kernel
theorem dX11_digest_141 : decode cX11_digest 141 = .ok (.aload_n 0, 1) := by decide +kernel
theorem dX11_digest_142 : decode cX11_digest 142 = .ok (.aload_n 0, 1) := by decide +kernel
theorem dX11_digest_143 : decode cX11_digest 143 = .ok (.iconst 2, 1) := by decide +kernel
theorem dX11_digest_144 : decode cX11_digest 144 = .ok (.invokevirtual 207, 3) := by decide +kernel
theorem dX11_digest_147 : decode cX11_digest 147 = .ok (.i2l, 1) := by decide +kernel
theorem dX11_digest_148 : decode cX11_digest 148 = .ok (.invokevirtual 258, 3) := by decide +kernel
theorem dX11_digest_151 : decode cX11_digest 151 = .ok (.iconst 0, 1) := by decide +kernel
theorem dX11_digest_152 : decode cX11_digest 152 = .ok (.istore_n 1, 1) := by decide +kernel
theorem dX11_digest_153 : decode cX11_digest 153 = .ok (.iload_n 1, 1) := by decide +kernel
theorem dX11_digest_154 : decode cX11_digest 154 = .ok (.aload_n 0, 1) := by decide +kernel
theorem dX11_digest_155 : decode cX11_digest 155 = .ok (.getfield 55, 3) := by decide +kernel
theorem dX11_digest_158 : decode cX11_digest 158 = .ok (.if_icmp .ge 20, 3) := by decide +kernel
theorem dX11_digest_161 : decode cX11_digest 161 = .ok (.aload_n 0, 1) := by decide +kernel
theorem dX11_digest_162 : decode cX11_digest 162 = .ok (.aload_n 0, 1) := by decide +kernel
theorem dX11_digest_163 : decode cX11_digest 163 = .ok (.getfield 25, 3) := by decide +kernel
theorem dX11_digest_166 : decode cX11_digest 166 = .ok (.iload_n 1, 1) := by decide +kernel
theorem dX11_digest_167 : decode cX11_digest 167 = .ok (.baload, 1) := by decide +kernel
theorem dX11_digest_168 : decode cX11_digest 168 = .ok (.i2l, 1) := by decide +kernel
theorem dX11_digest_169 : decode cX11_digest 169 = .ok (.invokevirtual 258, 3) := by decide +kernel
theorem dX11_digest_172 : decode cX11_digest 172 = .ok (.iinc 1 1, 3) := by decide +kernel
theorem dX11_digest_175 : decode cX11_digest 175 = .ok (.goto (-22), 3) := by decide +kernel
theorem dX11_digest_178 : decode cX11_digest 178 = .ok (.iconst 0, 1) := by decide +kernel
theorem dX11_digest_179 : decode cX11_digest 179 = .ok (.istore_n 1, 1) := by decide +kernel
theorem dX11_digest_180 : decode cX11_digest 180 = .ok (.iload_n 1, 1) := by decide +kernel
theorem dX11_digest_181 : decode cX11_digest 181 = .ok (.bipush 11, 2) := by decide +kernel
theorem dX11_digest_183 : decode cX11_digest 183 = .ok (.if_icmp .ge 19, 3) := by decide +kernel
theorem dX11_digest_186 : decode cX11_digest 186 = .ok (.aload_n 0, 1) := by decide +kernel
theorem dX11_digest_187 : decode cX11_digest 187 = .ok (.aload_n 0, 1) := by decide +kernel
theorem dX11_digest_188 : decode cX11_digest 188 = .ok (.iload_n 1, 1) := by decide +kernel
theorem dX11_digest_189 : decode cX11_digest 189 = .ok (.invokevirtual 248, 3) := by decide +kernel
theorem dX11_digest_192 : decode cX11_digest 192 = .ok (.i2l, 1) := by decide +kernel
theorem dX11_digest_193 : decode cX11_digest 193 = .ok (.invokevirtual 258, 3) := by decide +kernel
theorem dX11_digest_196 : decode cX11_digest 196 = .ok (.iinc 1 1, 3) := by decide +kernel
theorem dX11_digest_199 : decode cX11_digest 199 = .ok (.goto (-19), 3) := by decide +kernel
theorem dX11_digest_202 : decode cX11_digest 202 = .ok (.aload_n 0, 1) := by decide +kernel
theorem dX11_digest_203 : decode cX11_digest 203 = .ok (.getfield 253, 3) := by decide +kernel
theorem dX11_digest_206 : decode cX11_digest 206 = .ok (.lreturn, 1) := by decide +kernel
theorem dJ6_bitCount_0f7a4_0 : decode cJ6_bitCount_0f7a4 0 = .ok (.iload_n 0, 1) := by decide +kernel
theorem dJ6_bitCount_0f7a4_1 : decode cJ6_bitCount_0f7a4 1 = .ok (.iload_n 0, 1) := by decide +kernel
theorem dJ6_bitCount_0f7a4_2 : decode cJ6_bitCount_0f7a4 2 = .ok (.iconst 1, 1) := by decide +kernel
theorem dJ6_bitCount_0f7a4_3 : decode cJ6_bitCount_0f7a4 3 = .ok (.iushr, 1) := by decide +kernel
theorem dJ6_bitCount_0f7a4_4 : decode cJ6_bitCount_0f7a4 4 = .ok (.ldc_w 265, 3) := by decide +kernel
theorem dJ6_bitCount_0f7a4_7 : decode cJ6_bitCount_0f7a4 7 = .ok (.iand, 1) := by decide +kernel
theorem dJ6_bitCount_0f7a4_8 : decode cJ6_bitCount_0f7a4 8 = .ok (.isub, 1) := by decide +kernel
theorem dJ6_bitCount_0f7a4_9 : decode cJ6_bitCount_0f7a4 9 = .ok (.istore_n 0, 1) := by decide +kernel
theorem dJ6_bitCount_0f7a4_10 : decode cJ6_bitCount_0f7a4 10 = .ok (.iload_n 0, 1) := by decide +kernel
theorem dJ6_bitCount_0f7a4_11 : decode cJ6_bitCount_0f7a4 11 = .ok (.ldc_w 266, 3) := by decide +kernel
theorem dJ6_bitCount_0f7a4_14 : decode cJ6_bitCount_0f7a4 14 = .ok (.iand, 1) := by decide +kernel
theorem dJ6_bitCount_0f7a4_15 : decode cJ6_bitCount_0f7a4 15 = .ok (.iload_n 0, 1) := by decide +kernel
theorem dJ6_bitCount_0f7a4_16 : decode cJ6_bitCount_0f7a4 16 = .ok (.iconst 2, 1) := by decide +kernel
theorem dJ6_bitCount_0f7a4_17 : decode cJ6_bitCount_0f7a4 17 = .ok (.iushr, 1) := by decide +kernel
theorem dJ6_bitCount_0f7a4_18 : decode cJ6_bitCount_0f7a4 18 = .ok (.ldc_w 266, 3) := by decide +kernel
theorem dJ6_bitCount_0f7a4_21 : decode cJ6_bitCount_0f7a4 21 = .ok (.iand, 1) := by decide +kernel
theorem dJ6_bitCount_0f7a4_22 : decode cJ6_bitCount_0f7a4 22 = .ok (.iadd, 1) := by decide +kernel
theorem dJ6_bitCount_0f7a4_23 : decode cJ6_bitCount_0f7a4 23 = .ok (.istore_n 0, 1) := by decide +kernel
theorem dJ6_bitCount_0f7a4_24 : decode cJ6_bitCount_0f7a4 24 = .ok (.iload_n 0, 1) := by decide +kernel
theorem dJ6_bitCount_0f7a4_25 : decode cJ6_bitCount_0f7a4 25 = .ok (.iload_n 0, 1) := by decide +kernel
theorem dJ6_bitCount_0f7a4_26 : decode cJ6_bitCount_0f7a4 26 = .ok (.iconst 4, 1) := by decide +kernel
theorem dJ6_bitCount_0f7a4_27 : decode cJ6_bitCount_0f7a4 27 = .ok (.iushr, 1) := by decide +kernel
theorem dJ6_bitCount_0f7a4_28 : decode cJ6_bitCount_0f7a4 28 = .ok (.iadd, 1) := by decide +kernel
theorem dJ6_bitCount_0f7a4_29 : decode cJ6_bitCount_0f7a4 29 = .ok (.ldc_w 267, 3) := by decide +kernel
theorem dJ6_bitCount_0f7a4_32 : decode cJ6_bitCount_0f7a4 32 = .ok (.iand, 1) := by decide +kernel
theorem dJ6_bitCount_0f7a4_33 : decode cJ6_bitCount_0f7a4 33 = .ok (.istore_n 0, 1) := by decide +kernel
theorem dJ6_bitCount_0f7a4_34 : decode cJ6_bitCount_0f7a4 34 = .ok (.iload_n 0, 1) := by decide +kernel
theorem dJ6_bitCount_0f7a4_35 : decode cJ6_bitCount_0f7a4 35 = .ok (.iload_n 0, 1) := by decide +kernel
theorem dJ6_bitCount_0f7a4_36 : decode cJ6_bitCount_0f7a4 36 = .ok (.bipush 8, 2) := by decide +kernel
theorem dJ6_bitCount_0f7a4_38 : decode cJ6_bitCount_0f7a4 38 = .ok (.iushr, 1) := by decide +kernel
theorem dJ6_bitCount_0f7a4_39 : decode cJ6_bitCount_0f7a4 39 = .ok (.iadd, 1) := by decide +kernel
theorem dJ6_bitCount_0f7a4_40 : decode cJ6_bitCount_0f7a4 40 = .ok (.istore_n 0, 1) := by decide +kernel
theorem dJ6_bitCount_0f7a4_41 : decode cJ6_bitCount_0f7a4 41 = .ok (.iload_n 0, 1) := by decide +kernel
theorem dJ6_bitCount_0f7a4_42 : decode cJ6_bitCount_0f7a4 42 = .ok (.iload_n 0, 1) := by decide +kernel
theorem dJ6_bitCount_0f7a4_43 : decode cJ6_bitCount_0f7a4 43 = .ok (.bipush 16, 2) := by decide +kernel
theorem dJ6_bitCount_0f7a4_45 : decode cJ6_bitCount_0f7a4 45 = .ok (.iushr, 1) := by decide +kernel
theorem dJ6_bitCount_0f7a4_46 : decode cJ6_bitCount_0f7a4 46 = .ok (.iadd, 1) := by decide +kernel
theorem dJ6_bitCount_0f7a4_47 : decode cJ6_bitCount_0f7a4 47 = .ok (.istore_n 0, 1) := by decide +kernel
theorem dJ6_bitCount_0f7a4_48 : decode cJ6_bitCount_0f7a4 48 = .ok (.iload_n 0, 1) := by decide +kernel
theorem dJ6_bitCount_0f7a4_49 : decode cJ6_bitCount_0f7a4 49 = .ok (.bipush 63, 2) := by decide +kernel
theorem dJ6_bitCount_0f7a4_51 : decode cJ6_bitCount_0f7a4 51 = .ok (.iand, 1) := by decide +kernel
theorem dJ6_bitCount_0f7a4_52 : decode cJ6_bitCount_0f7a4 52 = .ok (.ireturn, 1) := by decide +kernel
theorem dJ9_abs_067f4_0 : decode cJ9_abs_067f4 0 = .ok (.lload_n 0, 1) := by decide +kernel
theorem dJ9_abs_067f4_1 : decode cJ9_abs_067f4 1 = .ok (.lconst 0, 1) := by decide +kernel
theorem dJ9_abs_067f4_2 : decode cJ9_abs_067f4 2 = .ok (.lcmp, 1) := by decide +kernel
theorem dJ9_abs_067f4_3 : decode cJ9_abs_067f4 3 = .ok (.ifCond .ge 8, 3) := by decide +kernel
theorem dJ9_abs_067f4_6 : decode cJ9_abs_067f4 6 = .ok (.lload_n 0, 1) := by decide +kernel
theorem dJ9_abs_067f4_7 : decode cJ9_abs_067f4 7 = .ok (.lneg, 1) := by decide +kernel
theorem dJ9_abs_067f4_8 : decode cJ9_abs_067f4 8 = .ok (.goto 4, 3) := by decide +kernel
theorem dJ9_abs_067f4_11 : decode cJ9_abs_067f4 11 = .ok (.lload_n 0, 1) := by decide +kernel
theorem dJ9_abs_067f4_12 : decode cJ9_abs_067f4 12 = .ok (.lreturn, 1) := by decide +kernel
theorem dJ9_max_7cf53_0 : decode cJ9_max_7cf53 0 = .ok (.iload_n 0, 1) := by decide +kernel
theorem dJ9_max_7cf53_1 : decode cJ9_max_7cf53 1 = .ok (.iload_n 1, 1) := by decide +kernel
theorem dJ9_max_7cf53_2 : decode cJ9_max_7cf53 2 = .ok (.if_icmp .lt 7, 3) := by decide +kernel
theorem dJ9_max_7cf53_5 : decode cJ9_max_7cf53 5 = .ok (.iload_n 0, 1) := by decide +kernel
theorem dJ9_max_7cf53_6 : decode cJ9_max_7cf53 6 = .ok (.goto 4, 3) := by decide +kernel
theorem dJ9_max_7cf53_9 : decode cJ9_max_7cf53 9 = .ok (.iload_n 1, 1) := by decide +kernel
theorem dJ9_max_7cf53_10 : decode cJ9_max_7cf53 10 = .ok (.ireturn, 1) := by decide +kernel
theorem dJ9_min_7cf53_0 : decode cJ9_min_7cf53 0 = .ok (.iload_n 0, 1) := by decide +kernel
theorem dJ9_min_7cf53_1 : decode cJ9_min_7cf53 1 = .ok (.iload_n 1, 1) := by decide +kernel
theorem dJ9_min_7cf53_2 : decode cJ9_min_7cf53 2 = .ok (.if_icmp .gt 7, 3) := by decide +kernel
theorem dJ9_min_7cf53_5 : decode cJ9_min_7cf53 5 = .ok (.iload_n 0, 1) := by decide +kernel
theorem dJ9_min_7cf53_6 : decode cJ9_min_7cf53 6 = .ok (.goto 4, 3) := by decide +kernel
theorem dJ9_min_7cf53_9 : decode cJ9_min_7cf53 9 = .ok (.iload_n 1, 1) := by decide +kernel
theorem dJ9_min_7cf53_10 : decode cJ9_min_7cf53 10 = .ok (.ireturn, 1) := by decide +kernel
