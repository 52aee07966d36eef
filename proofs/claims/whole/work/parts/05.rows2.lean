theorem dX11_spoon_42 : decode cX11_spoon 42 = .ok (.invokevirtual 79, 3) := by decide +kernel
theorem dX11_spoon_45 : decode cX11_spoon 45 = .ok (.ireturn, 1) := by decide +kernel
theorem dX11_spoon_46 : decode cX11_spoon 46 = .ok (.aload_n 0, 1) := by decide +kernel
theorem dX11_spoon_47 : decode cX11_spoon 47 = .ok (.getfield 39, 3) := by decide +kernel
theorem dX11_spoon_50 : decode cX11_spoon 50 = .ok (.getfield 111, 3) := by decide +kernel
theorem dX11_spoon_53 : decode cX11_spoon 53 = .ok (.istore_n 3, 1) := by decide +kernel
theorem dX11_spoon_54 : decode cX11_spoon 54 = .ok (.aload_n 0, 1) := by decide +kernel
theorem dX11_spoon_55 : decode cX11_spoon 55 = .ok (.getfield 39, 3) := by decide +kernel
theorem dX11_spoon_58 : decode cX11_spoon 58 = .ok (.dup, 1) := by decide +kernel
theorem dX11_spoon_59 : decode cX11_spoon 59 = .ok (.getfield 111, 3) := by decide +kernel
theorem dX11_spoon_62 : decode cX11_spoon 62 = .ok (.iconst 1, 1) := by decide +kernel
theorem dX11_spoon_63 : decode cX11_spoon 63 = .ok (.iadd, 1) := by decide +kernel
theorem dX11_spoon_64 : decode cX11_spoon 64 = .ok (.putfield 111, 3) := by decide +kernel
theorem dX11_spoon_67 : decode cX11_spoon 67 = .ok (.aload_n 0, 1) := by decide +kernel
theorem dX11_spoon_68 : decode cX11_spoon 68 = .ok (.getfield 39, 3) := by decide +kernel
theorem dX11_spoon_71 : decode cX11_spoon 71 = .ok (.getfield 115, 3) := by decide +kernel
theorem dX11_spoon_74 : decode cX11_spoon 74 = .ok (.iload_n 3, 1) := by decide +kernel
theorem dX11_spoon_75 : decode cX11_spoon 75 = .ok (.iload_n 1, 1) := by decide +kernel
theorem dX11_spoon_76 : decode cX11_spoon 76 = .ok (.bipush 10, 2) := by decide +kernel
theorem dX11_spoon_78 : decode cX11_spoon 78 = .ok (.idiv, 1) := by decide +kernel
theorem dX11_spoon_79 : decode cX11_spoon 79 = .ok (.iastore, 1) := by decide +kernel
theorem dX11_spoon_80 : decode cX11_spoon 80 = .ok (.aload_n 0, 1) := by decide +kernel
theorem dX11_spoon_81 : decode cX11_spoon 81 = .ok (.getfield 39, 3) := by decide +kernel
theorem dX11_spoon_84 : decode cX11_spoon 84 = .ok (.getfield 118, 3) := by decide +kernel
theorem dX11_spoon_87 : decode cX11_spoon 87 = .ok (.iload_n 3, 1) := by decide +kernel
theorem dX11_spoon_88 : decode cX11_spoon 88 = .ok (.iload_n 1, 1) := by decide +kernel
theorem dX11_spoon_89 : decode cX11_spoon 89 = .ok (.bipush 10, 2) := by decide +kernel
theorem dX11_spoon_91 : decode cX11_spoon 91 = .ok (.irem, 1) := by decide +kernel
theorem dX11_spoon_92 : decode cX11_spoon 92 = .ok (.iastore, 1) := by decide +kernel
theorem dX11_spoon_93 : decode cX11_spoon 93 = .ok (.aload_n 0, 1) := by decide +kernel
theorem dX11_spoon_94 : decode cX11_spoon 94 = .ok (.getfield 39, 3) := by decide +kernel
theorem dX11_spoon_97 : decode cX11_spoon 97 = .ok (.getfield 121, 3) := by decide +kernel
theorem dX11_spoon_100 : decode cX11_spoon 100 = .ok (.iload_n 3, 1) := by decide +kernel
theorem dX11_spoon_101 : decode cX11_spoon 101 = .ok (.iload_n 2, 1) := by decide +kernel
theorem dX11_spoon_102 : decode cX11_spoon 102 = .ok (.iastore, 1) := by decide +kernel
theorem dX11_spoon_103 : decode cX11_spoon 103 = .ok (.aload_n 0, 1) := by decide +kernel
theorem dX11_spoon_104 : decode cX11_spoon 104 = .ok (.getfield 39, 3) := by decide +kernel
theorem dX11_spoon_107 : decode cX11_spoon 107 = .ok (.getfield 124, 3) := by decide +kernel
theorem dX11_spoon_110 : decode cX11_spoon 110 = .ok (.iload_n 3, 1) := by decide +kernel
theorem dX11_spoon_111 : decode cX11_spoon 111 = .ok (.lconst 0, 1) := by decide +kernel
theorem dX11_spoon_112 : decode cX11_spoon 112 = .ok (.lastore, 1) := by decide +kernel
theorem dX11_spoon_113 : decode cX11_spoon 113 = .ok (.iload_n 3, 1) := by decide +kernel
theorem dX11_spoon_114 : decode cX11_spoon 114 = .ok (.ireturn, 1) := by decide +kernel
set_option maxRecDepth 20000 in
theorem ggX11_ofSpoon_X11_isSpoon : GoodIn wsX11_ofSpoon wsX11_isSpoon := goodIn_r _ [11, 2, 12, 13, 14, 10, 15, 104, 105, 106, 107, 108, 109, 110, 111, 112, 113, 114, 115, 116, 117, 118, 119, 120, 121, 122, 123, 124, 125, 126, 127, 128, 129, 130] rfl (by decide +kernel)
set_option maxRecDepth 20000 in
theorem gX11_ofSpoon_X11_isSpoon : GoodIn wsX11_ofSpoon (wsV RX11 128 RX11 yX11_isSpoon wsX11_isSpoon) := goodIn_app (goodIn_r _ [7, 8, 9, 10] rfl (by decide +kernel)) ggX11_ofSpoon_X11_isSpoon
set_option maxRecDepth 20000 in
theorem ggX11_ofSpoon_X11_within : GoodIn wsX11_ofSpoon wsX11_within := goodIn_r _ [15] rfl (by decide +kernel)
set_option maxRecDepth 20000 in
theorem gX11_ofSpoon_X11_within : GoodIn wsX11_ofSpoon (va_wsS RX11 74 yX11_within wsX11_within) := goodIn_app (goodIn_r _ [13, 14, 10] rfl (by decide +kernel)) ggX11_ofSpoon_X11_within
set_option maxRecDepth 20000 in
theorem ggX11_ofSpoon_X11_refused : GoodIn wsX11_ofSpoon wsX11_refused := goodIn_r _ [19, 20, 21, 104, 105, 106, 107, 108, 109, 110, 111, 112] rfl (by decide +kernel)
set_option maxRecDepth 20000 in
theorem gX11_ofSpoon_X11_refused : GoodIn wsX11_ofSpoon (wsV RX11 79 RX11 yX11_refused wsX11_refused) := goodIn_app (goodIn_r _ [16, 17, 18, 10] rfl (by decide +kernel)) ggX11_ofSpoon_X11_refused
set_option maxRecDepth 20000 in
theorem ggX11_ofSpoon_X3_wordsOn : GoodIn wsX11_ofSpoon wsX3_wordsOn := goodIn_r _ [26, 27, 28, 29, 25, 30, 31, 32, 33, 113, 114, 115, 116, 117, 118, 119, 120, 121, 122, 123, 124, 125, 126, 127, 128, 129, 130] rfl (by decide +kernel)
set_option maxRecDepth 20000 in
theorem gX11_ofSpoon_X3_wordsOn : GoodIn wsX11_ofSpoon (wsV RX11 131 RX3 yX3_wordsOn wsX3_wordsOn) := goodIn_app (goodIn_r _ [22, 23, 24, 25] rfl (by decide +kernel)) ggX11_ofSpoon_X3_wordsOn
set_option maxRecDepth 20000 in
theorem ggX11_ofSpoon_X3_rubOf : GoodIn wsX11_ofSpoon wsX3_rubOf := goodIn_r _ [37, 38, 39, 40, 41, 23, 24, 25, 26, 27, 28, 29, 30, 31, 32, 33, 42, 43, 44, 45, 46, 47, 48, 49, 50, 51, 52, 53, 54, 55, 56, 57, 58, 59, 60, 61, 62, 63, 64, 65, 66, 67, 68, 69, 70, 71, 72, 73, 74, 75, 76, 77, 78, 79, 80, 81, 82, 83, 84, 85, 86, 87, 88, 89, 90, 91, 92, 93, 94, 95, 96, 97, 98, 99, 100, 101, 102, 113, 114, 115, 116, 117, 118, 119, 120, 121, 122, 123, 124, 125, 126, 127, 128, 129, 130, 131, 132, 133, 134, 135, 136, 137] rfl (by decide +kernel)
set_option maxRecDepth 20000 in
theorem gX11_ofSpoon_X3_rubOf : GoodIn wsX11_ofSpoon (wsV RX11 134 RX3 yX3_rubOf wsX3_rubOf) := goodIn_app (goodIn_r _ [34, 35, 36, 25] rfl (by decide +kernel)) ggX11_ofSpoon_X3_rubOf
set_option maxRecDepth 20000 in
theorem ggX11_ofSpoon_X3_freshIn : GoodIn wsX11_ofSpoon wsX3_freshIn := goodIn_r _ [33] rfl (by decide +kernel)
set_option maxRecDepth 20000 in
theorem gX11_ofSpoon_X3_freshIn : GoodIn wsX11_ofSpoon (va_wsS RX11 137 yX3_freshIn wsX3_freshIn) := goodIn_app (goodIn_r _ [103, 32, 25] rfl (by decide +kernel)) ggX11_ofSpoon_X3_freshIn
theorem dX11_ofSpoon_0 : decode cX11_ofSpoon 0 = .ok (.aload_n 0, 1) := by decide +kernel
theorem dX11_ofSpoon_1 : decode cX11_ofSpoon 1 = .ok (.iload_n 1, 1) := by decide +kernel
theorem dX11_ofSpoon_2 : decode cX11_ofSpoon 2 = .ok (.invokevirtual 128, 3) := by decide +kernel
theorem dX11_ofSpoon_5 : decode cX11_ofSpoon 5 = .ok (.ifCond .eq 13, 3) := by decide +kernel
theorem dX11_ofSpoon_8 : decode cX11_ofSpoon 8 = .ok (.iload_n 2, 1) := by decide +kernel
theorem dX11_ofSpoon_9 : decode cX11_ofSpoon 9 = .ok (.iconst 0, 1) := by decide +kernel
theorem dX11_ofSpoon_10 : decode cX11_ofSpoon 10 = .ok (.bipush 16, 2) := by decide +kernel
theorem dX11_ofSpoon_12 : decode cX11_ofSpoon 12 = .ok (.invokestatic 74, 3) := by decide +kernel
theorem dX11_ofSpoon_15 : decode cX11_ofSpoon 15 = .ok (.ifCond .ne 10, 3) := by decide +kernel
theorem dX11_ofSpoon_18 : decode cX11_ofSpoon 18 = .ok (.aload_n 0, 1) := by decide +kernel
theorem dX11_ofSpoon_19 : decode cX11_ofSpoon 19 = .ok (.ldc 78, 2) := by decide +kernel
theorem dX11_ofSpoon_21 : decode cX11_ofSpoon 21 = .ok (.invokevirtual 79, 3) := by decide +kernel
theorem dX11_ofSpoon_24 : decode cX11_ofSpoon 24 = .ok (.ireturn, 1) := by decide +kernel
theorem dX11_ofSpoon_25 : decode cX11_ofSpoon 25 = .ok (.iload_n 2, 1) := by decide +kernel
theorem dX11_ofSpoon_26 : decode cX11_ofSpoon 26 = .ok (.tableswitch 82 0 4 #[34, 44, 54, 64, 73], 34) := by decide +kernel
theorem dX11_ofSpoon_60 : decode cX11_ofSpoon 60 = .ok (.aload_n 0, 1) := by decide +kernel
theorem dX11_ofSpoon_61 : decode cX11_ofSpoon 61 = .ok (.getfield 39, 3) := by decide +kernel
theorem dX11_ofSpoon_64 : decode cX11_ofSpoon 64 = .ok (.getfield 115, 3) := by decide +kernel
theorem dX11_ofSpoon_67 : decode cX11_ofSpoon 67 = .ok (.iload_n 1, 1) := by decide +kernel
theorem dX11_ofSpoon_68 : decode cX11_ofSpoon 68 = .ok (.iaload, 1) := by decide +kernel
theorem dX11_ofSpoon_69 : decode cX11_ofSpoon 69 = .ok (.ireturn, 1) := by decide +kernel
theorem dX11_ofSpoon_70 : decode cX11_ofSpoon 70 = .ok (.aload_n 0, 1) := by decide +kernel
theorem dX11_ofSpoon_71 : decode cX11_ofSpoon 71 = .ok (.getfield 39, 3) := by decide +kernel
theorem dX11_ofSpoon_74 : decode cX11_ofSpoon 74 = .ok (.getfield 118, 3) := by decide +kernel
theorem dX11_ofSpoon_77 : decode cX11_ofSpoon 77 = .ok (.iload_n 1, 1) := by decide +kernel
theorem dX11_ofSpoon_78 : decode cX11_ofSpoon 78 = .ok (.iaload, 1) := by decide +kernel
theorem dX11_ofSpoon_79 : decode cX11_ofSpoon 79 = .ok (.ireturn, 1) := by decide +kernel
theorem dX11_ofSpoon_80 : decode cX11_ofSpoon 80 = .ok (.aload_n 0, 1) := by decide +kernel
theorem dX11_ofSpoon_81 : decode cX11_ofSpoon 81 = .ok (.getfield 39, 3) := by decide +kernel
theorem dX11_ofSpoon_84 : decode cX11_ofSpoon 84 = .ok (.getfield 121, 3) := by decide +kernel
theorem dX11_ofSpoon_87 : decode cX11_ofSpoon 87 = .ok (.iload_n 1, 1) := by decide +kernel
theorem dX11_ofSpoon_88 : decode cX11_ofSpoon 88 = .ok (.iaload, 1) := by decide +kernel
theorem dX11_ofSpoon_89 : decode cX11_ofSpoon 89 = .ok (.ireturn, 1) := by decide +kernel
theorem dX11_ofSpoon_90 : decode cX11_ofSpoon 90 = .ok (.aload_n 0, 1) := by decide +kernel
theorem dX11_ofSpoon_91 : decode cX11_ofSpoon 91 = .ok (.getfield 39, 3) := by decide +kernel
theorem dX11_ofSpoon_94 : decode cX11_ofSpoon 94 = .ok (.iload_n 1, 1) := by decide +kernel
theorem dX11_ofSpoon_95 : decode cX11_ofSpoon 95 = .ok (.invokevirtual 131, 3) := by decide +kernel
theorem dX11_ofSpoon_98 : decode cX11_ofSpoon 98 = .ok (.ireturn, 1) := by decide +kernel
theorem dX11_ofSpoon_99 : decode cX11_ofSpoon 99 = .ok (.aload_n 0, 1) := by decide +kernel
theorem dX11_ofSpoon_100 : decode cX11_ofSpoon 100 = .ok (.getfield 39, 3) := by decide +kernel
theorem dX11_ofSpoon_103 : decode cX11_ofSpoon 103 = .ok (.iload_n 1, 1) := by decide +kernel
theorem dX11_ofSpoon_104 : decode cX11_ofSpoon 104 = .ok (.invokevirtual 134, 3) := by decide +kernel
theorem dX11_ofSpoon_107 : decode cX11_ofSpoon 107 = .ok (.ireturn, 1) := by decide +kernel
theorem dX11_ofSpoon_108 : decode cX11_ofSpoon 108 = .ok (.aload_n 0, 1) := by decide +kernel
theorem dX11_ofSpoon_109 : decode cX11_ofSpoon 109 = .ok (.getfield 39, 3) := by decide +kernel
theorem dX11_ofSpoon_112 : decode cX11_ofSpoon 112 = .ok (.getfield 124, 3) := by decide +kernel
theorem dX11_ofSpoon_115 : decode cX11_ofSpoon 115 = .ok (.iload_n 1, 1) := by decide +kernel
theorem dX11_ofSpoon_116 : decode cX11_ofSpoon 116 = .ok (.laload, 1) := by decide +kernel
theorem dX11_ofSpoon_117 : decode cX11_ofSpoon 117 = .ok (.iload_n 2, 1) := by decide +kernel
theorem dX11_ofSpoon_118 : decode cX11_ofSpoon 118 = .ok (.iconst 5, 1) := by decide +kernel
theorem dX11_ofSpoon_119 : decode cX11_ofSpoon 119 = .ok (.isub, 1) := by decide +kernel
theorem dX11_ofSpoon_120 : decode cX11_ofSpoon 120 = .ok (.invokestatic 137, 3) := by decide +kernel
theorem dX11_ofSpoon_123 : decode cX11_ofSpoon 123 = .ok (.ireturn, 1) := by decide +kernel
set_option maxRecDepth 20000 in
theorem ggX11_change_X11_isSpoon : GoodIn wsX11_change wsX11_isSpoon := goodIn_r _ [9, 2, 10, 11, 12, 8, 13, 29, 30, 31, 32, 33, 34, 35, 36, 37, 38, 39, 40, 41, 42, 43, 44, 45, 46, 47, 48, 49, 50, 51, 52, 53, 54, 55] rfl (by decide +kernel)
set_option maxRecDepth 20000 in
theorem gX11_change_X11_isSpoon : GoodIn wsX11_change (wsV RX11 128 RX11 yX11_isSpoon wsX11_isSpoon) := goodIn_app (goodIn_r _ [5, 6, 7, 8] rfl (by decide +kernel)) ggX11_change_X11_isSpoon
set_option maxRecDepth 20000 in
theorem ggX11_change_X11_within : GoodIn wsX11_change wsX11_within := goodIn_r _ [13] rfl (by decide +kernel)
set_option maxRecDepth 20000 in
theorem gX11_change_X11_within : GoodIn wsX11_change (va_wsS RX11 74 yX11_within wsX11_within) := goodIn_app (goodIn_r _ [11, 12, 8] rfl (by decide +kernel)) ggX11_change_X11_within
set_option maxRecDepth 20000 in
theorem ggX11_change_X11_refused : GoodIn wsX11_change wsX11_refused := goodIn_r _ [17, 18, 19, 29, 30, 31, 32, 33, 34, 35, 36, 37] rfl (by decide +kernel)
set_option maxRecDepth 20000 in
theorem gX11_change_X11_refused : GoodIn wsX11_change (wsV RX11 79 RX11 yX11_refused wsX11_refused) := goodIn_app (goodIn_r _ [14, 15, 16, 8] rfl (by decide +kernel)) ggX11_change_X11_refused
set_option maxRecDepth 20000 in
theorem ggX11_change_X3_withFresh : GoodIn wsX11_change wsX3_withFresh := goodIn_r _ [23, 24, 25] rfl (by decide +kernel)
set_option maxRecDepth 20000 in
theorem gX11_change_X3_withFresh : GoodIn wsX11_change (va_wsS RX11 141 yX3_withFresh wsX3_withFresh) := goodIn_app (goodIn_r _ [20, 21, 22] rfl (by decide +kernel)) ggX11_change_X3_withFresh
set_option maxRecDepth 20000 in
theorem ggX11_change_X3_freshIn : GoodIn wsX11_change wsX3_freshIn := goodIn_r _ [28] rfl (by decide +kernel)
set_option maxRecDepth 20000 in
theorem gX11_change_X3_freshIn : GoodIn wsX11_change (va_wsS RX11 137 yX3_freshIn wsX3_freshIn) := goodIn_app (goodIn_r _ [26, 27, 22] rfl (by decide +kernel)) ggX11_change_X3_freshIn
theorem dX11_change_0 : decode cX11_change 0 = .ok (.aload_n 0, 1) := by decide +kernel
theorem dX11_change_1 : decode cX11_change 1 = .ok (.iload_n 1, 1) := by decide +kernel
theorem dX11_change_2 : decode cX11_change 2 = .ok (.invokevirtual 128, 3) := by decide +kernel
theorem dX11_change_5 : decode cX11_change 5 = .ok (.ifCond .eq 32, 3) := by decide +kernel
theorem dX11_change_8 : decode cX11_change 8 = .ok (.iload_n 2, 1) := by decide +kernel
theorem dX11_change_9 : decode cX11_change 9 = .ok (.iconst 0, 1) := by decide +kernel
theorem dX11_change_10 : decode cX11_change 10 = .ok (.bipush 12, 2) := by decide +kernel
theorem dX11_change_12 : decode cX11_change 12 = .ok (.invokestatic 74, 3) := by decide +kernel
theorem dX11_change_15 : decode cX11_change 15 = .ok (.ifCond .eq 22, 3) := by decide +kernel
theorem dX11_change_18 : decode cX11_change 18 = .ok (.iload_n 3, 1) := by decide +kernel
theorem dX11_change_19 : decode cX11_change 19 = .ok (.iconst 0, 1) := by decide +kernel
theorem dX11_change_20 : decode cX11_change 20 = .ok (.iload_n 2, 1) := by decide +kernel
theorem dX11_change_21 : decode cX11_change 21 = .ok (.ifCond .ne 8, 3) := by decide +kernel
theorem dX11_change_24 : decode cX11_change 24 = .ok (.bipush 99, 2) := by decide +kernel
theorem dX11_change_26 : decode cX11_change 26 = .ok (.goto 5, 3) := by decide +kernel
theorem dX11_change_29 : decode cX11_change 29 = .ok (.bipush 9, 2) := by decide +kernel
theorem dX11_change_31 : decode cX11_change 31 = .ok (.invokestatic 74, 3) := by decide +kernel
theorem dX11_change_34 : decode cX11_change 34 = .ok (.ifCond .ne 10, 3) := by decide +kernel
theorem dX11_change_37 : decode cX11_change 37 = .ok (.aload_n 0, 1) := by decide +kernel
theorem dX11_change_38 : decode cX11_change 38 = .ok (.ldc 78, 2) := by decide +kernel
theorem dX11_change_40 : decode cX11_change 40 = .ok (.invokevirtual 79, 3) := by decide +kernel
theorem dX11_change_43 : decode cX11_change 43 = .ok (.ireturn, 1) := by decide +kernel
theorem dX11_change_44 : decode cX11_change 44 = .ok (.iload_n 2, 1) := by decide +kernel
theorem dX11_change_45 : decode cX11_change 45 = .ok (.ifCond .ne 27, 3) := by decide +kernel
theorem dX11_change_48 : decode cX11_change 48 = .ok (.aload_n 0, 1) := by decide +kernel
theorem dX11_change_49 : decode cX11_change 49 = .ok (.getfield 39, 3) := by decide +kernel
theorem dX11_change_52 : decode cX11_change 52 = .ok (.getfield 121, 3) := by decide +kernel
theorem dX11_change_55 : decode cX11_change 55 = .ok (.iload_n 1, 1) := by decide +kernel
theorem dX11_change_56 : decode cX11_change 56 = .ok (.iaload, 1) := by decide +kernel
theorem dX11_change_57 : decode cX11_change 57 = .ok (.istore 4, 2) := by decide +kernel
theorem dX11_change_59 : decode cX11_change 59 = .ok (.aload_n 0, 1) := by decide +kernel
theorem dX11_change_60 : decode cX11_change 60 = .ok (.getfield 39, 3) := by decide +kernel
theorem dX11_change_63 : decode cX11_change 63 = .ok (.getfield 121, 3) := by decide +kernel
theorem dX11_change_66 : decode cX11_change 66 = .ok (.iload_n 1, 1) := by decide +kernel
theorem dX11_change_67 : decode cX11_change 67 = .ok (.iload_n 3, 1) := by decide +kernel
theorem dX11_change_68 : decode cX11_change 68 = .ok (.iastore, 1) := by decide +kernel
theorem dX11_change_69 : decode cX11_change 69 = .ok (.iload 4, 2) := by decide +kernel
theorem dX11_change_71 : decode cX11_change 71 = .ok (.ireturn, 1) := by decide +kernel
theorem dX11_change_72 : decode cX11_change 72 = .ok (.aload_n 0, 1) := by decide +kernel
theorem dX11_change_73 : decode cX11_change 73 = .ok (.getfield 39, 3) := by decide +kernel
theorem dX11_change_76 : decode cX11_change 76 = .ok (.getfield 124, 3) := by decide +kernel
theorem dX11_change_79 : decode cX11_change 79 = .ok (.iload_n 1, 1) := by decide +kernel
theorem dX11_change_80 : decode cX11_change 80 = .ok (.laload, 1) := by decide +kernel
theorem dX11_change_81 : decode cX11_change 81 = .ok (.lstore 4, 2) := by decide +kernel
theorem dX11_change_83 : decode cX11_change 83 = .ok (.aload_n 0, 1) := by decide +kernel
theorem dX11_change_84 : decode cX11_change 84 = .ok (.getfield 39, 3) := by decide +kernel
theorem dX11_change_87 : decode cX11_change 87 = .ok (.getfield 124, 3) := by decide +kernel
theorem dX11_change_90 : decode cX11_change 90 = .ok (.iload_n 1, 1) := by decide +kernel
theorem dX11_change_91 : decode cX11_change 91 = .ok (.lload 4, 2) := by decide +kernel
theorem dX11_change_93 : decode cX11_change 93 = .ok (.iload_n 2, 1) := by decide +kernel
theorem dX11_change_94 : decode cX11_change 94 = .ok (.iconst 1, 1) := by decide +kernel
theorem dX11_change_95 : decode cX11_change 95 = .ok (.isub, 1) := by decide +kernel
theorem dX11_change_96 : decode cX11_change 96 = .ok (.iload_n 3, 1) := by decide +kernel
theorem dX11_change_97 : decode cX11_change 97 = .ok (.invokestatic 141, 3) := by decide +kernel
theorem dX11_change_100 : decode cX11_change 100 = .ok (.lastore, 1) := by decide +kernel
theorem dX11_change_101 : decode cX11_change 101 = .ok (.lload 4, 2) := by decide +kernel
theorem dX11_change_103 : decode cX11_change 103 = .ok (.iload_n 2, 1) := by decide +kernel
theorem dX11_change_104 : decode cX11_change 104 = .ok (.iconst 1, 1) := by decide +kernel
theorem dX11_change_105 : decode cX11_change 105 = .ok (.isub, 1) := by decide +kernel
theorem dX11_change_106 : decode cX11_change 106 = .ok (.invokestatic 137, 3) := by decide +kernel
theorem dX11_change_109 : decode cX11_change 109 = .ok (.ireturn, 1) := by decide +kernel
set_option maxRecDepth 20000 in
theorem ggX11_become_X11_isSpoon : GoodIn wsX11_become wsX11_isSpoon := goodIn_r _ [9, 2, 10, 11, 12, 8, 13, 20, 21, 22, 23, 24, 25, 26, 27, 28, 29, 30, 31, 32, 33, 34, 35, 36, 37, 38, 39, 40, 41, 42, 43, 44, 45, 46] rfl (by decide +kernel)
set_option maxRecDepth 20000 in
theorem gX11_become_X11_isSpoon : GoodIn wsX11_become (wsV RX11 128 RX11 yX11_isSpoon wsX11_isSpoon) := goodIn_app (goodIn_r _ [5, 6, 7, 8] rfl (by decide +kernel)) ggX11_become_X11_isSpoon
set_option maxRecDepth 20000 in
theorem ggX11_become_X11_within : GoodIn wsX11_become wsX11_within := goodIn_r _ [13] rfl (by decide +kernel)
set_option maxRecDepth 20000 in
theorem gX11_become_X11_within : GoodIn wsX11_become (va_wsS RX11 74 yX11_within wsX11_within) := goodIn_app (goodIn_r _ [11, 12, 8] rfl (by decide +kernel)) ggX11_become_X11_within
set_option maxRecDepth 20000 in
theorem ggX11_become_X11_refused : GoodIn wsX11_become wsX11_refused := goodIn_r _ [17, 18, 19, 20, 21, 22, 23, 24, 25, 26, 27, 28] rfl (by decide +kernel)
set_option maxRecDepth 20000 in
theorem gX11_become_X11_refused : GoodIn wsX11_become (wsV RX11 79 RX11 yX11_refused wsX11_refused) := goodIn_app (goodIn_r _ [14, 15, 16, 8] rfl (by decide +kernel)) ggX11_become_X11_refused
theorem dX11_become_0 : decode cX11_become 0 = .ok (.aload_n 0, 1) := by decide +kernel
theorem dX11_become_1 : decode cX11_become 1 = .ok (.iload_n 1, 1) := by decide +kernel
theorem dX11_become_2 : decode cX11_become 2 = .ok (.invokevirtual 128, 3) := by decide +kernel
theorem dX11_become_5 : decode cX11_become 5 = .ok (.ifCond .eq 13, 3) := by decide +kernel
theorem dX11_become_8 : decode cX11_become 8 = .ok (.iload_n 2, 1) := by decide +kernel
theorem dX11_become_9 : decode cX11_become 9 = .ok (.iconst 0, 1) := by decide +kernel
theorem dX11_become_10 : decode cX11_become 10 = .ok (.bipush 69, 2) := by decide +kernel
theorem dX11_become_12 : decode cX11_become 12 = .ok (.invokestatic 74, 3) := by decide +kernel
theorem dX11_become_15 : decode cX11_become 15 = .ok (.ifCond .ne 10, 3) := by decide +kernel
theorem dX11_become_18 : decode cX11_become 18 = .ok (.aload_n 0, 1) := by decide +kernel
theorem dX11_become_19 : decode cX11_become 19 = .ok (.ldc 78, 2) := by decide +kernel
theorem dX11_become_21 : decode cX11_become 21 = .ok (.invokevirtual 79, 3) := by decide +kernel
theorem dX11_become_24 : decode cX11_become 24 = .ok (.ireturn, 1) := by decide +kernel
theorem dX11_become_25 : decode cX11_become 25 = .ok (.aload_n 0, 1) := by decide +kernel
theorem dX11_become_26 : decode cX11_become 26 = .ok (.getfield 39, 3) := by decide +kernel
theorem dX11_become_29 : decode cX11_become 29 = .ok (.getfield 115, 3) := by decide +kernel
theorem dX11_become_32 : decode cX11_become 32 = .ok (.iload_n 1, 1) := by decide +kernel
theorem dX11_become_33 : decode cX11_become 33 = .ok (.iaload, 1) := by decide +kernel
theorem dX11_become_34 : decode cX11_become 34 = .ok (.istore_n 3, 1) := by decide +kernel
theorem dX11_become_35 : decode cX11_become 35 = .ok (.aload_n 0, 1) := by decide +kernel
theorem dX11_become_36 : decode cX11_become 36 = .ok (.getfield 39, 3) := by decide +kernel
theorem dX11_become_39 : decode cX11_become 39 = .ok (.getfield 115, 3) := by decide +kernel
theorem dX11_become_42 : decode cX11_become 42 = .ok (.iload_n 1, 1) := by decide +kernel
theorem dX11_become_43 : decode cX11_become 43 = .ok (.iload_n 2, 1) := by decide +kernel
theorem dX11_become_44 : decode cX11_become 44 = .ok (.bipush 10, 2) := by decide +kernel
theorem dX11_become_46 : decode cX11_become 46 = .ok (.idiv, 1) := by decide +kernel
theorem dX11_become_47 : decode cX11_become 47 = .ok (.iastore, 1) := by decide +kernel
theorem dX11_become_48 : decode cX11_become 48 = .ok (.aload_n 0, 1) := by decide +kernel
theorem dX11_become_49 : decode cX11_become 49 = .ok (.getfield 39, 3) := by decide +kernel
theorem dX11_become_52 : decode cX11_become 52 = .ok (.getfield 118, 3) := by decide +kernel
theorem dX11_become_55 : decode cX11_become 55 = .ok (.iload_n 1, 1) := by decide +kernel
theorem dX11_become_56 : decode cX11_become 56 = .ok (.iload_n 2, 1) := by decide +kernel
theorem dX11_become_57 : decode cX11_become 57 = .ok (.bipush 10, 2) := by decide +kernel
theorem dX11_become_59 : decode cX11_become 59 = .ok (.irem, 1) := by decide +kernel
theorem dX11_become_60 : decode cX11_become 60 = .ok (.iastore, 1) := by decide +kernel
theorem dX11_become_61 : decode cX11_become 61 = .ok (.iload_n 3, 1) := by decide +kernel
theorem dX11_become_62 : decode cX11_become 62 = .ok (.ireturn, 1) := by decide +kernel
set_option maxRecDepth 20000 in
theorem ggX11_as_X11_isSpoon : GoodIn wsX11_as wsX11_isSpoon := goodIn_r _ [11, 2, 12, 13, 14, 10, 15, 22, 23, 24, 25, 26, 27, 28, 29, 30, 31, 32, 33, 34, 35, 36, 37, 38, 39, 40, 41, 42, 43, 44, 45, 46, 47, 48] rfl (by decide +kernel)
set_option maxRecDepth 20000 in
theorem gX11_as_X11_isSpoon : GoodIn wsX11_as (wsV RX11 128 RX11 yX11_isSpoon wsX11_isSpoon) := goodIn_app (goodIn_r _ [7, 8, 9, 10] rfl (by decide +kernel)) ggX11_as_X11_isSpoon
set_option maxRecDepth 20000 in
theorem ggX11_as_X11_within : GoodIn wsX11_as wsX11_within := goodIn_r _ [15] rfl (by decide +kernel)
set_option maxRecDepth 20000 in
theorem gX11_as_X11_within : GoodIn wsX11_as (va_wsS RX11 74 yX11_within wsX11_within) := goodIn_app (goodIn_r _ [13, 14, 10] rfl (by decide +kernel)) ggX11_as_X11_within
set_option maxRecDepth 20000 in
theorem ggX11_as_X11_refused : GoodIn wsX11_as wsX11_refused := goodIn_r _ [19, 20, 21, 22, 23, 24, 25, 26, 27, 28, 29, 30] rfl (by decide +kernel)
set_option maxRecDepth 20000 in
theorem gX11_as_X11_refused : GoodIn wsX11_as (wsV RX11 79 RX11 yX11_refused wsX11_refused) := goodIn_app (goodIn_r _ [16, 17, 18, 10] rfl (by decide +kernel)) ggX11_as_X11_refused
theorem dX11_as_0 : decode cX11_as 0 = .ok (.aload_n 0, 1) := by decide +kernel
theorem dX11_as_1 : decode cX11_as 1 = .ok (.iload_n 1, 1) := by decide +kernel
theorem dX11_as_2 : decode cX11_as 2 = .ok (.invokevirtual 128, 3) := by decide +kernel
theorem dX11_as_5 : decode cX11_as 5 = .ok (.ifCond .eq 13, 3) := by decide +kernel
theorem dX11_as_8 : decode cX11_as 8 = .ok (.iload_n 2, 1) := by decide +kernel
theorem dX11_as_9 : decode cX11_as 9 = .ok (.iconst 0, 1) := by decide +kernel
theorem dX11_as_10 : decode cX11_as 10 = .ok (.bipush 6, 2) := by decide +kernel
theorem dX11_as_12 : decode cX11_as 12 = .ok (.invokestatic 74, 3) := by decide +kernel
theorem dX11_as_15 : decode cX11_as 15 = .ok (.ifCond .ne 10, 3) := by decide +kernel
theorem dX11_as_18 : decode cX11_as 18 = .ok (.aload_n 0, 1) := by decide +kernel
theorem dX11_as_19 : decode cX11_as 19 = .ok (.ldc 78, 2) := by decide +kernel
theorem dX11_as_21 : decode cX11_as 21 = .ok (.invokevirtual 79, 3) := by decide +kernel
theorem dX11_as_24 : decode cX11_as 24 = .ok (.ireturn, 1) := by decide +kernel
theorem dX11_as_25 : decode cX11_as 25 = .ok (.aload_n 0, 1) := by decide +kernel
theorem dX11_as_26 : decode cX11_as 26 = .ok (.getfield 39, 3) := by decide +kernel
theorem dX11_as_29 : decode cX11_as 29 = .ok (.getfield 115, 3) := by decide +kernel
theorem dX11_as_32 : decode cX11_as 32 = .ok (.iload_n 1, 1) := by decide +kernel
theorem dX11_as_33 : decode cX11_as 33 = .ok (.iaload, 1) := by decide +kernel
theorem dX11_as_34 : decode cX11_as 34 = .ok (.istore_n 3, 1) := by decide +kernel
theorem dX11_as_35 : decode cX11_as 35 = .ok (.iconst 0, 1) := by decide +kernel
theorem dX11_as_36 : decode cX11_as 36 = .ok (.istore 4, 2) := by decide +kernel
theorem dX11_as_38 : decode cX11_as 38 = .ok (.iload 4, 2) := by decide +kernel
theorem dX11_as_40 : decode cX11_as 40 = .ok (.bipush 7, 2) := by decide +kernel
theorem dX11_as_42 : decode cX11_as 42 = .ok (.if_icmp .ge 34, 3) := by decide +kernel
theorem dX11_as_45 : decode cX11_as 45 = .ok (.iload_n 3, 1) := by decide +kernel
theorem dX11_as_46 : decode cX11_as 46 = .ok (.ifCond .lt 30, 3) := by decide +kernel
theorem dX11_as_49 : decode cX11_as 49 = .ok (.iload_n 3, 1) := by decide +kernel
theorem dX11_as_50 : decode cX11_as 50 = .ok (.iload_n 2, 1) := by decide +kernel
theorem dX11_as_51 : decode cX11_as 51 = .ok (.if_icmp .ne 13, 3) := by decide +kernel
theorem dX11_as_54 : decode cX11_as 54 = .ok (.aload_n 0, 1) := by decide +kernel
theorem dX11_as_55 : decode cX11_as 55 = .ok (.getfield 39, 3) := by decide +kernel
theorem dX11_as_58 : decode cX11_as 58 = .ok (.getfield 118, 3) := by decide +kernel
theorem dX11_as_61 : decode cX11_as 61 = .ok (.iload_n 1, 1) := by decide +kernel
theorem dX11_as_62 : decode cX11_as 62 = .ok (.iaload, 1) := by decide +kernel
theorem dX11_as_63 : decode cX11_as 63 = .ok (.ireturn, 1) := by decide +kernel
theorem dX11_as_64 : decode cX11_as 64 = .ok (.getstatic 145, 3) := by decide +kernel
theorem dX11_as_67 : decode cX11_as 67 = .ok (.iload_n 3, 1) := by decide +kernel
theorem dX11_as_68 : decode cX11_as 68 = .ok (.iaload, 1) := by decide +kernel
theorem dX11_as_69 : decode cX11_as 69 = .ok (.istore_n 3, 1) := by decide +kernel
theorem dX11_as_70 : decode cX11_as 70 = .ok (.iinc 4 1, 3) := by decide +kernel
theorem dX11_as_73 : decode cX11_as 73 = .ok (.goto (-35), 3) := by decide +kernel
theorem dX11_as_76 : decode cX11_as 76 = .ok (.aload_n 0, 1) := by decide +kernel
theorem dX11_as_77 : decode cX11_as 77 = .ok (.ldc 148, 2) := by decide +kernel
theorem dX11_as_79 : decode cX11_as 79 = .ok (.invokevirtual 79, 3) := by decide +kernel
theorem dX11_as_82 : decode cX11_as 82 = .ok (.ireturn, 1) := by decide +kernel
set_option maxRecDepth 20000 in
theorem ggX11_feed_X11_within : GoodIn wsX11_feed wsX11_within := goodIn_r _ [9] rfl (by decide +kernel)
set_option maxRecDepth 20000 in
theorem gX11_feed_X11_within : GoodIn wsX11_feed (va_wsS RX11 74 yX11_within wsX11_within) := goodIn_app (goodIn_r _ [6, 7, 8] rfl (by decide +kernel)) ggX11_feed_X11_within
set_option maxRecDepth 20000 in
theorem ggX11_feed_X11_refused : GoodIn wsX11_feed wsX11_refused := goodIn_r _ [13, 14, 15, 16, 17, 18, 19, 20, 21, 22, 23, 24] rfl (by decide +kernel)
set_option maxRecDepth 20000 in
theorem gX11_feed_X11_refused : GoodIn wsX11_feed (wsV RX11 79 RX11 yX11_refused wsX11_refused) := goodIn_app (goodIn_r _ [10, 11, 12, 8] rfl (by decide +kernel)) ggX11_feed_X11_refused
theorem dX11_feed_0 : decode cX11_feed 0 = .ok (.iload_n 3, 1) := by decide +kernel
theorem dX11_feed_1 : decode cX11_feed 1 = .ok (.iconst 1, 1) := by decide +kernel
theorem dX11_feed_2 : decode cX11_feed 2 = .ok (.bipush 8, 2) := by decide +kernel
theorem dX11_feed_4 : decode cX11_feed 4 = .ok (.invokestatic 74, 3) := by decide +kernel
theorem dX11_feed_7 : decode cX11_feed 7 = .ok (.ifCond .ne 10, 3) := by decide +kernel
theorem dX11_feed_10 : decode cX11_feed 10 = .ok (.aload_n 0, 1) := by decide +kernel
theorem dX11_feed_11 : decode cX11_feed 11 = .ok (.ldc 78, 2) := by decide +kernel
theorem dX11_feed_13 : decode cX11_feed 13 = .ok (.invokevirtual 79, 3) := by decide +kernel
theorem dX11_feed_16 : decode cX11_feed 16 = .ok (.ireturn, 1) := by decide +kernel
theorem dX11_feed_17 : decode cX11_feed 17 = .ok (.aload_n 0, 1) := by decide +kernel
theorem dX11_feed_18 : decode cX11_feed 18 = .ok (.getfield 39, 3) := by decide +kernel
theorem dX11_feed_21 : decode cX11_feed 21 = .ok (.getfield 149, 3) := by decide +kernel
theorem dX11_feed_24 : decode cX11_feed 24 = .ok (.bipush 50, 2) := by decide +kernel
theorem dX11_feed_26 : decode cX11_feed 26 = .ok (.iload_n 3, 1) := by decide +kernel
theorem dX11_feed_27 : decode cX11_feed 27 = .ok (.isub, 1) := by decide +kernel
theorem dX11_feed_28 : decode cX11_feed 28 = .ok (.if_icmp .le 10, 3) := by decide +kernel
theorem dX11_feed_31 : decode cX11_feed 31 = .ok (.aload_n 0, 1) := by decide +kernel
theorem dX11_feed_32 : decode cX11_feed 32 = .ok (.ldc 114, 2) := by decide +kernel
theorem dX11_feed_34 : decode cX11_feed 34 = .ok (.invokevirtual 79, 3) := by decide +kernel
theorem dX11_feed_37 : decode cX11_feed 37 = .ok (.ireturn, 1) := by decide +kernel
theorem dX11_feed_38 : decode cX11_feed 38 = .ok (.iconst 0, 1) := by decide +kernel
theorem dX11_feed_39 : decode cX11_feed 39 = .ok (.istore 4, 2) := by decide +kernel
theorem dX11_feed_41 : decode cX11_feed 41 = .ok (.iload 4, 2) := by decide +kernel
theorem dX11_feed_43 : decode cX11_feed 43 = .ok (.iload_n 3, 1) := by decide +kernel
theorem dX11_feed_44 : decode cX11_feed 44 = .ok (.if_icmp .ge 49, 3) := by decide +kernel
theorem dX11_feed_47 : decode cX11_feed 47 = .ok (.aload_n 0, 1) := by decide +kernel
theorem dX11_feed_48 : decode cX11_feed 48 = .ok (.getfield 39, 3) := by decide +kernel
theorem dX11_feed_51 : decode cX11_feed 51 = .ok (.getfield 152, 3) := by decide +kernel
theorem dX11_feed_54 : decode cX11_feed 54 = .ok (.aload_n 0, 1) := by decide +kernel
theorem dX11_feed_55 : decode cX11_feed 55 = .ok (.getfield 39, 3) := by decide +kernel
theorem dX11_feed_58 : decode cX11_feed 58 = .ok (.getfield 149, 3) := by decide +kernel
theorem dX11_feed_61 : decode cX11_feed 61 = .ok (.lload_n 1, 1) := by decide +kernel
theorem dX11_feed_62 : decode cX11_feed 62 = .ok (.bipush 8, 2) := by decide +kernel
theorem dX11_feed_64 : decode cX11_feed 64 = .ok (.iload 4, 2) := by decide +kernel
theorem dX11_feed_66 : decode cX11_feed 66 = .ok (.imul, 1) := by decide +kernel
theorem dX11_feed_67 : decode cX11_feed 67 = .ok (.lushr, 1) := by decide +kernel
theorem dX11_feed_68 : decode cX11_feed 68 = .ok (.l2i, 1) := by decide +kernel
theorem dX11_feed_69 : decode cX11_feed 69 = .ok (.sipush 255, 3) := by decide +kernel
theorem dX11_feed_72 : decode cX11_feed 72 = .ok (.iand, 1) := by decide +kernel
theorem dX11_feed_73 : decode cX11_feed 73 = .ok (.iastore, 1) := by decide +kernel
theorem dX11_feed_74 : decode cX11_feed 74 = .ok (.aload_n 0, 1) := by decide +kernel
theorem dX11_feed_75 : decode cX11_feed 75 = .ok (.getfield 39, 3) := by decide +kernel
theorem dX11_feed_78 : decode cX11_feed 78 = .ok (.dup, 1) := by decide +kernel
theorem dX11_feed_79 : decode cX11_feed 79 = .ok (.getfield 149, 3) := by decide +kernel
theorem dX11_feed_82 : decode cX11_feed 82 = .ok (.iconst 1, 1) := by decide +kernel
theorem dX11_feed_83 : decode cX11_feed 83 = .ok (.iadd, 1) := by decide +kernel
theorem dX11_feed_84 : decode cX11_feed 84 = .ok (.putfield 149, 3) := by decide +kernel
theorem dX11_feed_87 : decode cX11_feed 87 = .ok (.iinc 4 1, 3) := by decide +kernel
theorem dX11_feed_90 : decode cX11_feed 90 = .ok (.goto (-49), 3) := by decide +kernel
theorem dX11_feed_93 : decode cX11_feed 93 = .ok (.aload_n 0, 1) := by decide +kernel
theorem dX11_feed_94 : decode cX11_feed 94 = .ok (.getfield 39, 3) := by decide +kernel
theorem dX11_feed_97 : decode cX11_feed 97 = .ok (.getfield 149, 3) := by decide +kernel
theorem dX11_feed_100 : decode cX11_feed 100 = .ok (.ireturn, 1) := by decide +kernel
set_option maxRecDepth 20000 in
theorem ggX11_text_X11_isUse : GoodIn wsX11_text wsX11_isUse := goodIn_r _ [13, 14, 15, 12, 16] rfl (by decide +kernel)
set_option maxRecDepth 20000 in
theorem gX11_text_X11_isUse : GoodIn wsX11_text (va_wsS RX11 155 yX11_isUse wsX11_isUse) := goodIn_app (goodIn_r _ [10, 11, 12] rfl (by decide +kernel)) ggX11_text_X11_isUse
set_option maxRecDepth 20000 in
theorem ggX11_text_X11_refused : GoodIn wsX11_text wsX11_refused := goodIn_r _ [20, 21, 22, 192, 193, 194, 195, 196, 197, 198, 199, 200] rfl (by decide +kernel)
set_option maxRecDepth 20000 in
theorem gX11_text_X11_refused : GoodIn wsX11_text (wsV RX11 79 RX11 yX11_refused wsX11_refused) := goodIn_app (goodIn_r _ [17, 18, 19, 12] rfl (by decide +kernel)) ggX11_text_X11_refused
set_option maxRecDepth 20000 in
theorem ggX11_text_X9_init : GoodIn wsX11_text wsX9_init := goodIn_r _ [25, 26, 27, 28, 29, 30, 31, 32, 33, 34, 35, 36, 37, 38, 39, 40, 41, 42, 43, 44, 45, 46, 47, 48, 49, 50, 51, 52, 53, 54, 55, 56, 4, 57, 58, 59, 60, 61, 62, 63, 64, 65, 66, 67, 68, 69, 70, 71, 72, 73, 74, 75, 76, 77, 78, 79, 80, 81, 82, 83, 84, 85, 86, 87, 88, 89, 90, 91, 92, 93, 94, 95, 96, 97, 98, 99, 100, 101, 102, 103, 104, 105, 106, 107, 108, 109, 110, 111, 112, 113, 114, 115, 116, 117, 118, 119, 120, 121, 122, 123, 124, 125, 126, 127, 128, 129, 130, 131, 132, 133, 134, 135, 136, 137, 138, 139, 140, 141, 142, 143, 144, 145, 146, 147, 148, 149, 150, 151, 152, 153, 154, 155, 156, 157, 158, 159, 160, 161, 162, 163, 164, 165, 166, 167, 168, 169, 170, 171, 172, 173, 174, 175, 176, 177, 178, 179, 180, 181, 182, 183, 184, 185, 186, 187, 188, 189, 190, 191] rfl (by decide +kernel)
set_option maxRecDepth 20000 in
theorem gX11_text_X9_init : GoodIn wsX11_text (wsX9_init) := ggX11_text_X9_init
theorem dX11_text_0 : decode cX11_text 0 = .ok (.iload_n 1, 1) := by decide +kernel
theorem dX11_text_1 : decode cX11_text 1 = .ok (.invokestatic 155, 3) := by decide +kernel
theorem dX11_text_4 : decode cX11_text 4 = .ok (.ifCond .ne 10, 3) := by decide +kernel
theorem dX11_text_7 : decode cX11_text 7 = .ok (.aload_n 0, 1) := by decide +kernel
theorem dX11_text_8 : decode cX11_text 8 = .ok (.ldc 78, 2) := by decide +kernel
theorem dX11_text_10 : decode cX11_text 10 = .ok (.invokevirtual 79, 3) := by decide +kernel
theorem dX11_text_13 : decode cX11_text 13 = .ok (.ireturn, 1) := by decide +kernel
theorem dX11_text_14 : decode cX11_text 14 = .ok (.new 158, 3) := by decide +kernel
theorem dX11_text_17 : decode cX11_text 17 = .ok (.dup, 1) := by decide +kernel
theorem dX11_text_18 : decode cX11_text 18 = .ok (.aload_n 0, 1) := by decide +kernel
theorem dX11_text_19 : decode cX11_text 19 = .ok (.getfield 39, 3) := by decide +kernel
theorem dX11_text_22 : decode cX11_text 22 = .ok (.getfield 152, 3) := by decide +kernel
theorem dX11_text_25 : decode cX11_text 25 = .ok (.aload_n 0, 1) := by decide +kernel
theorem dX11_text_26 : decode cX11_text 26 = .ok (.getfield 39, 3) := by decide +kernel
theorem dX11_text_29 : decode cX11_text 29 = .ok (.getfield 149, 3) := by decide +kernel
theorem dX11_text_32 : decode cX11_text 32 = .ok (.iload_n 1, 1) := by decide +kernel
theorem dX11_text_33 : decode cX11_text 33 = .ok (.ifCond .ne 8, 3) := by decide +kernel
theorem dX11_text_36 : decode cX11_text 36 = .ok (.ldc 160, 2) := by decide +kernel
theorem dX11_text_38 : decode cX11_text 38 = .ok (.goto 5, 3) := by decide +kernel
theorem dX11_text_41 : decode cX11_text 41 = .ok (.ldc 162, 2) := by decide +kernel
theorem dX11_text_43 : decode cX11_text 43 = .ok (.invokespecial 164, 3) := by decide +kernel
theorem dX11_text_46 : decode cX11_text 46 = .ok (.astore_n 2, 1) := by decide +kernel
theorem dX11_text_47 : decode cX11_text 47 = .ok (.aload_n 0, 1) := by decide +kernel
theorem dX11_text_48 : decode cX11_text 48 = .ok (.getfield 39, 3) := by decide +kernel
theorem dX11_text_51 : decode cX11_text 51 = .ok (.iconst 0, 1) := by decide +kernel
theorem dX11_text_52 : decode cX11_text 52 = .ok (.putfield 149, 3) := by decide +kernel
theorem dX11_text_55 : decode cX11_text 55 = .ok (.aload_n 2, 1) := by decide +kernel
theorem dX11_text_56 : decode cX11_text 56 = .ok (.getfield 167, 3) := by decide +kernel
theorem dX11_text_59 : decode cX11_text 59 = .ok (.ifCond .lt 11, 3) := by decide +kernel
theorem dX11_text_62 : decode cX11_text 62 = .ok (.bipush (-10), 2) := by decide +kernel
theorem dX11_text_64 : decode cX11_text 64 = .ok (.aload_n 2, 1) := by decide +kernel
theorem dX11_text_65 : decode cX11_text 65 = .ok (.getfield 167, 3) := by decide +kernel
theorem dX11_text_68 : decode cX11_text 68 = .ok (.isub, 1) := by decide +kernel
theorem dX11_text_69 : decode cX11_text 69 = .ok (.ireturn, 1) := by decide +kernel
theorem dX11_text_70 : decode cX11_text 70 = .ok (.aload_n 0, 1) := by decide +kernel
theorem dX11_text_71 : decode cX11_text 71 = .ok (.getfield 39, 3) := by decide +kernel
theorem dX11_text_74 : decode cX11_text 74 = .ok (.getfield 170, 3) := by decide +kernel
theorem dX11_text_77 : decode cX11_text 77 = .ok (.iload_n 1, 1) := by decide +kernel
theorem dX11_text_78 : decode cX11_text 78 = .ok (.aload_n 2, 1) := by decide +kernel
theorem dX11_text_79 : decode cX11_text 79 = .ok (.aastore, 1) := by decide +kernel
theorem dX11_text_80 : decode cX11_text 80 = .ok (.iconst 1, 1) := by decide +kernel
theorem dX11_text_81 : decode cX11_text 81 = .ok (.ireturn, 1) := by decide +kernel
set_option maxRecDepth 20000 in
theorem ggX11_law_X11_isUse : GoodIn wsX11_law wsX11_isUse := goodIn_r _ [6, 7, 8, 5, 9] rfl (by decide +kernel)
set_option maxRecDepth 20000 in
theorem gX11_law_X11_isUse : GoodIn wsX11_law (va_wsS RX11 155 yX11_isUse wsX11_isUse) := goodIn_app (goodIn_r _ [3, 4, 5] rfl (by decide +kernel)) ggX11_law_X11_isUse
set_option maxRecDepth 20000 in
theorem ggX11_law_X3_given : GoodIn wsX11_law wsX3_given := goodIn_r _ [14, 15, 16, 17, 18, 19, 20, 21, 22, 23, 24, 25, 26, 27, 28, 29, 30, 31, 32, 33, 49, 50, 51, 52, 53, 54, 55, 56, 57, 58, 59, 60, 61, 62, 63, 64, 65, 66, 67, 68, 69, 70, 71, 72, 73] rfl (by decide +kernel)
set_option maxRecDepth 20000 in
theorem gX11_law_X3_given : GoodIn wsX11_law (wsV RX11 174 RX3 yX3_given wsX3_given) := goodIn_app (goodIn_r _ [10, 11, 12, 13] rfl (by decide +kernel)) ggX11_law_X3_given
set_option maxRecDepth 20000 in
theorem ggX11_law_X11_refused : GoodIn wsX11_law wsX11_refused := goodIn_r _ [37, 38, 39, 40, 41, 42, 43, 44, 45, 46, 47, 48] rfl (by decide +kernel)
set_option maxRecDepth 20000 in
theorem gX11_law_X11_refused : GoodIn wsX11_law (wsV RX11 79 RX11 yX11_refused wsX11_refused) := goodIn_app (goodIn_r _ [34, 35, 36, 5] rfl (by decide +kernel)) ggX11_law_X11_refused
theorem dX11_law_0 : decode cX11_law 0 = .ok (.iload_n 1, 1) := by decide +kernel
theorem dX11_law_1 : decode cX11_law 1 = .ok (.invokestatic 155, 3) := by decide +kernel
theorem dX11_law_4 : decode cX11_law 4 = .ok (.ifCond .eq 18, 3) := by decide +kernel
theorem dX11_law_7 : decode cX11_law 7 = .ok (.aload_n 0, 1) := by decide +kernel
theorem dX11_law_8 : decode cX11_law 8 = .ok (.getfield 39, 3) := by decide +kernel
theorem dX11_law_11 : decode cX11_law 11 = .ok (.iload_n 1, 1) := by decide +kernel
theorem dX11_law_12 : decode cX11_law 12 = .ok (.iload_n 2, 1) := by decide +kernel
theorem dX11_law_13 : decode cX11_law 13 = .ok (.iload_n 3, 1) := by decide +kernel
theorem dX11_law_14 : decode cX11_law 14 = .ok (.iload 4, 2) := by decide +kernel
theorem dX11_law_16 : decode cX11_law 16 = .ok (.invokevirtual 174, 3) := by decide +kernel
theorem dX11_law_19 : decode cX11_law 19 = .ok (.goto 9, 3) := by decide +kernel
theorem dX11_law_22 : decode cX11_law 22 = .ok (.aload_n 0, 1) := by decide +kernel
theorem dX11_law_23 : decode cX11_law 23 = .ok (.ldc 78, 2) := by decide +kernel
theorem dX11_law_25 : decode cX11_law 25 = .ok (.invokevirtual 79, 3) := by decide +kernel
theorem dX11_law_28 : decode cX11_law 28 = .ok (.ireturn, 1) := by decide +kernel
set_option maxRecDepth 20000 in
theorem ggX11_hours_X11_within : GoodIn wsX11_hours wsX11_within := goodIn_r _ [9] rfl (by decide +kernel)
set_option maxRecDepth 20000 in
theorem gX11_hours_X11_within : GoodIn wsX11_hours (va_wsS RX11 74 yX11_within wsX11_within) := goodIn_app (goodIn_r _ [6, 7, 8] rfl (by decide +kernel)) ggX11_hours_X11_within
set_option maxRecDepth 20000 in
theorem ggX11_hours_X11_refused : GoodIn wsX11_hours wsX11_refused := goodIn_r _ [13, 14, 15, 195, 196, 197, 198, 199, 200, 201, 202, 203] rfl (by decide +kernel)
set_option maxRecDepth 20000 in
theorem gX11_hours_X11_refused : GoodIn wsX11_hours (wsV RX11 79 RX11 yX11_refused wsX11_refused) := goodIn_app (goodIn_r _ [10, 11, 12, 8] rfl (by decide +kernel)) ggX11_hours_X11_refused
set_option maxRecDepth 20000 in
theorem ggX11_hours_X3_passHours : GoodIn wsX11_hours wsX3_passHours := goodIn_r _ [20, 21, 22, 23, 24, 25, 26, 19, 27, 28, 29, 30, 31, 32, 33, 34, 35, 36, 37, 38, 39, 40, 41, 42, 43, 44, 45, 46, 7, 8, 9, 47, 48, 49, 50, 51, 52, 53, 54, 55, 56, 57, 58, 59, 60, 61, 62, 63, 64, 65, 66, 67, 68, 69, 70, 71, 72, 73, 74, 75, 76, 77, 78, 79, 80, 81, 82, 83, 84, 85, 86, 87, 88, 89, 90, 91, 92, 93, 94, 95, 96, 97, 98, 99, 100, 101, 102, 103, 104, 105, 106, 107, 108, 109, 110, 111, 112, 113, 114, 115, 116, 117, 118, 119, 120, 121, 122, 123, 124, 125, 126, 127, 128, 129, 130, 131, 132, 133, 134, 135, 136, 137, 138, 139, 140, 141, 142, 143, 144, 145, 146, 147, 148, 149, 150, 151, 152, 153, 154, 155, 156, 157, 158, 159, 160, 161, 162, 163, 164, 165, 166, 167, 168, 169, 170, 171, 172, 173, 174, 175, 176, 177, 178, 179, 180, 181, 182, 183, 184, 185, 186, 187, 188, 189, 190, 191, 192, 193, 194, 204, 205, 206, 207, 208, 209, 210, 211, 212, 213, 214, 215, 216, 217, 218, 219, 220, 221, 222, 223, 224, 225, 226, 227, 228] rfl (by decide +kernel)
set_option maxRecDepth 20000 in
theorem gX11_hours_X3_passHours : GoodIn wsX11_hours (wsV RX11 182 RX3 yX3_passHours wsX3_passHours) := goodIn_app (goodIn_r _ [16, 17, 18, 19] rfl (by decide +kernel)) ggX11_hours_X3_passHours
theorem dX11_hours_0 : decode cX11_hours 0 = .ok (.iload_n 1, 1) := by decide +kernel
theorem dX11_hours_1 : decode cX11_hours 1 = .ok (.iconst 1, 1) := by decide +kernel
theorem dX11_hours_2 : decode cX11_hours 2 = .ok (.bipush 60, 2) := by decide +kernel
theorem dX11_hours_4 : decode cX11_hours 4 = .ok (.invokestatic 74, 3) := by decide +kernel
theorem dX11_hours_7 : decode cX11_hours 7 = .ok (.ifCond .ne 10, 3) := by decide +kernel
theorem dX11_hours_10 : decode cX11_hours 10 = .ok (.aload_n 0, 1) := by decide +kernel
theorem dX11_hours_11 : decode cX11_hours 11 = .ok (.ldc 78, 2) := by decide +kernel
theorem dX11_hours_13 : decode cX11_hours 13 = .ok (.invokevirtual 79, 3) := by decide +kernel
theorem dX11_hours_16 : decode cX11_hours 16 = .ok (.ireturn, 1) := by decide +kernel
theorem dX11_hours_17 : decode cX11_hours 17 = .ok (.aload_n 0, 1) := by decide +kernel
theorem dX11_hours_18 : decode cX11_hours 18 = .ok (.getfield 39, 3) := by decide +kernel
theorem dX11_hours_21 : decode cX11_hours 21 = .ok (.getfield 178, 3) := by decide +kernel
theorem dX11_hours_24 : decode cX11_hours 24 = .ok (.sipush 9999, 3) := by decide +kernel
theorem dX11_hours_27 : decode cX11_hours 27 = .ok (.iload_n 1, 1) := by decide +kernel
theorem dX11_hours_28 : decode cX11_hours 28 = .ok (.isub, 1) := by decide +kernel
theorem dX11_hours_29 : decode cX11_hours 29 = .ok (.if_icmp .le 10, 3) := by decide +kernel
theorem dX11_hours_32 : decode cX11_hours 32 = .ok (.aload_n 0, 1) := by decide +kernel
theorem dX11_hours_33 : decode cX11_hours 33 = .ok (.ldc 181, 2) := by decide +kernel
theorem dX11_hours_35 : decode cX11_hours 35 = .ok (.invokevirtual 79, 3) := by decide +kernel
theorem dX11_hours_38 : decode cX11_hours 38 = .ok (.ireturn, 1) := by decide +kernel
theorem dX11_hours_39 : decode cX11_hours 39 = .ok (.aload_n 0, 1) := by decide +kernel
theorem dX11_hours_40 : decode cX11_hours 40 = .ok (.getfield 39, 3) := by decide +kernel
theorem dX11_hours_43 : decode cX11_hours 43 = .ok (.iload_n 1, 1) := by decide +kernel
theorem dX11_hours_44 : decode cX11_hours 44 = .ok (.invokevirtual 182, 3) := by decide +kernel
theorem dX11_hours_47 : decode cX11_hours 47 = .ok (.aload_n 0, 1) := by decide +kernel
theorem dX11_hours_48 : decode cX11_hours 48 = .ok (.getfield 39, 3) := by decide +kernel
theorem dX11_hours_51 : decode cX11_hours 51 = .ok (.getfield 86, 3) := by decide +kernel
theorem dX11_hours_54 : decode cX11_hours 54 = .ok (.ireturn, 1) := by decide +kernel
set_option maxRecDepth 20000 in
theorem ggX11_loose_X11_within : GoodIn wsX11_loose wsX11_within := goodIn_r _ [9] rfl (by decide +kernel)
set_option maxRecDepth 20000 in
theorem gX11_loose_X11_within : GoodIn wsX11_loose (va_wsS RX11 74 yX11_within wsX11_within) := goodIn_app (goodIn_r _ [6, 7, 8] rfl (by decide +kernel)) ggX11_loose_X11_within
set_option maxRecDepth 20000 in
theorem ggX11_loose_X11_refused : GoodIn wsX11_loose wsX11_refused := goodIn_r _ [13, 14, 15, 205, 206, 207, 208, 209, 210, 211, 212, 213] rfl (by decide +kernel)
set_option maxRecDepth 20000 in
theorem gX11_loose_X11_refused : GoodIn wsX11_loose (wsV RX11 79 RX11 yX11_refused wsX11_refused) := goodIn_app (goodIn_r _ [10, 11, 12, 8] rfl (by decide +kernel)) ggX11_loose_X11_refused
set_option maxRecDepth 20000 in
theorem ggX11_loose_X3_drawSwallow : GoodIn wsX11_loose wsX3_drawSwallow := goodIn_r _ [20, 21, 22, 23, 24, 25, 19, 26, 27, 28, 29, 30, 31, 32, 33, 34, 35, 36, 37, 214, 215, 216, 217, 218, 219, 220, 221, 222, 223, 224, 225, 226, 227, 228, 229, 230, 231] rfl (by decide +kernel)
set_option maxRecDepth 20000 in
theorem gX11_loose_X3_drawSwallow : GoodIn wsX11_loose (wsV RX11 186 RX3 yX3_drawSwallow wsX3_drawSwallow) := goodIn_app (goodIn_r _ [16, 17, 18, 19] rfl (by decide +kernel)) ggX11_loose_X3_drawSwallow
set_option maxRecDepth 20000 in
theorem ggX11_loose_X3_passHours : GoodIn wsX11_loose wsX3_passHours := goodIn_r _ [41, 42, 43, 27, 44, 45, 46, 19, 47, 21, 22, 48, 49, 50, 51, 52, 23, 24, 25, 26, 28, 29, 30, 31, 53, 54, 55, 56, 7, 8, 9, 57, 58, 59, 60, 61, 62, 63, 64, 65, 66, 67, 68, 69, 70, 71, 72, 73, 74, 75, 76, 77, 78, 79, 80, 81, 82, 83, 84, 85, 86, 87, 88, 89, 90, 91, 92, 93, 94, 95, 96, 97, 98, 99, 100, 101, 102, 103, 104, 105, 106, 107, 108, 109, 110, 111, 112, 113, 114, 115, 116, 117, 118, 119, 120, 121, 122, 123, 124, 125, 126, 127, 128, 129, 130, 131, 132, 133, 134, 135, 136, 137, 138, 139, 140, 141, 142, 143, 144, 145, 146, 147, 148, 149, 150, 151, 152, 153, 154, 155, 156, 157, 158, 159, 160, 161, 162, 163, 164, 165, 166, 167, 168, 169, 170, 171, 172, 173, 174, 175, 176, 177, 178, 179, 180, 181, 182, 183, 184, 185, 186, 187, 188, 189, 190, 191, 192, 193, 194, 195, 196, 197, 198, 199, 200, 201, 202, 203, 204, 214, 215, 216, 217, 218, 219, 220, 221, 222, 223, 224, 225, 226, 227, 228, 229, 230, 231, 232, 233, 234, 235, 236, 237, 238] rfl (by decide +kernel)
set_option maxRecDepth 20000 in
theorem gX11_loose_X3_passHours : GoodIn wsX11_loose (wsV RX11 182 RX3 yX3_passHours wsX3_passHours) := goodIn_app (goodIn_r _ [38, 39, 40, 19] rfl (by decide +kernel)) ggX11_loose_X3_passHours
theorem dX11_loose_0 : decode cX11_loose 0 = .ok (.iload_n 1, 1) := by decide +kernel
theorem dX11_loose_1 : decode cX11_loose 1 = .ok (.iconst 1, 1) := by decide +kernel
theorem dX11_loose_2 : decode cX11_loose 2 = .ok (.bipush 40, 2) := by decide +kernel
theorem dX11_loose_4 : decode cX11_loose 4 = .ok (.invokestatic 74, 3) := by decide +kernel
theorem dX11_loose_7 : decode cX11_loose 7 = .ok (.ifCond .ne 10, 3) := by decide +kernel
theorem dX11_loose_10 : decode cX11_loose 10 = .ok (.aload_n 0, 1) := by decide +kernel
theorem dX11_loose_11 : decode cX11_loose 11 = .ok (.ldc 78, 2) := by decide +kernel
theorem dX11_loose_13 : decode cX11_loose 13 = .ok (.invokevirtual 79, 3) := by decide +kernel
theorem dX11_loose_16 : decode cX11_loose 16 = .ok (.ireturn, 1) := by decide +kernel
theorem dX11_loose_17 : decode cX11_loose 17 = .ok (.aload_n 0, 1) := by decide +kernel
theorem dX11_loose_18 : decode cX11_loose 18 = .ok (.getfield 39, 3) := by decide +kernel
theorem dX11_loose_21 : decode cX11_loose 21 = .ok (.getfield 178, 3) := by decide +kernel
theorem dX11_loose_24 : decode cX11_loose 24 = .ok (.sipush 9999, 3) := by decide +kernel
theorem dX11_loose_27 : decode cX11_loose 27 = .ok (.iload_n 1, 1) := by decide +kernel
theorem dX11_loose_28 : decode cX11_loose 28 = .ok (.isub, 1) := by decide +kernel
theorem dX11_loose_29 : decode cX11_loose 29 = .ok (.if_icmp .le 10, 3) := by decide +kernel
theorem dX11_loose_32 : decode cX11_loose 32 = .ok (.aload_n 0, 1) := by decide +kernel
theorem dX11_loose_33 : decode cX11_loose 33 = .ok (.ldc 181, 2) := by decide +kernel
theorem dX11_loose_35 : decode cX11_loose 35 = .ok (.invokevirtual 79, 3) := by decide +kernel
theorem dX11_loose_38 : decode cX11_loose 38 = .ok (.ireturn, 1) := by decide +kernel
theorem dX11_loose_39 : decode cX11_loose 39 = .ok (.iconst 0, 1) := by decide +kernel
theorem dX11_loose_40 : decode cX11_loose 40 = .ok (.istore_n 2, 1) := by decide +kernel
theorem dX11_loose_41 : decode cX11_loose 41 = .ok (.iload_n 2, 1) := by decide +kernel
theorem dX11_loose_42 : decode cX11_loose 42 = .ok (.iload_n 1, 1) := by decide +kernel
theorem dX11_loose_43 : decode cX11_loose 43 = .ok (.if_icmp .ge 24, 3) := by decide +kernel
theorem dX11_loose_46 : decode cX11_loose 46 = .ok (.aload_n 0, 1) := by decide +kernel
theorem dX11_loose_47 : decode cX11_loose 47 = .ok (.getfield 39, 3) := by decide +kernel
theorem dX11_loose_50 : decode cX11_loose 50 = .ok (.invokevirtual 186, 3) := by decide +kernel
theorem dX11_loose_53 : decode cX11_loose 53 = .ok (.aload_n 0, 1) := by decide +kernel
theorem dX11_loose_54 : decode cX11_loose 54 = .ok (.getfield 39, 3) := by decide +kernel
theorem dX11_loose_57 : decode cX11_loose 57 = .ok (.iconst 1, 1) := by decide +kernel
theorem dX11_loose_58 : decode cX11_loose 58 = .ok (.invokevirtual 182, 3) := by decide +kernel
theorem dX11_loose_61 : decode cX11_loose 61 = .ok (.iinc 2 1, 3) := by decide +kernel
theorem dX11_loose_64 : decode cX11_loose 64 = .ok (.goto (-23), 3) := by decide +kernel
theorem dX11_loose_67 : decode cX11_loose 67 = .ok (.aload_n 0, 1) := by decide +kernel
theorem dX11_loose_68 : decode cX11_loose 68 = .ok (.getfield 39, 3) := by decide +kernel
theorem dX11_loose_71 : decode cX11_loose 71 = .ok (.getfield 86, 3) := by decide +kernel
theorem dX11_loose_74 : decode cX11_loose 74 = .ok (.ireturn, 1) := by decide +kernel
set_option maxRecDepth 20000 in
theorem ggX11_then_X11_isBehind : GoodIn wsX11_then wsX11_isBehind := goodIn_r _ [8, 9, 10, 7, 11] rfl (by decide +kernel)
set_option maxRecDepth 20000 in
theorem gX11_then_X11_isBehind : GoodIn wsX11_then (va_wsS RX11 189 yX11_isBehind wsX11_isBehind) := goodIn_app (goodIn_r _ [5, 6, 7] rfl (by decide +kernel)) ggX11_then_X11_isBehind
set_option maxRecDepth 20000 in
theorem ggX11_then_X11_isSpoon : GoodIn wsX11_then wsX11_isSpoon := goodIn_r _ [15, 3, 16, 9, 10, 7, 11, 211, 212, 213, 214, 215, 216, 217, 218, 219, 220, 221, 222, 223, 224, 225, 226, 227, 228, 229, 230, 231, 232, 233, 234, 235, 236, 237] rfl (by decide +kernel)
set_option maxRecDepth 20000 in
theorem gX11_then_X11_isSpoon : GoodIn wsX11_then (wsV RX11 128 RX11 yX11_isSpoon wsX11_isSpoon) := goodIn_app (goodIn_r _ [12, 13, 14, 7] rfl (by decide +kernel)) ggX11_then_X11_isSpoon
set_option maxRecDepth 20000 in
theorem ggX11_then_X11_within : GoodIn wsX11_then wsX11_within := goodIn_r _ [11] rfl (by decide +kernel)
set_option maxRecDepth 20000 in
theorem gX11_then_X11_within : GoodIn wsX11_then (va_wsS RX11 74 yX11_within wsX11_within) := goodIn_app (goodIn_r _ [9, 10, 7] rfl (by decide +kernel)) ggX11_then_X11_within
set_option maxRecDepth 20000 in
theorem ggX11_then_X11_refused : GoodIn wsX11_then wsX11_refused := goodIn_r _ [20, 21, 22, 211, 212, 213, 214, 215, 216, 217, 218, 219] rfl (by decide +kernel)
set_option maxRecDepth 20000 in
theorem gX11_then_X11_refused : GoodIn wsX11_then (wsV RX11 79 RX11 yX11_refused wsX11_refused) := goodIn_app (goodIn_r _ [17, 18, 19, 7] rfl (by decide +kernel)) ggX11_then_X11_refused
set_option maxRecDepth 20000 in
theorem ggX11_then_X3_follow : GoodIn wsX11_then wsX3_follow := goodIn_r _ [27, 28, 29, 30, 31, 32, 33, 34, 35, 36, 37, 38, 39, 40, 41, 42, 43, 220, 221, 222, 223, 224, 225, 226, 227, 228, 229, 230, 231, 232, 233, 234, 235, 236, 237] rfl (by decide +kernel)
set_option maxRecDepth 20000 in
theorem gX11_then_X3_follow : GoodIn wsX11_then (wsV RX11 192 RX3 yX3_follow wsX3_follow) := goodIn_app (goodIn_r _ [23, 24, 25, 26] rfl (by decide +kernel)) ggX11_then_X3_follow
set_option maxRecDepth 20000 in
theorem ggX11_then_X3_passHours : GoodIn wsX11_then wsX3_passHours := goodIn_r _ [47, 38, 42, 34, 48, 49, 50, 26, 51, 35, 36, 52, 39, 40, 28, 41, 53, 54, 55, 56, 57, 58, 59, 60, 61, 62, 63, 64, 10, 7, 11, 65, 66, 67, 68, 69, 70, 71, 72, 73, 74, 75, 76, 77, 78, 79, 80, 81, 82, 83, 84, 85, 86, 87, 88, 89, 90, 91, 92, 93, 94, 95, 96, 97, 98, 99, 100, 101, 102, 103, 104, 105, 43, 106, 107, 108, 109, 110, 111, 112, 113, 114, 115, 116, 117, 118, 119, 120, 121, 122, 123, 124, 125, 126, 127, 128, 129, 130, 131, 132, 133, 134, 135, 37, 33, 136, 137, 138, 139, 140, 141, 142, 143, 144, 145, 146, 147, 148, 149, 150, 151, 152, 153, 154, 155, 156, 157, 158, 159, 160, 161, 162, 163, 164, 165, 166, 167, 168, 169, 170, 171, 172, 173, 174, 175, 176, 177, 178, 179, 180, 181, 182, 183, 184, 185, 186, 187, 188, 189, 190, 191, 192, 193, 194, 195, 196, 197, 198, 199, 200, 201, 202, 203, 204, 205, 206, 207, 208, 209, 220, 221, 222, 223, 224, 225, 226, 227, 228, 229, 230, 231, 232, 233, 234, 235, 236, 237, 238, 239, 240, 241, 242, 243, 244] rfl (by decide +kernel)
set_option maxRecDepth 20000 in
theorem gX11_then_X3_passHours : GoodIn wsX11_then (wsV RX11 182 RX3 yX3_passHours wsX3_passHours) := goodIn_app (goodIn_r _ [44, 45, 46, 26] rfl (by decide +kernel)) ggX11_then_X3_passHours
set_option maxRecDepth 20000 in
theorem ggX11_then_X3_wordsOn : GoodIn wsX11_then wsX3_wordsOn := goodIn_r _ [143, 42, 144, 145, 26, 146, 124, 125, 126, 220, 221, 222, 223, 224, 225, 226, 227, 228, 229, 230, 231, 232, 233, 234, 235, 236, 237] rfl (by decide +kernel)
set_option maxRecDepth 20000 in
theorem gX11_then_X3_wordsOn : GoodIn wsX11_then (wsV RX11 131 RX3 yX3_wordsOn wsX3_wordsOn) := goodIn_app (goodIn_r _ [210, 141, 142, 26] rfl (by decide +kernel)) ggX11_then_X3_wordsOn
theorem dX11_then_0 : decode cX11_then 0 = .ok (.iload_n 1, 1) := by decide +kernel
theorem dX11_then_1 : decode cX11_then 1 = .ok (.invokestatic 189, 3) := by decide +kernel
theorem dX11_then_4 : decode cX11_then 4 = .ok (.ifCond .eq 20, 3) := by decide +kernel
theorem dX11_then_7 : decode cX11_then 7 = .ok (.aload_n 0, 1) := by decide +kernel
theorem dX11_then_8 : decode cX11_then 8 = .ok (.iload_n 2, 1) := by decide +kernel
theorem dX11_then_9 : decode cX11_then 9 = .ok (.invokevirtual 128, 3) := by decide +kernel
theorem dX11_then_12 : decode cX11_then 12 = .ok (.ifCond .eq 12, 3) := by decide +kernel
theorem dX11_then_15 : decode cX11_then 15 = .ok (.iload_n 3, 1) := by decide +kernel
theorem dX11_then_16 : decode cX11_then 16 = .ok (.iconst 0, 1) := by decide +kernel
theorem dX11_then_17 : decode cX11_then 17 = .ok (.iconst 1, 1) := by decide +kernel
theorem dX11_then_18 : decode cX11_then 18 = .ok (.invokestatic 74, 3) := by decide +kernel
theorem dX11_then_21 : decode cX11_then 21 = .ok (.ifCond .ne 10, 3) := by decide +kernel
theorem dX11_then_24 : decode cX11_then 24 = .ok (.aload_n 0, 1) := by decide +kernel
theorem dX11_then_25 : decode cX11_then 25 = .ok (.ldc 78, 2) := by decide +kernel
theorem dX11_then_27 : decode cX11_then 27 = .ok (.invokevirtual 79, 3) := by decide +kernel
theorem dX11_then_30 : decode cX11_then 30 = .ok (.ireturn, 1) := by decide +kernel
theorem dX11_then_31 : decode cX11_then 31 = .ok (.aload_n 0, 1) := by decide +kernel
theorem dX11_then_32 : decode cX11_then 32 = .ok (.getfield 43, 3) := by decide +kernel
theorem dX11_then_35 : decode cX11_then 35 = .ok (.aload_n 0, 1) := by decide +kernel
theorem dX11_then_36 : decode cX11_then 36 = .ok (.getfield 39, 3) := by decide +kernel
theorem dX11_then_39 : decode cX11_then 39 = .ok (.invokevirtual 192, 3) := by decide +kernel
theorem dX11_then_42 : decode cX11_then 42 = .ok (.aload_n 0, 1) := by decide +kernel
theorem dX11_then_43 : decode cX11_then 43 = .ok (.getfield 43, 3) := by decide +kernel
theorem dX11_then_46 : decode cX11_then 46 = .ok (.iload_n 1, 1) := by decide +kernel
theorem dX11_then_47 : decode cX11_then 47 = .ok (.invokevirtual 182, 3) := by decide +kernel
theorem dX11_then_50 : decode cX11_then 50 = .ok (.iload_n 3, 1) := by decide +kernel
theorem dX11_then_51 : decode cX11_then 51 = .ok (.ifCond .ne 15, 3) := by decide +kernel
theorem dX11_then_54 : decode cX11_then 54 = .ok (.aload_n 0, 1) := by decide +kernel
theorem dX11_then_55 : decode cX11_then 55 = .ok (.getfield 43, 3) := by decide +kernel
theorem dX11_then_58 : decode cX11_then 58 = .ok (.getfield 121, 3) := by decide +kernel
theorem dX11_then_61 : decode cX11_then 61 = .ok (.iload_n 2, 1) := by decide +kernel
theorem dX11_then_62 : decode cX11_then 62 = .ok (.iaload, 1) := by decide +kernel
theorem dX11_then_63 : decode cX11_then 63 = .ok (.goto 11, 3) := by decide +kernel
theorem dX11_then_66 : decode cX11_then 66 = .ok (.aload_n 0, 1) := by decide +kernel
theorem dX11_then_67 : decode cX11_then 67 = .ok (.getfield 43, 3) := by decide +kernel
theorem dX11_then_70 : decode cX11_then 70 = .ok (.iload_n 2, 1) := by decide +kernel
theorem dX11_then_71 : decode cX11_then 71 = .ok (.invokevirtual 131, 3) := by decide +kernel
theorem dX11_then_74 : decode cX11_then 74 = .ok (.ireturn, 1) := by decide +kernel
set_option maxRecDepth 20000 in
theorem ggX11_spreads_X11_isBehind : GoodIn wsX11_spreads wsX11_isBehind := goodIn_r _ [8, 9, 10, 7, 11] rfl (by decide +kernel)
set_option maxRecDepth 20000 in
theorem gX11_spreads_X11_isBehind : GoodIn wsX11_spreads (va_wsS RX11 189 yX11_isBehind wsX11_isBehind) := goodIn_app (goodIn_r _ [5, 6, 7] rfl (by decide +kernel)) ggX11_spreads_X11_isBehind
set_option maxRecDepth 20000 in
theorem ggX11_spreads_X11_refused : GoodIn wsX11_spreads wsX11_refused := goodIn_r _ [15, 16, 17, 206, 207, 208, 209, 210, 211, 212, 213, 214] rfl (by decide +kernel)
set_option maxRecDepth 20000 in
theorem gX11_spreads_X11_refused : GoodIn wsX11_spreads (wsV RX11 79 RX11 yX11_refused wsX11_refused) := goodIn_app (goodIn_r _ [12, 13, 14, 7] rfl (by decide +kernel)) ggX11_spreads_X11_refused
set_option maxRecDepth 20000 in
theorem ggX11_spreads_X3_follow : GoodIn wsX11_spreads wsX3_follow := goodIn_r _ [22, 23, 24, 25, 26, 27, 28, 29, 30, 31, 32, 33, 34, 35, 36, 37, 38, 215, 216, 217, 218, 219, 220, 221, 222, 223, 224, 225, 226, 227, 228, 229, 230, 231, 232] rfl (by decide +kernel)
set_option maxRecDepth 20000 in
theorem gX11_spreads_X3_follow : GoodIn wsX11_spreads (wsV RX11 192 RX3 yX3_follow wsX3_follow) := goodIn_app (goodIn_r _ [18, 19, 20, 21] rfl (by decide +kernel)) ggX11_spreads_X3_follow
set_option maxRecDepth 20000 in
theorem ggX11_spreads_X3_passHours : GoodIn wsX11_spreads wsX3_passHours := goodIn_r _ [42, 33, 37, 29, 43, 44, 45, 21, 46, 30, 31, 47, 34, 35, 23, 36, 48, 49, 50, 51, 52, 53, 54, 55, 56, 57, 58, 59, 10, 7, 11, 60, 61, 62, 63, 64, 65, 66, 67, 68, 69, 70, 71, 72, 73, 74, 75, 76, 77, 78, 79, 80, 81, 82, 83, 84, 85, 86, 87, 88, 89, 90, 91, 92, 93, 94, 95, 96, 97, 98, 99, 100, 38, 101, 102, 103, 104, 105, 106, 107, 108, 109, 110, 111, 112, 113, 114, 115, 116, 117, 118, 119, 120, 121, 122, 123, 124, 125, 126, 127, 128, 129, 130, 32, 28, 131, 132, 133, 134, 135, 136, 137, 138, 139, 140, 141, 142, 143, 144, 145, 146, 147, 148, 149, 150, 151, 152, 153, 154, 155, 156, 157, 158, 159, 160, 161, 162, 163, 164, 165, 166, 167, 168, 169, 170, 171, 172, 173, 174, 175, 176, 177, 178, 179, 180, 181, 182, 183, 184, 185, 186, 187, 188, 189, 190, 191, 192, 193, 194, 195, 196, 197, 198, 199, 200, 201, 202, 203, 204, 215, 216, 217, 218, 219, 220, 221, 222, 223, 224, 225, 226, 227, 228, 229, 230, 231, 232, 233, 234, 235, 236, 237, 238, 239] rfl (by decide +kernel)
set_option maxRecDepth 20000 in
theorem gX11_spreads_X3_passHours : GoodIn wsX11_spreads (wsV RX11 182 RX3 yX3_passHours wsX3_passHours) := goodIn_app (goodIn_r _ [39, 40, 41, 21] rfl (by decide +kernel)) ggX11_spreads_X3_passHours
set_option maxRecDepth 20000 in
theorem ggX11_spreads_J6_bitCount_0f7a4 : GoodIn wsX11_spreads wsJ6_bitCount_0f7a4 := goodIn_r _ [145, 146, 147, 148] rfl (by decide +kernel)
set_option maxRecDepth 20000 in
theorem gX11_spreads_J6_bitCount_0f7a4 : GoodIn wsX11_spreads (va_wsS RX11 196 yJ6_bitCount_0f7a4 wsJ6_bitCount_0f7a4) := goodIn_app (goodIn_r _ [205, 143, 144] rfl (by decide +kernel)) ggX11_spreads_J6_bitCount_0f7a4
theorem dX11_spreads_0 : decode cX11_spreads 0 = .ok (.iload_n 1, 1) := by decide +kernel
theorem dX11_spreads_1 : decode cX11_spreads 1 = .ok (.invokestatic 189, 3) := by decide +kernel
theorem dX11_spreads_4 : decode cX11_spreads 4 = .ok (.ifCond .ne 10, 3) := by decide +kernel
theorem dX11_spreads_7 : decode cX11_spreads 7 = .ok (.aload_n 0, 1) := by decide +kernel
theorem dX11_spreads_8 : decode cX11_spreads 8 = .ok (.ldc 78, 2) := by decide +kernel
theorem dX11_spreads_10 : decode cX11_spreads 10 = .ok (.invokevirtual 79, 3) := by decide +kernel
theorem dX11_spreads_13 : decode cX11_spreads 13 = .ok (.ireturn, 1) := by decide +kernel
theorem dX11_spreads_14 : decode cX11_spreads 14 = .ok (.aload_n 0, 1) := by decide +kernel
theorem dX11_spreads_15 : decode cX11_spreads 15 = .ok (.getfield 43, 3) := by decide +kernel
theorem dX11_spreads_18 : decode cX11_spreads 18 = .ok (.aload_n 0, 1) := by decide +kernel
theorem dX11_spreads_19 : decode cX11_spreads 19 = .ok (.getfield 39, 3) := by decide +kernel
theorem dX11_spreads_22 : decode cX11_spreads 22 = .ok (.invokevirtual 192, 3) := by decide +kernel
theorem dX11_spreads_25 : decode cX11_spreads 25 = .ok (.aload_n 0, 1) := by decide +kernel
theorem dX11_spreads_26 : decode cX11_spreads 26 = .ok (.getfield 43, 3) := by decide +kernel
theorem dX11_spreads_29 : decode cX11_spreads 29 = .ok (.iload_n 1, 1) := by decide +kernel
theorem dX11_spreads_30 : decode cX11_spreads 30 = .ok (.invokevirtual 182, 3) := by decide +kernel
theorem dX11_spreads_33 : decode cX11_spreads 33 = .ok (.aload_n 0, 1) := by decide +kernel
theorem dX11_spreads_34 : decode cX11_spreads 34 = .ok (.getfield 43, 3) := by decide +kernel
theorem dX11_spreads_37 : decode cX11_spreads 37 = .ok (.getfield 86, 3) := by decide +kernel
theorem dX11_spreads_40 : decode cX11_spreads 40 = .ok (.invokestatic 196, 3) := by decide +kernel
theorem dX11_spreads_43 : decode cX11_spreads 43 = .ok (.ireturn, 1) := by decide +kernel
set_option maxRecDepth 20000 in
theorem ggX11_when_X11_isWord : GoodIn wsX11_when wsX11_isWord := goodIn_r _ [8, 9, 10, 7, 11] rfl (by decide +kernel)
set_option maxRecDepth 20000 in
theorem gX11_when_X11_isWord : GoodIn wsX11_when (va_wsS RX11 70 yX11_isWord wsX11_isWord) := goodIn_app (goodIn_r _ [5, 6, 7] rfl (by decide +kernel)) ggX11_when_X11_isWord
set_option maxRecDepth 20000 in
theorem ggX11_when_X11_refused : GoodIn wsX11_when wsX11_refused := goodIn_r _ [15, 16, 17, 209, 210, 211, 212, 213, 214, 215, 216, 217] rfl (by decide +kernel)
set_option maxRecDepth 20000 in
theorem gX11_when_X11_refused : GoodIn wsX11_when (wsV RX11 79 RX11 yX11_refused wsX11_refused) := goodIn_app (goodIn_r _ [12, 13, 14, 7] rfl (by decide +kernel)) ggX11_when_X11_refused
set_option maxRecDepth 20000 in
theorem ggX11_when_X3_follow : GoodIn wsX11_when wsX3_follow := goodIn_r _ [22, 23, 24, 25, 26, 27, 28, 29, 30, 31, 32, 33, 34, 35, 36, 37, 38, 218, 219, 220, 221, 222, 223, 224, 225, 226, 227, 228, 229, 230, 231, 232, 233, 234, 235] rfl (by decide +kernel)
set_option maxRecDepth 20000 in
theorem gX11_when_X3_follow : GoodIn wsX11_when (wsV RX11 192 RX3 yX3_follow wsX3_follow) := goodIn_app (goodIn_r _ [18, 19, 20, 21] rfl (by decide +kernel)) ggX11_when_X3_follow
set_option maxRecDepth 20000 in
theorem ggX11_when_X3_knows : GoodIn wsX11_when wsX3_knows := goodIn_r _ [42, 28, 218, 219, 220, 221, 222, 223, 224, 225, 226, 227, 228, 229, 230, 231, 232, 233, 234, 235] rfl (by decide +kernel)
set_option maxRecDepth 20000 in
theorem gX11_when_X3_knows : GoodIn wsX11_when (wsV RX11 201 RX3 yX3_knows wsX3_knows) := goodIn_app (goodIn_r _ [39, 40, 41, 21] rfl (by decide +kernel)) ggX11_when_X3_knows
set_option maxRecDepth 20000 in
theorem ggX11_when_X3_passHours : GoodIn wsX11_when wsX3_passHours := goodIn_r _ [46, 33, 37, 29, 47, 48, 49, 21, 50, 30, 31, 51, 34, 35, 23, 36, 52, 53, 54, 55, 56, 57, 58, 59, 60, 61, 62, 63, 10, 7, 11, 64, 65, 66, 67, 68, 69, 70, 71, 72, 73, 74, 75, 76, 77, 78, 79, 80, 81, 82, 83, 84, 85, 86, 87, 88, 89, 90, 91, 92, 93, 94, 95, 96, 97, 98, 99, 100, 101, 102, 103, 104, 38, 105, 106, 107, 108, 109, 110, 111, 112, 113, 114, 115, 116, 117, 118, 119, 120, 121, 122, 123, 124, 125, 126, 127, 128, 129, 130, 131, 132, 133, 134, 32, 28, 135, 136, 137, 138, 139, 140, 141, 142, 143, 144, 145, 146, 147, 148, 149, 150, 151, 152, 153, 154, 155, 156, 157, 158, 159, 160, 161, 162, 163, 164, 165, 166, 167, 168, 169, 170, 171, 172, 173, 174, 175, 176, 177, 178, 179, 180, 181, 182, 183, 184, 185, 186, 187, 188, 189, 190, 191, 192, 193, 194, 195, 196, 197, 198, 199, 200, 201, 202, 203, 204, 205, 206, 207, 208, 218, 219, 220, 221, 222, 223, 224, 225, 226, 227, 228, 229, 230, 231, 232, 233, 234, 235, 236, 237, 238, 239, 240, 241, 242] rfl (by decide +kernel)
set_option maxRecDepth 20000 in
theorem gX11_when_X3_passHours : GoodIn wsX11_when (wsV RX11 182 RX3 yX3_passHours wsX3_passHours) := goodIn_app (goodIn_r _ [43, 44, 45, 21] rfl (by decide +kernel)) ggX11_when_X3_passHours
theorem dX11_when_0 : decode cX11_when 0 = .ok (.iload_n 1, 1) := by decide +kernel
theorem dX11_when_1 : decode cX11_when 1 = .ok (.invokestatic 70, 3) := by decide +kernel
theorem dX11_when_4 : decode cX11_when 4 = .ok (.ifCond .ne 10, 3) := by decide +kernel
theorem dX11_when_7 : decode cX11_when 7 = .ok (.aload_n 0, 1) := by decide +kernel
theorem dX11_when_8 : decode cX11_when 8 = .ok (.ldc 78, 2) := by decide +kernel
theorem dX11_when_10 : decode cX11_when 10 = .ok (.invokevirtual 79, 3) := by decide +kernel
theorem dX11_when_13 : decode cX11_when 13 = .ok (.ireturn, 1) := by decide +kernel
theorem dX11_when_14 : decode cX11_when 14 = .ok (.aload_n 0, 1) := by decide +kernel
theorem dX11_when_15 : decode cX11_when 15 = .ok (.getfield 43, 3) := by decide +kernel
theorem dX11_when_18 : decode cX11_when 18 = .ok (.aload_n 0, 1) := by decide +kernel
theorem dX11_when_19 : decode cX11_when 19 = .ok (.getfield 39, 3) := by decide +kernel
theorem dX11_when_22 : decode cX11_when 22 = .ok (.invokevirtual 192, 3) := by decide +kernel
theorem dX11_when_25 : decode cX11_when 25 = .ok (.iconst 0, 1) := by decide +kernel
theorem dX11_when_26 : decode cX11_when 26 = .ok (.istore_n 2, 1) := by decide +kernel
theorem dX11_when_27 : decode cX11_when 27 = .ok (.iload_n 2, 1) := by decide +kernel
theorem dX11_when_28 : decode cX11_when 28 = .ok (.bipush 60, 2) := by decide +kernel
theorem dX11_when_30 : decode cX11_when 30 = .ok (.if_icmp .gt 30, 3) := by decide +kernel
theorem dX11_when_33 : decode cX11_when 33 = .ok (.aload_n 0, 1) := by decide +kernel
theorem dX11_when_34 : decode cX11_when 34 = .ok (.getfield 43, 3) := by decide +kernel
theorem dX11_when_37 : decode cX11_when 37 = .ok (.iload_n 1, 1) := by decide +kernel
theorem dX11_when_38 : decode cX11_when 38 = .ok (.invokevirtual 201, 3) := by decide +kernel
theorem dX11_when_41 : decode cX11_when 41 = .ok (.ifCond .eq 5, 3) := by decide +kernel
theorem dX11_when_44 : decode cX11_when 44 = .ok (.iload_n 2, 1) := by decide +kernel
theorem dX11_when_45 : decode cX11_when 45 = .ok (.ireturn, 1) := by decide +kernel
theorem dX11_when_46 : decode cX11_when 46 = .ok (.aload_n 0, 1) := by decide +kernel
theorem dX11_when_47 : decode cX11_when 47 = .ok (.getfield 43, 3) := by decide +kernel
theorem dX11_when_50 : decode cX11_when 50 = .ok (.iconst 1, 1) := by decide +kernel
theorem dX11_when_51 : decode cX11_when 51 = .ok (.invokevirtual 182, 3) := by decide +kernel
theorem dX11_when_54 : decode cX11_when 54 = .ok (.iinc 2 1, 3) := by decide +kernel
theorem dX11_when_57 : decode cX11_when 57 = .ok (.goto (-30), 3) := by decide +kernel
theorem dX11_when_60 : decode cX11_when 60 = .ok (.aload_n 0, 1) := by decide +kernel
theorem dX11_when_61 : decode cX11_when 61 = .ok (.ldc 204, 2) := by decide +kernel
theorem dX11_when_63 : decode cX11_when 63 = .ok (.invokevirtual 79, 3) := by decide +kernel
theorem dX11_when_66 : decode cX11_when 66 = .ok (.ireturn, 1) := by decide +kernel
set_option maxRecDepth 20000 in
theorem ggX11_lasts_X11_isSpoon : GoodIn wsX11_lasts wsX11_isSpoon := goodIn_r _ [10, 3, 11, 12, 13, 9, 14, 208, 209, 210, 211, 212, 213, 214, 215, 216, 217, 218, 219, 220, 221, 222, 223, 224, 225, 226, 227, 228, 229, 230, 231, 232, 233, 234] rfl (by decide +kernel)
set_option maxRecDepth 20000 in
theorem gX11_lasts_X11_isSpoon : GoodIn wsX11_lasts (wsV RX11 128 RX11 yX11_isSpoon wsX11_isSpoon) := goodIn_app (goodIn_r _ [6, 7, 8, 9] rfl (by decide +kernel)) ggX11_lasts_X11_isSpoon
set_option maxRecDepth 20000 in
theorem ggX11_lasts_X11_refused : GoodIn wsX11_lasts wsX11_refused := goodIn_r _ [18, 19, 20, 208, 209, 210, 211, 212, 213, 214, 215, 216] rfl (by decide +kernel)
set_option maxRecDepth 20000 in
theorem gX11_lasts_X11_refused : GoodIn wsX11_lasts (wsV RX11 79 RX11 yX11_refused wsX11_refused) := goodIn_app (goodIn_r _ [15, 16, 17, 9] rfl (by decide +kernel)) ggX11_lasts_X11_refused
set_option maxRecDepth 20000 in
theorem ggX11_lasts_X3_follow : GoodIn wsX11_lasts wsX3_follow := goodIn_r _ [25, 26, 27, 28, 29, 30, 31, 32, 33, 34, 35, 36, 37, 38, 39, 40, 41, 217, 218, 219, 220, 221, 222, 223, 224, 225, 226, 227, 228, 229, 230, 231, 232, 233, 234] rfl (by decide +kernel)
set_option maxRecDepth 20000 in
theorem gX11_lasts_X3_follow : GoodIn wsX11_lasts (wsV RX11 192 RX3 yX3_follow wsX3_follow) := goodIn_app (goodIn_r _ [21, 22, 23, 24] rfl (by decide +kernel)) ggX11_lasts_X3_follow
set_option maxRecDepth 20000 in
theorem ggX11_lasts_X3_passHours : GoodIn wsX11_lasts wsX3_passHours := goodIn_r _ [45, 36, 40, 32, 46, 47, 48, 24, 49, 33, 34, 50, 37, 38, 26, 39, 51, 52, 53, 54, 55, 56, 57, 58, 59, 60, 61, 62, 13, 9, 14, 63, 64, 65, 66, 67, 68, 69, 70, 71, 72, 73, 74, 75, 76, 77, 78, 79, 80, 81, 82, 83, 84, 85, 86, 87, 88, 89, 90, 91, 92, 93, 94, 95, 96, 97, 98, 99, 100, 101, 102, 103, 41, 104, 105, 106, 107, 108, 109, 110, 111, 112, 113, 114, 115, 116, 117, 118, 119, 120, 121, 122, 123, 124, 125, 126, 127, 128, 129, 130, 131, 132, 133, 35, 31, 134, 135, 136, 137, 138, 139, 140, 141, 142, 143, 144, 145, 146, 147, 148, 149, 150, 151, 152, 153, 154, 155, 156, 157, 158, 159, 160, 161, 162, 163, 164, 165, 166, 167, 168, 169, 170, 171, 172, 173, 174, 175, 176, 177, 178, 179, 180, 181, 182, 183, 184, 185, 186, 187, 188, 189, 190, 191, 192, 193, 194, 195, 196, 197, 198, 199, 200, 201, 202, 203, 204, 205, 206, 207, 217, 218, 219, 220, 221, 222, 223, 224, 225, 226, 227, 228, 229, 230, 231, 232, 233, 234, 235, 236, 237, 238, 239, 240, 241] rfl (by decide +kernel)
set_option maxRecDepth 20000 in
theorem gX11_lasts_X3_passHours : GoodIn wsX11_lasts (wsV RX11 182 RX3 yX3_passHours wsX3_passHours) := goodIn_app (goodIn_r _ [42, 43, 44, 24] rfl (by decide +kernel)) ggX11_lasts_X3_passHours
theorem dX11_lasts_0 : decode cX11_lasts 0 = .ok (.aload_n 0, 1) := by decide +kernel
theorem dX11_lasts_1 : decode cX11_lasts 1 = .ok (.iload_n 1, 1) := by decide +kernel
theorem dX11_lasts_2 : decode cX11_lasts 2 = .ok (.invokevirtual 128, 3) := by decide +kernel
theorem dX11_lasts_5 : decode cX11_lasts 5 = .ok (.ifCond .ne 10, 3) := by decide +kernel
theorem dX11_lasts_8 : decode cX11_lasts 8 = .ok (.aload_n 0, 1) := by decide +kernel
theorem dX11_lasts_9 : decode cX11_lasts 9 = .ok (.ldc 78, 2) := by decide +kernel
theorem dX11_lasts_11 : decode cX11_lasts 11 = .ok (.invokevirtual 79, 3) := by decide +kernel
theorem dX11_lasts_14 : decode cX11_lasts 14 = .ok (.ireturn, 1) := by decide +kernel
theorem dX11_lasts_15 : decode cX11_lasts 15 = .ok (.aload_n 0, 1) := by decide +kernel
theorem dX11_lasts_16 : decode cX11_lasts 16 = .ok (.getfield 43, 3) := by decide +kernel
theorem dX11_lasts_19 : decode cX11_lasts 19 = .ok (.aload_n 0, 1) := by decide +kernel
theorem dX11_lasts_20 : decode cX11_lasts 20 = .ok (.getfield 39, 3) := by decide +kernel
theorem dX11_lasts_23 : decode cX11_lasts 23 = .ok (.invokevirtual 192, 3) := by decide +kernel
theorem dX11_lasts_26 : decode cX11_lasts 26 = .ok (.iconst 0, 1) := by decide +kernel
theorem dX11_lasts_27 : decode cX11_lasts 27 = .ok (.istore_n 2, 1) := by decide +kernel
theorem dX11_lasts_28 : decode cX11_lasts 28 = .ok (.iload_n 2, 1) := by decide +kernel
theorem dX11_lasts_29 : decode cX11_lasts 29 = .ok (.bipush 60, 2) := by decide +kernel
theorem dX11_lasts_31 : decode cX11_lasts 31 = .ok (.if_icmp .gt 31, 3) := by decide +kernel
theorem dX11_lasts_34 : decode cX11_lasts 34 = .ok (.aload_n 0, 1) := by decide +kernel
theorem dX11_lasts_35 : decode cX11_lasts 35 = .ok (.getfield 43, 3) := by decide +kernel
theorem dX11_lasts_38 : decode cX11_lasts 38 = .ok (.getfield 121, 3) := by decide +kernel
theorem dX11_lasts_41 : decode cX11_lasts 41 = .ok (.iload_n 1, 1) := by decide +kernel
theorem dX11_lasts_42 : decode cX11_lasts 42 = .ok (.iaload, 1) := by decide +kernel
theorem dX11_lasts_43 : decode cX11_lasts 43 = .ok (.ifCond .ne 5, 3) := by decide +kernel
theorem dX11_lasts_46 : decode cX11_lasts 46 = .ok (.iload_n 2, 1) := by decide +kernel
theorem dX11_lasts_47 : decode cX11_lasts 47 = .ok (.ireturn, 1) := by decide +kernel
theorem dX11_lasts_48 : decode cX11_lasts 48 = .ok (.aload_n 0, 1) := by decide +kernel
theorem dX11_lasts_49 : decode cX11_lasts 49 = .ok (.getfield 43, 3) := by decide +kernel
theorem dX11_lasts_52 : decode cX11_lasts 52 = .ok (.iconst 1, 1) := by decide +kernel
theorem dX11_lasts_53 : decode cX11_lasts 53 = .ok (.invokevirtual 182, 3) := by decide +kernel
theorem dX11_lasts_56 : decode cX11_lasts 56 = .ok (.iinc 2 1, 3) := by decide +kernel
theorem dX11_lasts_59 : decode cX11_lasts 59 = .ok (.goto (-31), 3) := by decide +kernel
theorem dX11_lasts_62 : decode cX11_lasts 62 = .ok (.aload_n 0, 1) := by decide +kernel
theorem dX11_lasts_63 : decode cX11_lasts 63 = .ok (.ldc 204, 2) := by decide +kernel
theorem dX11_lasts_65 : decode cX11_lasts 65 = .ok (.invokevirtual 79, 3) := by decide +kernel
theorem dX11_lasts_68 : decode cX11_lasts 68 = .ok (.ireturn, 1) := by decide +kernel
set_option maxRecDepth 20000 in
theorem ggX11_silverFor_X11_isSpoon : GoodIn wsX11_silverFor wsX11_isSpoon := goodIn_r _ [10, 3, 11, 12, 13, 9, 14, 211, 212, 213, 214, 215, 216, 217, 218, 219, 220, 221, 222, 223, 224, 225, 226, 227, 228, 229, 230, 231, 232, 233, 234, 235, 236, 237] rfl (by decide +kernel)
set_option maxRecDepth 20000 in
theorem gX11_silverFor_X11_isSpoon : GoodIn wsX11_silverFor (wsV RX11 128 RX11 yX11_isSpoon wsX11_isSpoon) := goodIn_app (goodIn_r _ [6, 7, 8, 9] rfl (by decide +kernel)) ggX11_silverFor_X11_isSpoon
set_option maxRecDepth 20000 in
theorem ggX11_silverFor_X11_isBehind : GoodIn wsX11_silverFor wsX11_isBehind := goodIn_r _ [17, 12, 13, 9, 14] rfl (by decide +kernel)
set_option maxRecDepth 20000 in
theorem gX11_silverFor_X11_isBehind : GoodIn wsX11_silverFor (va_wsS RX11 189 yX11_isBehind wsX11_isBehind) := goodIn_app (goodIn_r _ [15, 16, 9] rfl (by decide +kernel)) ggX11_silverFor_X11_isBehind
set_option maxRecDepth 20000 in
theorem ggX11_silverFor_X11_refused : GoodIn wsX11_silverFor wsX11_refused := goodIn_r _ [21, 22, 23, 211, 212, 213, 214, 215, 216, 217, 218, 219] rfl (by decide +kernel)
set_option maxRecDepth 20000 in
theorem gX11_silverFor_X11_refused : GoodIn wsX11_silverFor (wsV RX11 79 RX11 yX11_refused wsX11_refused) := goodIn_app (goodIn_r _ [18, 19, 20, 9] rfl (by decide +kernel)) ggX11_silverFor_X11_refused
set_option maxRecDepth 20000 in
theorem ggX11_silverFor_X3_follow : GoodIn wsX11_silverFor wsX3_follow := goodIn_r _ [28, 29, 30, 31, 32, 33, 34, 35, 36, 37, 38, 39, 40, 41, 42, 43, 44, 220, 221, 222, 223, 224, 225, 226, 227, 228, 229, 230, 231, 232, 233, 234, 235, 236, 237] rfl (by decide +kernel)
set_option maxRecDepth 20000 in
theorem gX11_silverFor_X3_follow : GoodIn wsX11_silverFor (wsV RX11 192 RX3 yX3_follow wsX3_follow) := goodIn_app (goodIn_r _ [24, 25, 26, 27] rfl (by decide +kernel)) ggX11_silverFor_X3_follow
set_option maxRecDepth 20000 in
theorem ggX11_silverFor_X3_passHours : GoodIn wsX11_silverFor wsX3_passHours := goodIn_r _ [48, 39, 43, 35, 49, 50, 51, 27, 52, 36, 37, 53, 40, 41, 29, 42, 54, 55, 56, 57, 58, 59, 60, 61, 62, 63, 64, 65, 13, 9, 14, 66, 67, 68, 69, 70, 71, 72, 73, 74, 75, 76, 77, 78, 79, 80, 81, 82, 83, 84, 85, 86, 87, 88, 89, 90, 91, 92, 93, 94, 95, 96, 97, 98, 99, 100, 101, 102, 103, 104, 105, 106, 44, 107, 108, 109, 110, 111, 112, 113, 114, 115, 116, 117, 118, 119, 120, 121, 122, 123, 124, 125, 126, 127, 128, 129, 130, 131, 132, 133, 134, 135, 136, 38, 34, 137, 138, 139, 140, 141, 142, 143, 144, 145, 146, 147, 148, 149, 150, 151, 152, 153, 154, 155, 156, 157, 158, 159, 160, 161, 162, 163, 164, 165, 166, 167, 168, 169, 170, 171, 172, 173, 174, 175, 176, 177, 178, 179, 180, 181, 182, 183, 184, 185, 186, 187, 188, 189, 190, 191, 192, 193, 194, 195, 196, 197, 198, 199, 200, 201, 202, 203, 204, 205, 206, 207, 208, 209, 210, 220, 221, 222, 223, 224, 225, 226, 227, 228, 229, 230, 231, 232, 233, 234, 235, 236, 237, 238, 239, 240, 241, 242, 243, 244] rfl (by decide +kernel)
set_option maxRecDepth 20000 in
theorem gX11_silverFor_X3_passHours : GoodIn wsX11_silverFor (wsV RX11 182 RX3 yX3_passHours wsX3_passHours) := goodIn_app (goodIn_r _ [45, 46, 47, 27] rfl (by decide +kernel)) ggX11_silverFor_X3_passHours
theorem dX11_silverFor_0 : decode cX11_silverFor 0 = .ok (.aload_n 0, 1) := by decide +kernel
theorem dX11_silverFor_1 : decode cX11_silverFor 1 = .ok (.iload_n 1, 1) := by decide +kernel
theorem dX11_silverFor_2 : decode cX11_silverFor 2 = .ok (.invokevirtual 128, 3) := by decide +kernel
theorem dX11_silverFor_5 : decode cX11_silverFor 5 = .ok (.ifCond .eq 10, 3) := by decide +kernel
theorem dX11_silverFor_8 : decode cX11_silverFor 8 = .ok (.iload_n 2, 1) := by decide +kernel
theorem dX11_silverFor_9 : decode cX11_silverFor 9 = .ok (.invokestatic 189, 3) := by decide +kernel
theorem dX11_silverFor_12 : decode cX11_silverFor 12 = .ok (.ifCond .ne 10, 3) := by decide +kernel
theorem dX11_silverFor_15 : decode cX11_silverFor 15 = .ok (.aload_n 0, 1) := by decide +kernel
theorem dX11_silverFor_16 : decode cX11_silverFor 16 = .ok (.ldc 78, 2) := by decide +kernel
theorem dX11_silverFor_18 : decode cX11_silverFor 18 = .ok (.invokevirtual 79, 3) := by decide +kernel
theorem dX11_silverFor_21 : decode cX11_silverFor 21 = .ok (.ireturn, 1) := by decide +kernel
theorem dX11_silverFor_22 : decode cX11_silverFor 22 = .ok (.iconst 1, 1) := by decide +kernel
theorem dX11_silverFor_23 : decode cX11_silverFor 23 = .ok (.istore_n 3, 1) := by decide +kernel
theorem dX11_silverFor_24 : decode cX11_silverFor 24 = .ok (.iload_n 3, 1) := by decide +kernel
theorem dX11_silverFor_25 : decode cX11_silverFor 25 = .ok (.bipush 99, 2) := by decide +kernel
theorem dX11_silverFor_27 : decode cX11_silverFor 27 = .ok (.if_icmp .gt 52, 3) := by decide +kernel
theorem dX11_silverFor_30 : decode cX11_silverFor 30 = .ok (.aload_n 0, 1) := by decide +kernel
theorem dX11_silverFor_31 : decode cX11_silverFor 31 = .ok (.getfield 43, 3) := by decide +kernel
theorem dX11_silverFor_34 : decode cX11_silverFor 34 = .ok (.aload_n 0, 1) := by decide +kernel
theorem dX11_silverFor_35 : decode cX11_silverFor 35 = .ok (.getfield 39, 3) := by decide +kernel
theorem dX11_silverFor_38 : decode cX11_silverFor 38 = .ok (.invokevirtual 192, 3) := by decide +kernel
theorem dX11_silverFor_41 : decode cX11_silverFor 41 = .ok (.aload_n 0, 1) := by decide +kernel
theorem dX11_silverFor_42 : decode cX11_silverFor 42 = .ok (.getfield 43, 3) := by decide +kernel
theorem dX11_silverFor_45 : decode cX11_silverFor 45 = .ok (.getfield 121, 3) := by decide +kernel
theorem dX11_silverFor_48 : decode cX11_silverFor 48 = .ok (.iload_n 1, 1) := by decide +kernel
theorem dX11_silverFor_49 : decode cX11_silverFor 49 = .ok (.iload_n 3, 1) := by decide +kernel
theorem dX11_silverFor_50 : decode cX11_silverFor 50 = .ok (.iastore, 1) := by decide +kernel
theorem dX11_silverFor_51 : decode cX11_silverFor 51 = .ok (.aload_n 0, 1) := by decide +kernel
theorem dX11_silverFor_52 : decode cX11_silverFor 52 = .ok (.getfield 43, 3) := by decide +kernel
theorem dX11_silverFor_55 : decode cX11_silverFor 55 = .ok (.iload_n 2, 1) := by decide +kernel
theorem dX11_silverFor_56 : decode cX11_silverFor 56 = .ok (.invokevirtual 182, 3) := by decide +kernel
theorem dX11_silverFor_59 : decode cX11_silverFor 59 = .ok (.aload_n 0, 1) := by decide +kernel
theorem dX11_silverFor_60 : decode cX11_silverFor 60 = .ok (.getfield 43, 3) := by decide +kernel
theorem dX11_silverFor_63 : decode cX11_silverFor 63 = .ok (.getfield 121, 3) := by decide +kernel
theorem dX11_silverFor_66 : decode cX11_silverFor 66 = .ok (.iload_n 1, 1) := by decide +kernel
theorem dX11_silverFor_67 : decode cX11_silverFor 67 = .ok (.iaload, 1) := by decide +kernel
theorem dX11_silverFor_68 : decode cX11_silverFor 68 = .ok (.ifCond .le 5, 3) := by decide +kernel
theorem dX11_silverFor_71 : decode cX11_silverFor 71 = .ok (.iload_n 3, 1) := by decide +kernel
theorem dX11_silverFor_72 : decode cX11_silverFor 72 = .ok (.ireturn, 1) := by decide +kernel
theorem dX11_silverFor_73 : decode cX11_silverFor 73 = .ok (.iinc 3 1, 3) := by decide +kernel
theorem dX11_silverFor_76 : decode cX11_silverFor 76 = .ok (.goto (-52), 3) := by decide +kernel
theorem dX11_silverFor_79 : decode cX11_silverFor 79 = .ok (.aload_n 0, 1) := by decide +kernel
theorem dX11_silverFor_80 : decode cX11_silverFor 80 = .ok (.ldc 204, 2) := by decide +kernel
theorem dX11_silverFor_82 : decode cX11_silverFor 82 = .ok (.invokevirtual 79, 3) := by decide +kernel
theorem dX11_silverFor_85 : decode cX11_silverFor 85 = .ok (.ireturn, 1) := by decide +kernel
set_option maxRecDepth 20000 in
theorem ggX11_washFor_X11_within : GoodIn wsX11_washFor wsX11_within := goodIn_r _ [9] rfl (by decide +kernel)
set_option maxRecDepth 20000 in
theorem gX11_washFor_X11_within : GoodIn wsX11_washFor (va_wsS RX11 74 yX11_within wsX11_within) := goodIn_app (goodIn_r _ [6, 7, 8] rfl (by decide +kernel)) ggX11_washFor_X11_within
set_option maxRecDepth 20000 in
theorem ggX11_washFor_X11_isBehind : GoodIn wsX11_washFor wsX11_isBehind := goodIn_r _ [12, 6, 7, 8, 9] rfl (by decide +kernel)
set_option maxRecDepth 20000 in
theorem gX11_washFor_X11_isBehind : GoodIn wsX11_washFor (va_wsS RX11 189 yX11_isBehind wsX11_isBehind) := goodIn_app (goodIn_r _ [10, 11, 8] rfl (by decide +kernel)) ggX11_washFor_X11_isBehind
set_option maxRecDepth 20000 in
theorem ggX11_washFor_X11_refused : GoodIn wsX11_washFor wsX11_refused := goodIn_r _ [16, 17, 18, 207, 208, 209, 210, 211, 212, 213, 214, 215] rfl (by decide +kernel)
set_option maxRecDepth 20000 in
theorem gX11_washFor_X11_refused : GoodIn wsX11_washFor (wsV RX11 79 RX11 yX11_refused wsX11_refused) := goodIn_app (goodIn_r _ [13, 14, 15, 8] rfl (by decide +kernel)) ggX11_washFor_X11_refused
set_option maxRecDepth 20000 in
theorem ggX11_washFor_X3_follow : GoodIn wsX11_washFor wsX3_follow := goodIn_r _ [23, 24, 25, 26, 27, 28, 29, 30, 31, 32, 33, 34, 35, 36, 37, 38, 39, 216, 217, 218, 219, 220, 221, 222, 223, 224, 225, 226, 227, 228, 229, 230, 231, 232, 233] rfl (by decide +kernel)
set_option maxRecDepth 20000 in
theorem gX11_washFor_X3_follow : GoodIn wsX11_washFor (wsV RX11 192 RX3 yX3_follow wsX3_follow) := goodIn_app (goodIn_r _ [19, 20, 21, 22] rfl (by decide +kernel)) ggX11_washFor_X3_follow
set_option maxRecDepth 20000 in
theorem ggX11_washFor_X3_passHours : GoodIn wsX11_washFor wsX3_passHours := goodIn_r _ [43, 34, 38, 30, 44, 45, 46, 22, 47, 31, 32, 48, 35, 36, 24, 37, 49, 50, 51, 52, 53, 54, 55, 56, 57, 58, 59, 60, 7, 8, 9, 61, 62, 63, 64, 65, 66, 67, 68, 69, 70, 71, 72, 73, 74, 75, 76, 77, 78, 79, 80, 81, 82, 83, 84, 85, 86, 87, 88, 89, 90, 91, 92, 93, 94, 95, 96, 97, 98, 99, 100, 101, 39, 102, 103, 104, 105, 106, 107, 108, 109, 110, 111, 112, 113, 114, 115, 116, 117, 118, 119, 120, 121, 122, 123, 124, 125, 126, 127, 128, 129, 130, 131, 33, 29, 132, 133, 134, 135, 136, 137, 138, 139, 140, 141, 142, 143, 144, 145, 146, 147, 148, 149, 150, 151, 152, 153, 154, 155, 156, 157, 158, 159, 160, 161, 162, 163, 164, 165, 166, 167, 168, 169, 170, 171, 172, 173, 174, 175, 176, 177, 178, 179, 180, 181, 182, 183, 184, 185, 186, 187, 188, 189, 190, 191, 192, 193, 194, 195, 196, 197, 198, 199, 200, 201, 202, 203, 204, 205, 216, 217, 218, 219, 220, 221, 222, 223, 224, 225, 226, 227, 228, 229, 230, 231, 232, 233, 234, 235, 236, 237, 238, 239, 240] rfl (by decide +kernel)
set_option maxRecDepth 20000 in
theorem gX11_washFor_X3_passHours : GoodIn wsX11_washFor (wsV RX11 182 RX3 yX3_passHours wsX3_passHours) := goodIn_app (goodIn_r _ [40, 41, 42, 22] rfl (by decide +kernel)) ggX11_washFor_X3_passHours
set_option maxRecDepth 20000 in
theorem ggX11_washFor_J6_bitCount_0f7a4 : GoodIn wsX11_washFor wsJ6_bitCount_0f7a4 := goodIn_r _ [146, 147, 148, 149] rfl (by decide +kernel)
set_option maxRecDepth 20000 in
theorem gX11_washFor_J6_bitCount_0f7a4 : GoodIn wsX11_washFor (va_wsS RX11 196 yJ6_bitCount_0f7a4 wsJ6_bitCount_0f7a4) := goodIn_app (goodIn_r _ [206, 144, 145] rfl (by decide +kernel)) ggX11_washFor_J6_bitCount_0f7a4
theorem dX11_washFor_0 : decode cX11_washFor 0 = .ok (.iload_n 1, 1) := by decide +kernel
theorem dX11_washFor_1 : decode cX11_washFor 1 = .ok (.iconst 0, 1) := by decide +kernel
theorem dX11_washFor_2 : decode cX11_washFor 2 = .ok (.iconst 3, 1) := by decide +kernel
theorem dX11_washFor_3 : decode cX11_washFor 3 = .ok (.invokestatic 74, 3) := by decide +kernel
theorem dX11_washFor_6 : decode cX11_washFor 6 = .ok (.ifCond .eq 10, 3) := by decide +kernel
theorem dX11_washFor_9 : decode cX11_washFor 9 = .ok (.iload_n 2, 1) := by decide +kernel
theorem dX11_washFor_10 : decode cX11_washFor 10 = .ok (.invokestatic 189, 3) := by decide +kernel
theorem dX11_washFor_13 : decode cX11_washFor 13 = .ok (.ifCond .ne 10, 3) := by decide +kernel
theorem dX11_washFor_16 : decode cX11_washFor 16 = .ok (.aload_n 0, 1) := by decide +kernel
theorem dX11_washFor_17 : decode cX11_washFor 17 = .ok (.ldc 78, 2) := by decide +kernel
theorem dX11_washFor_19 : decode cX11_washFor 19 = .ok (.invokevirtual 79, 3) := by decide +kernel
theorem dX11_washFor_22 : decode cX11_washFor 22 = .ok (.ireturn, 1) := by decide +kernel
theorem dX11_washFor_23 : decode cX11_washFor 23 = .ok (.iconst (-1), 1) := by decide +kernel
theorem dX11_washFor_24 : decode cX11_washFor 24 = .ok (.istore_n 3, 1) := by decide +kernel
theorem dX11_washFor_25 : decode cX11_washFor 25 = .ok (.bipush 13, 2) := by decide +kernel
theorem dX11_washFor_27 : decode cX11_washFor 27 = .ok (.istore 4, 2) := by decide +kernel
theorem dX11_washFor_29 : decode cX11_washFor 29 = .ok (.iconst (-1), 1) := by decide +kernel
theorem dX11_washFor_30 : decode cX11_washFor 30 = .ok (.istore 5, 2) := by decide +kernel
theorem dX11_washFor_32 : decode cX11_washFor 32 = .ok (.iload 5, 2) := by decide +kernel
theorem dX11_washFor_34 : decode cX11_washFor 34 = .ok (.bipush 8, 2) := by decide +kernel
theorem dX11_washFor_36 : decode cX11_washFor 36 = .ok (.if_icmp .ge 69, 3) := by decide +kernel
theorem dX11_washFor_39 : decode cX11_washFor 39 = .ok (.aload_n 0, 1) := by decide +kernel
theorem dX11_washFor_40 : decode cX11_washFor 40 = .ok (.getfield 43, 3) := by decide +kernel
theorem dX11_washFor_43 : decode cX11_washFor 43 = .ok (.aload_n 0, 1) := by decide +kernel
theorem dX11_washFor_44 : decode cX11_washFor 44 = .ok (.getfield 39, 3) := by decide +kernel
theorem dX11_washFor_47 : decode cX11_washFor 47 = .ok (.invokevirtual 192, 3) := by decide +kernel
theorem dX11_washFor_50 : decode cX11_washFor 50 = .ok (.aload_n 0, 1) := by decide +kernel
theorem dX11_washFor_51 : decode cX11_washFor 51 = .ok (.getfield 43, 3) := by decide +kernel
theorem dX11_washFor_54 : decode cX11_washFor 54 = .ok (.getfield 108, 3) := by decide +kernel
theorem dX11_washFor_57 : decode cX11_washFor 57 = .ok (.iload_n 1, 1) := by decide +kernel
theorem dX11_washFor_58 : decode cX11_washFor 58 = .ok (.iload 5, 2) := by decide +kernel
theorem dX11_washFor_60 : decode cX11_washFor 60 = .ok (.iastore, 1) := by decide +kernel
theorem dX11_washFor_61 : decode cX11_washFor 61 = .ok (.aload_n 0, 1) := by decide +kernel
theorem dX11_washFor_62 : decode cX11_washFor 62 = .ok (.getfield 43, 3) := by decide +kernel
theorem dX11_washFor_65 : decode cX11_washFor 65 = .ok (.iload_n 2, 1) := by decide +kernel
theorem dX11_washFor_66 : decode cX11_washFor 66 = .ok (.invokevirtual 182, 3) := by decide +kernel
theorem dX11_washFor_69 : decode cX11_washFor 69 = .ok (.aload_n 0, 1) := by decide +kernel
theorem dX11_washFor_70 : decode cX11_washFor 70 = .ok (.getfield 43, 3) := by decide +kernel
theorem dX11_washFor_73 : decode cX11_washFor 73 = .ok (.getfield 86, 3) := by decide +kernel
theorem dX11_washFor_76 : decode cX11_washFor 76 = .ok (.invokestatic 196, 3) := by decide +kernel
theorem dX11_washFor_79 : decode cX11_washFor 79 = .ok (.iload 4, 2) := by decide +kernel
theorem dX11_washFor_81 : decode cX11_washFor 81 = .ok (.if_icmp .ge 18, 3) := by decide +kernel
theorem dX11_washFor_84 : decode cX11_washFor 84 = .ok (.aload_n 0, 1) := by decide +kernel
theorem dX11_washFor_85 : decode cX11_washFor 85 = .ok (.getfield 43, 3) := by decide +kernel
theorem dX11_washFor_88 : decode cX11_washFor 88 = .ok (.getfield 86, 3) := by decide +kernel
theorem dX11_washFor_91 : decode cX11_washFor 91 = .ok (.invokestatic 196, 3) := by decide +kernel
theorem dX11_washFor_94 : decode cX11_washFor 94 = .ok (.istore 4, 2) := by decide +kernel
theorem dX11_washFor_96 : decode cX11_washFor 96 = .ok (.iload 5, 2) := by decide +kernel
theorem dX11_washFor_98 : decode cX11_washFor 98 = .ok (.istore_n 3, 1) := by decide +kernel
theorem dX11_washFor_99 : decode cX11_washFor 99 = .ok (.iinc 5 1, 3) := by decide +kernel
theorem dX11_washFor_102 : decode cX11_washFor 102 = .ok (.goto (-70), 3) := by decide +kernel
theorem dX11_washFor_105 : decode cX11_washFor 105 = .ok (.iload_n 3, 1) := by decide +kernel
theorem dX11_washFor_106 : decode cX11_washFor 106 = .ok (.iconst 1, 1) := by decide +kernel
theorem dX11_washFor_107 : decode cX11_washFor 107 = .ok (.iadd, 1) := by decide +kernel
theorem dX11_washFor_108 : decode cX11_washFor 108 = .ok (.ireturn, 1) := by decide +kernel
set_option maxRecDepth 20000 in
theorem ggX11_kindFor_X11_isSpoon : GoodIn wsX11_kindFor wsX11_isSpoon := goodIn_r _ [10, 3, 11, 12, 13, 9, 14, 212, 213, 214, 215, 216, 217, 218, 219, 220, 221, 222, 223, 224, 225, 226, 227, 228, 229, 230, 231, 232, 233, 234, 235, 236, 237, 238] rfl (by decide +kernel)
set_option maxRecDepth 20000 in
theorem gX11_kindFor_X11_isSpoon : GoodIn wsX11_kindFor (wsV RX11 128 RX11 yX11_isSpoon wsX11_isSpoon) := goodIn_app (goodIn_r _ [6, 7, 8, 9] rfl (by decide +kernel)) ggX11_kindFor_X11_isSpoon
set_option maxRecDepth 20000 in
theorem ggX11_kindFor_X11_isBehind : GoodIn wsX11_kindFor wsX11_isBehind := goodIn_r _ [17, 12, 13, 9, 14] rfl (by decide +kernel)
set_option maxRecDepth 20000 in
theorem gX11_kindFor_X11_isBehind : GoodIn wsX11_kindFor (va_wsS RX11 189 yX11_isBehind wsX11_isBehind) := goodIn_app (goodIn_r _ [15, 16, 9] rfl (by decide +kernel)) ggX11_kindFor_X11_isBehind
set_option maxRecDepth 20000 in
theorem ggX11_kindFor_X11_refused : GoodIn wsX11_kindFor wsX11_refused := goodIn_r _ [21, 22, 23, 212, 213, 214, 215, 216, 217, 218, 219, 220] rfl (by decide +kernel)
set_option maxRecDepth 20000 in
theorem gX11_kindFor_X11_refused : GoodIn wsX11_kindFor (wsV RX11 79 RX11 yX11_refused wsX11_refused) := goodIn_app (goodIn_r _ [18, 19, 20, 9] rfl (by decide +kernel)) ggX11_kindFor_X11_refused
set_option maxRecDepth 20000 in
theorem ggX11_kindFor_X3_follow : GoodIn wsX11_kindFor wsX3_follow := goodIn_r _ [28, 29, 30, 31, 32, 33, 34, 35, 36, 37, 38, 39, 40, 41, 42, 43, 44, 221, 222, 223, 224, 225, 226, 227, 228, 229, 230, 231, 232, 233, 234, 235, 236, 237, 238] rfl (by decide +kernel)
set_option maxRecDepth 20000 in
theorem gX11_kindFor_X3_follow : GoodIn wsX11_kindFor (wsV RX11 192 RX3 yX3_follow wsX3_follow) := goodIn_app (goodIn_r _ [24, 25, 26, 27] rfl (by decide +kernel)) ggX11_kindFor_X3_follow
set_option maxRecDepth 20000 in
theorem ggX11_kindFor_X3_passHours : GoodIn wsX11_kindFor wsX3_passHours := goodIn_r _ [48, 39, 43, 35, 49, 50, 51, 27, 52, 36, 37, 53, 40, 41, 29, 42, 54, 55, 56, 57, 58, 59, 60, 61, 62, 63, 64, 65, 13, 9, 14, 66, 67, 68, 69, 70, 71, 72, 73, 74, 75, 76, 77, 78, 79, 80, 81, 82, 83, 84, 85, 86, 87, 88, 89, 90, 91, 92, 93, 94, 95, 96, 97, 98, 99, 100, 101, 102, 103, 104, 105, 106, 44, 107, 108, 109, 110, 111, 112, 113, 114, 115, 116, 117, 118, 119, 120, 121, 122, 123, 124, 125, 126, 127, 128, 129, 130, 131, 132, 133, 134, 135, 136, 38, 34, 137, 138, 139, 140, 141, 142, 143, 144, 145, 146, 147, 148, 149, 150, 151, 152, 153, 154, 155, 156, 157, 158, 159, 160, 161, 162, 163, 164, 165, 166, 167, 168, 169, 170, 171, 172, 173, 174, 175, 176, 177, 178, 179, 180, 181, 182, 183, 184, 185, 186, 187, 188, 189, 190, 191, 192, 193, 194, 195, 196, 197, 198, 199, 200, 201, 202, 203, 204, 205, 206, 207, 208, 209, 210, 221, 222, 223, 224, 225, 226, 227, 228, 229, 230, 231, 232, 233, 234, 235, 236, 237, 238, 239, 240, 241, 242, 243, 244, 245] rfl (by decide +kernel)
set_option maxRecDepth 20000 in
theorem gX11_kindFor_X3_passHours : GoodIn wsX11_kindFor (wsV RX11 182 RX3 yX3_passHours wsX3_passHours) := goodIn_app (goodIn_r _ [45, 46, 47, 27] rfl (by decide +kernel)) ggX11_kindFor_X3_passHours
set_option maxRecDepth 20000 in
theorem ggX11_kindFor_J6_bitCount_0f7a4 : GoodIn wsX11_kindFor wsJ6_bitCount_0f7a4 := goodIn_r _ [151, 152, 153, 154] rfl (by decide +kernel)
set_option maxRecDepth 20000 in
theorem gX11_kindFor_J6_bitCount_0f7a4 : GoodIn wsX11_kindFor (va_wsS RX11 196 yJ6_bitCount_0f7a4 wsJ6_bitCount_0f7a4) := goodIn_app (goodIn_r _ [211, 149, 150] rfl (by decide +kernel)) ggX11_kindFor_J6_bitCount_0f7a4
theorem dX11_kindFor_0 : decode cX11_kindFor 0 = .ok (.aload_n 0, 1) := by decide +kernel
theorem dX11_kindFor_1 : decode cX11_kindFor 1 = .ok (.iload_n 1, 1) := by decide +kernel
theorem dX11_kindFor_2 : decode cX11_kindFor 2 = .ok (.invokevirtual 128, 3) := by decide +kernel
theorem dX11_kindFor_5 : decode cX11_kindFor 5 = .ok (.ifCond .eq 10, 3) := by decide +kernel
theorem dX11_kindFor_8 : decode cX11_kindFor 8 = .ok (.iload_n 2, 1) := by decide +kernel
theorem dX11_kindFor_9 : decode cX11_kindFor 9 = .ok (.invokestatic 189, 3) := by decide +kernel
theorem dX11_kindFor_12 : decode cX11_kindFor 12 = .ok (.ifCond .ne 10, 3) := by decide +kernel
theorem dX11_kindFor_15 : decode cX11_kindFor 15 = .ok (.aload_n 0, 1) := by decide +kernel
theorem dX11_kindFor_16 : decode cX11_kindFor 16 = .ok (.ldc 78, 2) := by decide +kernel
theorem dX11_kindFor_18 : decode cX11_kindFor 18 = .ok (.invokevirtual 79, 3) := by decide +kernel
theorem dX11_kindFor_21 : decode cX11_kindFor 21 = .ok (.ireturn, 1) := by decide +kernel
theorem dX11_kindFor_22 : decode cX11_kindFor 22 = .ok (.iconst 0, 1) := by decide +kernel
theorem dX11_kindFor_23 : decode cX11_kindFor 23 = .ok (.istore_n 3, 1) := by decide +kernel
theorem dX11_kindFor_24 : decode cX11_kindFor 24 = .ok (.bipush 13, 2) := by decide +kernel
theorem dX11_kindFor_26 : decode cX11_kindFor 26 = .ok (.istore 4, 2) := by decide +kernel
theorem dX11_kindFor_28 : decode cX11_kindFor 28 = .ok (.iconst 0, 1) := by decide +kernel
theorem dX11_kindFor_29 : decode cX11_kindFor 29 = .ok (.istore 5, 2) := by decide +kernel
theorem dX11_kindFor_31 : decode cX11_kindFor 31 = .ok (.iload 5, 2) := by decide +kernel
theorem dX11_kindFor_33 : decode cX11_kindFor 33 = .ok (.bipush 7, 2) := by decide +kernel
theorem dX11_kindFor_35 : decode cX11_kindFor 35 = .ok (.if_icmp .ge 69, 3) := by decide +kernel
theorem dX11_kindFor_38 : decode cX11_kindFor 38 = .ok (.aload_n 0, 1) := by decide +kernel
theorem dX11_kindFor_39 : decode cX11_kindFor 39 = .ok (.getfield 43, 3) := by decide +kernel
theorem dX11_kindFor_42 : decode cX11_kindFor 42 = .ok (.aload_n 0, 1) := by decide +kernel
theorem dX11_kindFor_43 : decode cX11_kindFor 43 = .ok (.getfield 39, 3) := by decide +kernel
theorem dX11_kindFor_46 : decode cX11_kindFor 46 = .ok (.invokevirtual 192, 3) := by decide +kernel
theorem dX11_kindFor_49 : decode cX11_kindFor 49 = .ok (.aload_n 0, 1) := by decide +kernel
theorem dX11_kindFor_50 : decode cX11_kindFor 50 = .ok (.getfield 43, 3) := by decide +kernel
theorem dX11_kindFor_53 : decode cX11_kindFor 53 = .ok (.getfield 115, 3) := by decide +kernel
theorem dX11_kindFor_56 : decode cX11_kindFor 56 = .ok (.iload_n 1, 1) := by decide +kernel
theorem dX11_kindFor_57 : decode cX11_kindFor 57 = .ok (.iload 5, 2) := by decide +kernel
theorem dX11_kindFor_59 : decode cX11_kindFor 59 = .ok (.iastore, 1) := by decide +kernel
theorem dX11_kindFor_60 : decode cX11_kindFor 60 = .ok (.aload_n 0, 1) := by decide +kernel
theorem dX11_kindFor_61 : decode cX11_kindFor 61 = .ok (.getfield 43, 3) := by decide +kernel
theorem dX11_kindFor_64 : decode cX11_kindFor 64 = .ok (.iload_n 2, 1) := by decide +kernel
theorem dX11_kindFor_65 : decode cX11_kindFor 65 = .ok (.invokevirtual 182, 3) := by decide +kernel
theorem dX11_kindFor_68 : decode cX11_kindFor 68 = .ok (.aload_n 0, 1) := by decide +kernel
theorem dX11_kindFor_69 : decode cX11_kindFor 69 = .ok (.getfield 43, 3) := by decide +kernel
theorem dX11_kindFor_72 : decode cX11_kindFor 72 = .ok (.getfield 86, 3) := by decide +kernel
theorem dX11_kindFor_75 : decode cX11_kindFor 75 = .ok (.invokestatic 196, 3) := by decide +kernel
theorem dX11_kindFor_78 : decode cX11_kindFor 78 = .ok (.iload 4, 2) := by decide +kernel
theorem dX11_kindFor_80 : decode cX11_kindFor 80 = .ok (.if_icmp .ge 18, 3) := by decide +kernel
theorem dX11_kindFor_83 : decode cX11_kindFor 83 = .ok (.aload_n 0, 1) := by decide +kernel
theorem dX11_kindFor_84 : decode cX11_kindFor 84 = .ok (.getfield 43, 3) := by decide +kernel
theorem dX11_kindFor_87 : decode cX11_kindFor 87 = .ok (.getfield 86, 3) := by decide +kernel
theorem dX11_kindFor_90 : decode cX11_kindFor 90 = .ok (.invokestatic 196, 3) := by decide +kernel
theorem dX11_kindFor_93 : decode cX11_kindFor 93 = .ok (.istore 4, 2) := by decide +kernel
theorem dX11_kindFor_95 : decode cX11_kindFor 95 = .ok (.iload 5, 2) := by decide +kernel
theorem dX11_kindFor_97 : decode cX11_kindFor 97 = .ok (.istore_n 3, 1) := by decide +kernel
theorem dX11_kindFor_98 : decode cX11_kindFor 98 = .ok (.iinc 5 1, 3) := by decide +kernel
theorem dX11_kindFor_101 : decode cX11_kindFor 101 = .ok (.goto (-70), 3) := by decide +kernel
theorem dX11_kindFor_104 : decode cX11_kindFor 104 = .ok (.iload_n 3, 1) := by decide +kernel
theorem dX11_kindFor_105 : decode cX11_kindFor 105 = .ok (.ireturn, 1) := by decide +kernel
set_option maxRecDepth 20000 in
theorem ggX11_rubbed_X11_isSheet : GoodIn wsX11_rubbed wsX11_isSheet := goodIn_r _ [13, 14, 15, 12, 16] rfl (by decide +kernel)
set_option maxRecDepth 20000 in
theorem gX11_rubbed_X11_isSheet : GoodIn wsX11_rubbed (va_wsS RX11 205 yX11_isSheet wsX11_isSheet) := goodIn_app (goodIn_r _ [10, 11, 12] rfl (by decide +kernel)) ggX11_rubbed_X11_isSheet
set_option maxRecDepth 20000 in
theorem ggX11_rubbed_X11_isSpoon : GoodIn wsX11_rubbed wsX11_isSpoon := goodIn_r _ [20, 6, 21, 14, 15, 12, 16, 219, 220, 221, 222, 223, 224, 225, 226, 227, 231, 232, 233, 234, 235, 236, 237, 238, 239, 240, 241, 242, 243, 244, 245, 246, 247, 248] rfl (by decide +kernel)
set_option maxRecDepth 20000 in
theorem gX11_rubbed_X11_isSpoon : GoodIn wsX11_rubbed (wsV RX11 128 RX11 yX11_isSpoon wsX11_isSpoon) := goodIn_app (goodIn_r _ [17, 18, 19, 12] rfl (by decide +kernel)) ggX11_rubbed_X11_isSpoon
set_option maxRecDepth 20000 in
theorem ggX11_rubbed_X11_within : GoodIn wsX11_rubbed wsX11_within := goodIn_r _ [16] rfl (by decide +kernel)
set_option maxRecDepth 20000 in
theorem gX11_rubbed_X11_within : GoodIn wsX11_rubbed (va_wsS RX11 74 yX11_within wsX11_within) := goodIn_app (goodIn_r _ [14, 15, 12] rfl (by decide +kernel)) ggX11_rubbed_X11_within
set_option maxRecDepth 20000 in
theorem ggX11_rubbed_X11_refused : GoodIn wsX11_rubbed wsX11_refused := goodIn_r _ [25, 26, 27, 219, 220, 221, 222, 223, 224, 225, 226, 227] rfl (by decide +kernel)
set_option maxRecDepth 20000 in
theorem gX11_rubbed_X11_refused : GoodIn wsX11_rubbed (wsV RX11 79 RX11 yX11_refused wsX11_refused) := goodIn_app (goodIn_r _ [22, 23, 24, 12] rfl (by decide +kernel)) ggX11_rubbed_X11_refused
set_option maxRecDepth 20000 in
theorem ggX11_rubbed_X3_follow : GoodIn wsX11_rubbed wsX3_follow := goodIn_r _ [32, 33, 34, 35, 36, 37, 38, 39, 40, 41, 42, 43, 44, 45, 46, 47, 48, 231, 232, 233, 234, 235, 236, 237, 238, 239, 240, 241, 242, 243, 244, 245, 246, 247, 248] rfl (by decide +kernel)
set_option maxRecDepth 20000 in
theorem gX11_rubbed_X3_follow : GoodIn wsX11_rubbed (wsV RX11 192 RX3 yX3_follow wsX3_follow) := goodIn_app (goodIn_r _ [28, 29, 30, 31] rfl (by decide +kernel)) ggX11_rubbed_X3_follow
set_option maxRecDepth 20000 in
theorem ggX11_rubbed_X3_unlikeSpreads : GoodIn wsX11_rubbed wsX3_unlikeSpreads := goodIn_r _ [52, 38, 53, 54, 55, 31, 56, 43, 47, 39, 57, 58, 59, 60, 40, 41, 61, 44, 45, 33, 46, 62, 63, 64, 65, 66, 67, 68, 69, 70, 71, 72, 73, 15, 12, 16, 74, 75, 76, 77, 78, 79, 80, 81, 82, 83, 84, 85, 86, 87, 88, 89, 90, 91, 92, 93, 94, 95, 96, 97, 98, 99, 100, 101, 102, 103, 104, 105, 106, 107, 108, 109, 110, 111, 112, 113, 114, 48, 115, 116, 117, 118, 119, 120, 121, 122, 123, 124, 125, 126, 127, 128, 129, 130, 131, 132, 133, 134, 135, 136, 137, 138, 139, 140, 141, 142, 143, 144, 42, 145, 146, 147, 148, 149, 150, 151, 152, 153, 154, 155, 156, 157, 158, 159, 160, 161, 162, 163, 164, 165, 166, 167, 168, 169, 170, 171, 172, 173, 174, 175, 176, 177, 178, 179, 180, 181, 182, 183, 184, 185, 186, 187, 188, 189, 190, 191, 192, 193, 194, 195, 196, 197, 198, 199, 200, 201, 202, 203, 204, 205, 206, 207, 208, 209, 210, 211, 212, 213, 214, 215, 216, 217, 218, 231, 232, 233, 234, 235, 236, 237, 238, 239, 240, 241, 242, 243, 244, 245, 246, 247, 248, 249, 250, 251, 252, 253, 254, 255] rfl (by decide +kernel)
set_option maxRecDepth 20000 in
theorem gX11_rubbed_X3_unlikeSpreads : GoodIn wsX11_rubbed (wsV RX11 217 RX3 yX3_unlikeSpreads wsX3_unlikeSpreads) := goodIn_app (goodIn_r _ [49, 50, 51, 31] rfl (by decide +kernel)) ggX11_rubbed_X3_unlikeSpreads
theorem dX11_rubbed_0 : decode cX11_rubbed 0 = .ok (.iload_n 1, 1) := by decide +kernel
theorem dX11_rubbed_1 : decode cX11_rubbed 1 = .ok (.invokestatic 205, 3) := by decide +kernel
theorem dX11_rubbed_4 : decode cX11_rubbed 4 = .ok (.ifCond .eq 20, 3) := by decide +kernel
theorem dX11_rubbed_7 : decode cX11_rubbed 7 = .ok (.aload_n 0, 1) := by decide +kernel
theorem dX11_rubbed_8 : decode cX11_rubbed 8 = .ok (.iload_n 2, 1) := by decide +kernel
theorem dX11_rubbed_9 : decode cX11_rubbed 9 = .ok (.invokevirtual 128, 3) := by decide +kernel
theorem dX11_rubbed_12 : decode cX11_rubbed 12 = .ok (.ifCond .eq 12, 3) := by decide +kernel
theorem dX11_rubbed_15 : decode cX11_rubbed 15 = .ok (.iload_n 3, 1) := by decide +kernel
theorem dX11_rubbed_16 : decode cX11_rubbed 16 = .ok (.iconst 0, 1) := by decide +kernel
theorem dX11_rubbed_17 : decode cX11_rubbed 17 = .ok (.iconst 1, 1) := by decide +kernel
theorem dX11_rubbed_18 : decode cX11_rubbed 18 = .ok (.invokestatic 74, 3) := by decide +kernel
theorem dX11_rubbed_21 : decode cX11_rubbed 21 = .ok (.ifCond .ne 10, 3) := by decide +kernel
theorem dX11_rubbed_24 : decode cX11_rubbed 24 = .ok (.aload_n 0, 1) := by decide +kernel
theorem dX11_rubbed_25 : decode cX11_rubbed 25 = .ok (.ldc 78, 2) := by decide +kernel
theorem dX11_rubbed_27 : decode cX11_rubbed 27 = .ok (.invokevirtual 79, 3) := by decide +kernel
theorem dX11_rubbed_30 : decode cX11_rubbed 30 = .ok (.ireturn, 1) := by decide +kernel
theorem dX11_rubbed_31 : decode cX11_rubbed 31 = .ok (.aload_n 0, 1) := by decide +kernel
theorem dX11_rubbed_32 : decode cX11_rubbed 32 = .ok (.getfield 58, 3) := by decide +kernel
theorem dX11_rubbed_35 : decode cX11_rubbed 35 = .ok (.iload_n 1, 1) := by decide +kernel
theorem dX11_rubbed_36 : decode cX11_rubbed 36 = .ok (.aaload, 1) := by decide +kernel
theorem dX11_rubbed_37 : decode cX11_rubbed 37 = .ok (.astore 4, 2) := by decide +kernel
theorem dX11_rubbed_39 : decode cX11_rubbed 39 = .ok (.aload 4, 2) := by decide +kernel
theorem dX11_rubbed_41 : decode cX11_rubbed 41 = .ok (.getfield 208, 3) := by decide +kernel
theorem dX11_rubbed_44 : decode cX11_rubbed 44 = .ok (.ifCond .ne 10, 3) := by decide +kernel
theorem dX11_rubbed_47 : decode cX11_rubbed 47 = .ok (.aload_n 0, 1) := by decide +kernel
theorem dX11_rubbed_48 : decode cX11_rubbed 48 = .ok (.ldc 204, 2) := by decide +kernel
theorem dX11_rubbed_50 : decode cX11_rubbed 50 = .ok (.invokevirtual 79, 3) := by decide +kernel
theorem dX11_rubbed_53 : decode cX11_rubbed 53 = .ok (.ireturn, 1) := by decide +kernel
theorem dX11_rubbed_54 : decode cX11_rubbed 54 = .ok (.iconst 0, 1) := by decide +kernel
theorem dX11_rubbed_55 : decode cX11_rubbed 55 = .ok (.istore 5, 2) := by decide +kernel
theorem dX11_rubbed_57 : decode cX11_rubbed 57 = .ok (.iconst (-1), 1) := by decide +kernel
theorem dX11_rubbed_58 : decode cX11_rubbed 58 = .ok (.istore 6, 2) := by decide +kernel
theorem dX11_rubbed_60 : decode cX11_rubbed 60 = .ok (.iconst 0, 1) := by decide +kernel
theorem dX11_rubbed_61 : decode cX11_rubbed 61 = .ok (.istore 7, 2) := by decide +kernel
theorem dX11_rubbed_63 : decode cX11_rubbed 63 = .ok (.iload 7, 2) := by decide +kernel
theorem dX11_rubbed_65 : decode cX11_rubbed 65 = .ok (.bipush 99, 2) := by decide +kernel
theorem dX11_rubbed_67 : decode cX11_rubbed 67 = .ok (.if_icmp .gt 68, 3) := by decide +kernel
theorem dX11_rubbed_70 : decode cX11_rubbed 70 = .ok (.aload_n 0, 1) := by decide +kernel
theorem dX11_rubbed_71 : decode cX11_rubbed 71 = .ok (.getfield 43, 3) := by decide +kernel
theorem dX11_rubbed_74 : decode cX11_rubbed 74 = .ok (.aload_n 0, 1) := by decide +kernel
theorem dX11_rubbed_75 : decode cX11_rubbed 75 = .ok (.getfield 39, 3) := by decide +kernel
theorem dX11_rubbed_78 : decode cX11_rubbed 78 = .ok (.invokevirtual 192, 3) := by decide +kernel
theorem dX11_rubbed_81 : decode cX11_rubbed 81 = .ok (.aload_n 0, 1) := by decide +kernel
theorem dX11_rubbed_82 : decode cX11_rubbed 82 = .ok (.getfield 43, 3) := by decide +kernel
theorem dX11_rubbed_85 : decode cX11_rubbed 85 = .ok (.getfield 121, 3) := by decide +kernel
theorem dX11_rubbed_88 : decode cX11_rubbed 88 = .ok (.iload_n 2, 1) := by decide +kernel
theorem dX11_rubbed_89 : decode cX11_rubbed 89 = .ok (.iload 7, 2) := by decide +kernel
theorem dX11_rubbed_91 : decode cX11_rubbed 91 = .ok (.iastore, 1) := by decide +kernel
theorem dX11_rubbed_92 : decode cX11_rubbed 92 = .ok (.aload_n 0, 1) := by decide +kernel
theorem dX11_rubbed_93 : decode cX11_rubbed 93 = .ok (.getfield 43, 3) := by decide +kernel
theorem dX11_rubbed_96 : decode cX11_rubbed 96 = .ok (.aload 4, 2) := by decide +kernel
theorem dX11_rubbed_98 : decode cX11_rubbed 98 = .ok (.getfield 211, 3) := by decide +kernel
theorem dX11_rubbed_101 : decode cX11_rubbed 101 = .ok (.aload 4, 2) := by decide +kernel
theorem dX11_rubbed_103 : decode cX11_rubbed 103 = .ok (.getfield 214, 3) := by decide +kernel
theorem dX11_rubbed_106 : decode cX11_rubbed 106 = .ok (.invokevirtual 217, 3) := by decide +kernel
theorem dX11_rubbed_109 : decode cX11_rubbed 109 = .ok (.ifCond .ge 20, 3) := by decide +kernel
theorem dX11_rubbed_112 : decode cX11_rubbed 112 = .ok (.iinc 5 1, 3) := by decide +kernel
theorem dX11_rubbed_115 : decode cX11_rubbed 115 = .ok (.iload 6, 2) := by decide +kernel
theorem dX11_rubbed_117 : decode cX11_rubbed 117 = .ok (.ifCond .ge 8, 3) := by decide +kernel
theorem dX11_rubbed_120 : decode cX11_rubbed 120 = .ok (.iload 7, 2) := by decide +kernel
theorem dX11_rubbed_122 : decode cX11_rubbed 122 = .ok (.goto 5, 3) := by decide +kernel
theorem dX11_rubbed_125 : decode cX11_rubbed 125 = .ok (.iload 6, 2) := by decide +kernel
theorem dX11_rubbed_127 : decode cX11_rubbed 127 = .ok (.istore 6, 2) := by decide +kernel
theorem dX11_rubbed_129 : decode cX11_rubbed 129 = .ok (.iinc 7 1, 3) := by decide +kernel
theorem dX11_rubbed_132 : decode cX11_rubbed 132 = .ok (.goto (-69), 3) := by decide +kernel
theorem dX11_rubbed_135 : decode cX11_rubbed 135 = .ok (.iload_n 3, 1) := by decide +kernel
theorem dX11_rubbed_136 : decode cX11_rubbed 136 = .ok (.ifCond .ne 6, 3) := by decide +kernel
theorem dX11_rubbed_139 : decode cX11_rubbed 139 = .ok (.iload 5, 2) := by decide +kernel
theorem dX11_rubbed_141 : decode cX11_rubbed 141 = .ok (.ireturn, 1) := by decide +kernel
theorem dX11_rubbed_142 : decode cX11_rubbed 142 = .ok (.iload 5, 2) := by decide +kernel
theorem dX11_rubbed_144 : decode cX11_rubbed 144 = .ok (.ifCond .ne 12, 3) := by decide +kernel
theorem dX11_rubbed_147 : decode cX11_rubbed 147 = .ok (.aload_n 0, 1) := by decide +kernel
theorem dX11_rubbed_148 : decode cX11_rubbed 148 = .ok (.ldc 204, 2) := by decide +kernel
theorem dX11_rubbed_150 : decode cX11_rubbed 150 = .ok (.invokevirtual 79, 3) := by decide +kernel
theorem dX11_rubbed_153 : decode cX11_rubbed 153 = .ok (.goto 5, 3) := by decide +kernel
theorem dX11_rubbed_156 : decode cX11_rubbed 156 = .ok (.iload 6, 2) := by decide +kernel
theorem dX11_rubbed_158 : decode cX11_rubbed 158 = .ok (.ireturn, 1) := by decide +kernel
set_option maxRecDepth 20000 in
theorem ggX11_which_X11_isSheet : GoodIn wsX11_which wsX11_isSheet := goodIn_r _ [13, 14, 15, 12, 16] rfl (by decide +kernel)
set_option maxRecDepth 20000 in
theorem gX11_which_X11_isSheet : GoodIn wsX11_which (va_wsS RX11 205 yX11_isSheet wsX11_isSheet) := goodIn_app (goodIn_r _ [10, 11, 12] rfl (by decide +kernel)) ggX11_which_X11_isSheet
set_option maxRecDepth 20000 in
theorem ggX11_which_X11_isSpoon : GoodIn wsX11_which wsX11_isSpoon := goodIn_r _ [20, 6, 21, 14, 15, 12, 16, 219, 220, 221, 222, 223, 224, 225, 226, 227, 231, 232, 233, 234, 235, 236, 237, 238, 239, 240, 241, 242, 243, 244, 245, 246, 247, 248] rfl (by decide +kernel)
set_option maxRecDepth 20000 in
theorem gX11_which_X11_isSpoon : GoodIn wsX11_which (wsV RX11 128 RX11 yX11_isSpoon wsX11_isSpoon) := goodIn_app (goodIn_r _ [17, 18, 19, 12] rfl (by decide +kernel)) ggX11_which_X11_isSpoon
set_option maxRecDepth 20000 in
theorem ggX11_which_X11_refused : GoodIn wsX11_which wsX11_refused := goodIn_r _ [25, 26, 27, 219, 220, 221, 222, 223, 224, 225, 226, 227] rfl (by decide +kernel)
set_option maxRecDepth 20000 in
theorem gX11_which_X11_refused : GoodIn wsX11_which (wsV RX11 79 RX11 yX11_refused wsX11_refused) := goodIn_app (goodIn_r _ [22, 23, 24, 12] rfl (by decide +kernel)) ggX11_which_X11_refused
set_option maxRecDepth 20000 in
theorem ggX11_which_X3_follow : GoodIn wsX11_which wsX3_follow := goodIn_r _ [32, 33, 34, 35, 36, 37, 38, 39, 40, 41, 42, 43, 44, 45, 46, 47, 48, 231, 232, 233, 234, 235, 236, 237, 238, 239, 240, 241, 242, 243, 244, 245, 246, 247, 248] rfl (by decide +kernel)
set_option maxRecDepth 20000 in
theorem gX11_which_X3_follow : GoodIn wsX11_which (wsV RX11 192 RX3 yX3_follow wsX3_follow) := goodIn_app (goodIn_r _ [28, 29, 30, 31] rfl (by decide +kernel)) ggX11_which_X3_follow
set_option maxRecDepth 20000 in
theorem ggX11_which_X3_unlikeSpreads : GoodIn wsX11_which wsX3_unlikeSpreads := goodIn_r _ [52, 38, 53, 54, 55, 31, 56, 43, 47, 39, 57, 58, 59, 60, 40, 41, 61, 44, 45, 33, 46, 62, 63, 64, 65, 66, 67, 68, 69, 70, 71, 72, 73, 15, 12, 16, 74, 75, 76, 77, 78, 79, 80, 81, 82, 83, 84, 85, 86, 87, 88, 89, 90, 91, 92, 93, 94, 95, 96, 97, 98, 99, 100, 101, 102, 103, 104, 105, 106, 107, 108, 109, 110, 111, 112, 113, 114, 48, 115, 116, 117, 118, 119, 120, 121, 122, 123, 124, 125, 126, 127, 128, 129, 130, 131, 132, 133, 134, 135, 136, 137, 138, 139, 140, 141, 142, 143, 144, 42, 145, 146, 147, 148, 149, 150, 151, 152, 153, 154, 155, 156, 157, 158, 159, 160, 161, 162, 163, 164, 165, 166, 167, 168, 169, 170, 171, 172, 173, 174, 175, 176, 177, 178, 179, 180, 181, 182, 183, 184, 185, 186, 187, 188, 189, 190, 191, 192, 193, 194, 195, 196, 197, 198, 199, 200, 201, 202, 203, 204, 205, 206, 207, 208, 209, 210, 211, 212, 213, 214, 215, 216, 217, 218, 231, 232, 233, 234, 235, 236, 237, 238, 239, 240, 241, 242, 243, 244, 245, 246, 247, 248, 249, 250, 251, 252, 253, 254, 255] rfl (by decide +kernel)
set_option maxRecDepth 20000 in
theorem gX11_which_X3_unlikeSpreads : GoodIn wsX11_which (wsV RX11 217 RX3 yX3_unlikeSpreads wsX3_unlikeSpreads) := goodIn_app (goodIn_r _ [49, 50, 51, 31] rfl (by decide +kernel)) ggX11_which_X3_unlikeSpreads
theorem dX11_which_0 : decode cX11_which 0 = .ok (.iload_n 1, 1) := by decide +kernel
theorem dX11_which_1 : decode cX11_which 1 = .ok (.invokestatic 205, 3) := by decide +kernel
theorem dX11_which_4 : decode cX11_which 4 = .ok (.ifCond .eq 11, 3) := by decide +kernel
theorem dX11_which_7 : decode cX11_which 7 = .ok (.aload_n 0, 1) := by decide +kernel
theorem dX11_which_8 : decode cX11_which 8 = .ok (.iload_n 2, 1) := by decide +kernel
theorem dX11_which_9 : decode cX11_which 9 = .ok (.invokevirtual 128, 3) := by decide +kernel
theorem dX11_which_12 : decode cX11_which 12 = .ok (.ifCond .ne 10, 3) := by decide +kernel
theorem dX11_which_15 : decode cX11_which 15 = .ok (.aload_n 0, 1) := by decide +kernel
theorem dX11_which_16 : decode cX11_which 16 = .ok (.ldc 78, 2) := by decide +kernel
theorem dX11_which_18 : decode cX11_which 18 = .ok (.invokevirtual 79, 3) := by decide +kernel
theorem dX11_which_21 : decode cX11_which 21 = .ok (.ireturn, 1) := by decide +kernel
theorem dX11_which_22 : decode cX11_which 22 = .ok (.aload_n 0, 1) := by decide +kernel
theorem dX11_which_23 : decode cX11_which 23 = .ok (.getfield 58, 3) := by decide +kernel
theorem dX11_which_26 : decode cX11_which 26 = .ok (.iload_n 1, 1) := by decide +kernel
theorem dX11_which_27 : decode cX11_which 27 = .ok (.aaload, 1) := by decide +kernel
theorem dX11_which_28 : decode cX11_which 28 = .ok (.astore_n 3, 1) := by decide +kernel
theorem dX11_which_29 : decode cX11_which 29 = .ok (.aload_n 3, 1) := by decide +kernel
theorem dX11_which_30 : decode cX11_which 30 = .ok (.getfield 208, 3) := by decide +kernel
theorem dX11_which_33 : decode cX11_which 33 = .ok (.ifCond .ne 10, 3) := by decide +kernel
theorem dX11_which_36 : decode cX11_which 36 = .ok (.aload_n 0, 1) := by decide +kernel
theorem dX11_which_37 : decode cX11_which 37 = .ok (.ldc 204, 2) := by decide +kernel
theorem dX11_which_39 : decode cX11_which 39 = .ok (.invokevirtual 79, 3) := by decide +kernel
theorem dX11_which_42 : decode cX11_which 42 = .ok (.ireturn, 1) := by decide +kernel
theorem dX11_which_43 : decode cX11_which 43 = .ok (.iconst 0, 1) := by decide +kernel
theorem dX11_which_44 : decode cX11_which 44 = .ok (.istore 4, 2) := by decide +kernel
theorem dX11_which_46 : decode cX11_which 46 = .ok (.iconst 0, 1) := by decide +kernel
theorem dX11_which_47 : decode cX11_which 47 = .ok (.istore 5, 2) := by decide +kernel
theorem dX11_which_49 : decode cX11_which 49 = .ok (.iload 5, 2) := by decide +kernel
theorem dX11_which_51 : decode cX11_which 51 = .ok (.bipush 7, 2) := by decide +kernel
theorem dX11_which_53 : decode cX11_which 53 = .ok (.if_icmp .ge 58, 3) := by decide +kernel
theorem dX11_which_56 : decode cX11_which 56 = .ok (.aload_n 0, 1) := by decide +kernel
theorem dX11_which_57 : decode cX11_which 57 = .ok (.getfield 43, 3) := by decide +kernel
theorem dX11_which_60 : decode cX11_which 60 = .ok (.aload_n 0, 1) := by decide +kernel
theorem dX11_which_61 : decode cX11_which 61 = .ok (.getfield 39, 3) := by decide +kernel
theorem dX11_which_64 : decode cX11_which 64 = .ok (.invokevirtual 192, 3) := by decide +kernel
theorem dX11_which_67 : decode cX11_which 67 = .ok (.aload_n 0, 1) := by decide +kernel
theorem dX11_which_68 : decode cX11_which 68 = .ok (.getfield 43, 3) := by decide +kernel
theorem dX11_which_71 : decode cX11_which 71 = .ok (.getfield 115, 3) := by decide +kernel
theorem dX11_which_74 : decode cX11_which 74 = .ok (.iload_n 2, 1) := by decide +kernel
theorem dX11_which_75 : decode cX11_which 75 = .ok (.iload 5, 2) := by decide +kernel
theorem dX11_which_77 : decode cX11_which 77 = .ok (.iastore, 1) := by decide +kernel
theorem dX11_which_78 : decode cX11_which 78 = .ok (.aload_n 0, 1) := by decide +kernel
theorem dX11_which_79 : decode cX11_which 79 = .ok (.getfield 43, 3) := by decide +kernel
theorem dX11_which_82 : decode cX11_which 82 = .ok (.aload_n 3, 1) := by decide +kernel
theorem dX11_which_83 : decode cX11_which 83 = .ok (.getfield 211, 3) := by decide +kernel
theorem dX11_which_86 : decode cX11_which 86 = .ok (.aload_n 3, 1) := by decide +kernel
theorem dX11_which_87 : decode cX11_which 87 = .ok (.getfield 214, 3) := by decide +kernel
theorem dX11_which_90 : decode cX11_which 90 = .ok (.invokevirtual 217, 3) := by decide +kernel
theorem dX11_which_93 : decode cX11_which 93 = .ok (.ifCond .ge 12, 3) := by decide +kernel
theorem dX11_which_96 : decode cX11_which 96 = .ok (.iload 4, 2) := by decide +kernel
theorem dX11_which_98 : decode cX11_which 98 = .ok (.iconst 1, 1) := by decide +kernel
theorem dX11_which_99 : decode cX11_which 99 = .ok (.iload 5, 2) := by decide +kernel
theorem dX11_which_101 : decode cX11_which 101 = .ok (.ishl, 1) := by decide +kernel
theorem dX11_which_102 : decode cX11_which 102 = .ok (.ior, 1) := by decide +kernel
theorem dX11_which_103 : decode cX11_which 103 = .ok (.istore 4, 2) := by decide +kernel
theorem dX11_which_105 : decode cX11_which 105 = .ok (.iinc 5 1, 3) := by decide +kernel
theorem dX11_which_108 : decode cX11_which 108 = .ok (.goto (-59), 3) := by decide +kernel
theorem dX11_which_111 : decode cX11_which 111 = .ok (.iload 4, 2) := by decide +kernel
theorem dX11_which_113 : decode cX11_which 113 = .ok (.ireturn, 1) := by decide +kernel
set_option maxRecDepth 20000 in
theorem ggX11_washers_X11_fewestSetsOf : GoodIn wsX11_washers wsX11_fewestSetsOf := goodIn_r _ [8, 1, 3, 9, 10, 11, 12, 13, 14, 15, 16, 17, 18, 19, 20, 21, 22, 23, 24, 25, 26, 27, 28, 29, 30, 31, 32, 33, 34, 35, 36, 37, 38, 39, 40, 41, 42, 43, 44, 45, 46, 47, 48, 49, 50, 51, 52, 53, 54, 55, 56] rfl (by decide +kernel)
set_option maxRecDepth 20000 in
theorem gX11_washers_X11_fewestSetsOf : GoodIn wsX11_washers (wsV RX11 221 RX11 yX11_fewestSetsOf wsX11_fewestSetsOf) := goodIn_app (goodIn_r _ [4, 5, 6, 7] rfl (by decide +kernel)) ggX11_washers_X11_fewestSetsOf
theorem dX11_washers_0 : decode cX11_washers 0 = .ok (.iconst 1, 1) := by decide +kernel
theorem dX11_washers_1 : decode cX11_washers 1 = .ok (.aload_n 0, 1) := by decide +kernel
theorem dX11_washers_2 : decode cX11_washers 2 = .ok (.getfield 39, 3) := by decide +kernel
theorem dX11_washers_5 : decode cX11_washers 5 = .ok (.getfield 111, 3) := by decide +kernel
theorem dX11_washers_8 : decode cX11_washers 8 = .ok (.ishl, 1) := by decide +kernel
theorem dX11_washers_9 : decode cX11_washers 9 = .ok (.iconst 1, 1) := by decide +kernel
theorem dX11_washers_10 : decode cX11_washers 10 = .ok (.isub, 1) := by decide +kernel
theorem dX11_washers_11 : decode cX11_washers 11 = .ok (.istore_n 1, 1) := by decide +kernel
theorem dX11_washers_12 : decode cX11_washers 12 = .ok (.iconst 1, 1) := by decide +kernel
theorem dX11_washers_13 : decode cX11_washers 13 = .ok (.istore_n 2, 1) := by decide +kernel
theorem dX11_washers_14 : decode cX11_washers 14 = .ok (.iload_n 2, 1) := by decide +kernel
theorem dX11_washers_15 : decode cX11_washers 15 = .ok (.iload_n 1, 1) := by decide +kernel
theorem dX11_washers_16 : decode cX11_washers 16 = .ok (.if_icmp .gt 20, 3) := by decide +kernel
theorem dX11_washers_19 : decode cX11_washers 19 = .ok (.aload_n 0, 1) := by decide +kernel
theorem dX11_washers_20 : decode cX11_washers 20 = .ok (.getfield 67, 3) := by decide +kernel
theorem dX11_washers_23 : decode cX11_washers 23 = .ok (.iload_n 2, 1) := by decide +kernel
theorem dX11_washers_24 : decode cX11_washers 24 = .ok (.aload_n 0, 1) := by decide +kernel
theorem dX11_washers_25 : decode cX11_washers 25 = .ok (.iload_n 2, 1) := by decide +kernel
theorem dX11_washers_26 : decode cX11_washers 26 = .ok (.invokevirtual 221, 3) := by decide +kernel
theorem dX11_washers_29 : decode cX11_washers 29 = .ok (.iastore, 1) := by decide +kernel
theorem dX11_washers_30 : decode cX11_washers 30 = .ok (.iinc 2 1, 3) := by decide +kernel
theorem dX11_washers_33 : decode cX11_washers 33 = .ok (.goto (-19), 3) := by decide +kernel
theorem dX11_washers_36 : decode cX11_washers 36 = .ok (.aload_n 0, 1) := by decide +kernel
theorem dX11_washers_37 : decode cX11_washers 37 = .ok (.getfield 67, 3) := by decide +kernel
theorem dX11_washers_40 : decode cX11_washers 40 = .ok (.iload_n 1, 1) := by decide +kernel
theorem dX11_washers_41 : decode cX11_washers 41 = .ok (.iaload, 1) := by decide +kernel
theorem dX11_washers_42 : decode cX11_washers 42 = .ok (.ireturn, 1) := by decide +kernel
set_option maxRecDepth 20000 in
theorem ggX11_telling_X11_isSetOfWords : GoodIn wsX11_telling wsX11_isSetOfWords := goodIn_r _ [8, 9, 10, 7, 11] rfl (by decide +kernel)
set_option maxRecDepth 20000 in
theorem gX11_telling_X11_isSetOfWords : GoodIn wsX11_telling (va_wsS RX11 93 yX11_isSetOfWords wsX11_isSetOfWords) := goodIn_app (goodIn_r _ [5, 6, 7] rfl (by decide +kernel)) ggX11_telling_X11_isSetOfWords
set_option maxRecDepth 20000 in
theorem ggX11_telling_X11_refused : GoodIn wsX11_telling wsX11_refused := goodIn_r _ [15, 16, 17, 42, 43, 44, 45, 46, 47, 48, 49, 50] rfl (by decide +kernel)
set_option maxRecDepth 20000 in
theorem gX11_telling_X11_refused : GoodIn wsX11_telling (wsV RX11 79 RX11 yX11_refused wsX11_refused) := goodIn_app (goodIn_r _ [12, 13, 14, 7] rfl (by decide +kernel)) ggX11_telling_X11_refused
set_option maxRecDepth 20000 in
theorem ggX11_telling_J6_bitCount_0f7a4 : GoodIn wsX11_telling wsJ6_bitCount_0f7a4 := goodIn_r _ [21, 22, 23, 24] rfl (by decide +kernel)
set_option maxRecDepth 20000 in
theorem gX11_telling_J6_bitCount_0f7a4 : GoodIn wsX11_telling (va_wsS RX11 196 yJ6_bitCount_0f7a4 wsJ6_bitCount_0f7a4) := goodIn_app (goodIn_r _ [18, 19, 20] rfl (by decide +kernel)) ggX11_telling_J6_bitCount_0f7a4
set_option maxRecDepth 20000 in
theorem ggX11_telling_X3_wordsOnAny : GoodIn wsX11_telling wsX3_wordsOnAny := goodIn_r _ [29, 30, 31, 32, 33, 28, 34, 35, 36, 37, 38, 39, 40, 41, 51, 52, 53, 54, 55, 56, 57, 58, 59, 60, 61, 62, 63, 64, 65, 66, 67, 68] rfl (by decide +kernel)
set_option maxRecDepth 20000 in
theorem gX11_telling_X3_wordsOnAny : GoodIn wsX11_telling (wsV RX11 224 RX3 yX3_wordsOnAny wsX3_wordsOnAny) := goodIn_app (goodIn_r _ [25, 26, 27, 28] rfl (by decide +kernel)) ggX11_telling_X3_wordsOnAny
theorem dX11_telling_0 : decode cX11_telling 0 = .ok (.iload_n 1, 1) := by decide +kernel
theorem dX11_telling_1 : decode cX11_telling 1 = .ok (.invokestatic 93, 3) := by decide +kernel
theorem dX11_telling_4 : decode cX11_telling 4 = .ok (.ifCond .ne 10, 3) := by decide +kernel
theorem dX11_telling_7 : decode cX11_telling 7 = .ok (.aload_n 0, 1) := by decide +kernel
theorem dX11_telling_8 : decode cX11_telling 8 = .ok (.ldc 78, 2) := by decide +kernel
theorem dX11_telling_10 : decode cX11_telling 10 = .ok (.invokevirtual 79, 3) := by decide +kernel
theorem dX11_telling_13 : decode cX11_telling 13 = .ok (.ireturn, 1) := by decide +kernel
theorem dX11_telling_14 : decode cX11_telling 14 = .ok (.iconst (-1), 1) := by decide +kernel
theorem dX11_telling_15 : decode cX11_telling 15 = .ok (.istore_n 2, 1) := by decide +kernel
theorem dX11_telling_16 : decode cX11_telling 16 = .ok (.bipush 9, 2) := by decide +kernel
theorem dX11_telling_18 : decode cX11_telling 18 = .ok (.istore_n 3, 1) := by decide +kernel
theorem dX11_telling_19 : decode cX11_telling 19 = .ok (.iconst 0, 1) := by decide +kernel
theorem dX11_telling_20 : decode cX11_telling 20 = .ok (.istore 4, 2) := by decide +kernel
theorem dX11_telling_22 : decode cX11_telling 22 = .ok (.iload 4, 2) := by decide +kernel
theorem dX11_telling_24 : decode cX11_telling 24 = .ok (.iconst 1, 1) := by decide +kernel
theorem dX11_telling_25 : decode cX11_telling 25 = .ok (.aload_n 0, 1) := by decide +kernel
theorem dX11_telling_26 : decode cX11_telling 26 = .ok (.getfield 39, 3) := by decide +kernel
theorem dX11_telling_29 : decode cX11_telling 29 = .ok (.getfield 111, 3) := by decide +kernel
theorem dX11_telling_32 : decode cX11_telling 32 = .ok (.ishl, 1) := by decide +kernel
theorem dX11_telling_33 : decode cX11_telling 33 = .ok (.if_icmp .ge 43, 3) := by decide +kernel
theorem dX11_telling_36 : decode cX11_telling 36 = .ok (.iload 4, 2) := by decide +kernel
theorem dX11_telling_38 : decode cX11_telling 38 = .ok (.invokestatic 196, 3) := by decide +kernel
theorem dX11_telling_41 : decode cX11_telling 41 = .ok (.iload_n 3, 1) := by decide +kernel
theorem dX11_telling_42 : decode cX11_telling 42 = .ok (.if_icmp .ge 28, 3) := by decide +kernel
theorem dX11_telling_45 : decode cX11_telling 45 = .ok (.iload_n 1, 1) := by decide +kernel
theorem dX11_telling_46 : decode cX11_telling 46 = .ok (.aload_n 0, 1) := by decide +kernel
theorem dX11_telling_47 : decode cX11_telling 47 = .ok (.getfield 39, 3) := by decide +kernel
theorem dX11_telling_50 : decode cX11_telling 50 = .ok (.iload 4, 2) := by decide +kernel
theorem dX11_telling_52 : decode cX11_telling 52 = .ok (.invokevirtual 224, 3) := by decide +kernel
theorem dX11_telling_55 : decode cX11_telling 55 = .ok (.iconst (-1), 1) := by decide +kernel
theorem dX11_telling_56 : decode cX11_telling 56 = .ok (.ixor, 1) := by decide +kernel
theorem dX11_telling_57 : decode cX11_telling 57 = .ok (.iand, 1) := by decide +kernel
theorem dX11_telling_58 : decode cX11_telling 58 = .ok (.ifCond .ne 12, 3) := by decide +kernel
theorem dX11_telling_61 : decode cX11_telling 61 = .ok (.iload 4, 2) := by decide +kernel
theorem dX11_telling_63 : decode cX11_telling 63 = .ok (.invokestatic 196, 3) := by decide +kernel
theorem dX11_telling_66 : decode cX11_telling 66 = .ok (.istore_n 3, 1) := by decide +kernel
theorem dX11_telling_67 : decode cX11_telling 67 = .ok (.iload 4, 2) := by decide +kernel
theorem dX11_telling_69 : decode cX11_telling 69 = .ok (.istore_n 2, 1) := by decide +kernel
theorem dX11_telling_70 : decode cX11_telling 70 = .ok (.iinc 4 1, 3) := by decide +kernel
theorem dX11_telling_73 : decode cX11_telling 73 = .ok (.goto (-51), 3) := by decide +kernel
theorem dX11_telling_76 : decode cX11_telling 76 = .ok (.iload_n 2, 1) := by decide +kernel
theorem dX11_telling_77 : decode cX11_telling 77 = .ok (.ifCond .ge 12, 3) := by decide +kernel
theorem dX11_telling_80 : decode cX11_telling 80 = .ok (.aload_n 0, 1) := by decide +kernel
theorem dX11_telling_81 : decode cX11_telling 81 = .ok (.ldc 204, 2) := by decide +kernel
theorem dX11_telling_83 : decode cX11_telling 83 = .ok (.invokevirtual 79, 3) := by decide +kernel
theorem dX11_telling_86 : decode cX11_telling 86 = .ok (.goto 4, 3) := by decide +kernel
theorem dX11_telling_89 : decode cX11_telling 89 = .ok (.iload_n 2, 1) := by decide +kernel
theorem dX11_telling_90 : decode cX11_telling 90 = .ok (.ireturn, 1) := by decide +kernel
set_option maxRecDepth 20000 in
theorem ggX11_gossip_X11_isBehind : GoodIn wsX11_gossip wsX11_isBehind := goodIn_r _ [8, 9, 10, 7, 11] rfl (by decide +kernel)
set_option maxRecDepth 20000 in
theorem gX11_gossip_X11_isBehind : GoodIn wsX11_gossip (va_wsS RX11 189 yX11_isBehind wsX11_isBehind) := goodIn_app (goodIn_r _ [5, 6, 7] rfl (by decide +kernel)) ggX11_gossip_X11_isBehind
set_option maxRecDepth 20000 in
theorem ggX11_gossip_X11_refused : GoodIn wsX11_gossip wsX11_refused := goodIn_r _ [15, 16, 17, 209, 210, 211, 212, 213, 214, 215, 216, 217] rfl (by decide +kernel)
set_option maxRecDepth 20000 in
theorem gX11_gossip_X11_refused : GoodIn wsX11_gossip (wsV RX11 79 RX11 yX11_refused wsX11_refused) := goodIn_app (goodIn_r _ [12, 13, 14, 7] rfl (by decide +kernel)) ggX11_gossip_X11_refused
set_option maxRecDepth 20000 in
theorem ggX11_gossip_X3_follow : GoodIn wsX11_gossip wsX3_follow := goodIn_r _ [22, 23, 24, 25, 26, 27, 28, 29, 30, 31, 32, 33, 34, 35, 36, 37, 38, 218, 219, 220, 221, 222, 223, 224, 225, 226, 227, 228, 229, 230, 231, 232, 233, 234, 235] rfl (by decide +kernel)
set_option maxRecDepth 20000 in
theorem gX11_gossip_X3_follow : GoodIn wsX11_gossip (wsV RX11 192 RX3 yX3_follow wsX3_follow) := goodIn_app (goodIn_r _ [18, 19, 20, 21] rfl (by decide +kernel)) ggX11_gossip_X3_follow
set_option maxRecDepth 20000 in
theorem ggX11_gossip_X3_passHours : GoodIn wsX11_gossip wsX3_passHours := goodIn_r _ [42, 33, 37, 29, 43, 44, 45, 21, 46, 30, 31, 47, 34, 35, 23, 36, 48, 49, 50, 51, 52, 53, 54, 55, 56, 57, 58, 59, 10, 7, 11, 60, 61, 62, 63, 64, 65, 66, 67, 68, 69, 70, 71, 72, 73, 74, 75, 76, 77, 78, 79, 80, 81, 82, 83, 84, 85, 86, 87, 88, 89, 90, 91, 92, 93, 94, 95, 96, 97, 98, 99, 100, 38, 101, 102, 103, 104, 105, 106, 107, 108, 109, 110, 111, 112, 113, 114, 115, 116, 117, 118, 119, 120, 121, 122, 123, 124, 125, 126, 127, 128, 129, 130, 32, 28, 131, 132, 133, 134, 135, 136, 137, 138, 139, 140, 141, 142, 143, 144, 145, 146, 147, 148, 149, 150, 151, 152, 153, 154, 155, 156, 157, 158, 159, 160, 161, 162, 163, 164, 165, 166, 167, 168, 169, 170, 171, 172, 173, 174, 175, 176, 177, 178, 179, 180, 181, 182, 183, 184, 185, 186, 187, 188, 189, 190, 191, 192, 193, 194, 195, 196, 197, 198, 199, 200, 201, 202, 203, 204, 218, 219, 220, 221, 222, 223, 224, 225, 226, 227, 228, 229, 230, 231, 232, 233, 234, 235, 236, 237, 238, 239, 240, 241, 242] rfl (by decide +kernel)
set_option maxRecDepth 20000 in
theorem gX11_gossip_X3_passHours : GoodIn wsX11_gossip (wsV RX11 182 RX3 yX3_passHours wsX3_passHours) := goodIn_app (goodIn_r _ [39, 40, 41, 21] rfl (by decide +kernel)) ggX11_gossip_X3_passHours
set_option maxRecDepth 20000 in
theorem ggX11_gossip_X3_weightOf : GoodIn wsX11_gossip wsX3_weightOf := goodIn_r _ [208, 23, 218, 219, 220, 221, 222, 223, 224, 225, 226, 227, 228, 229, 230, 231, 232, 233, 234, 235] rfl (by decide +kernel)
set_option maxRecDepth 20000 in
theorem gX11_gossip_X3_weightOf : GoodIn wsX11_gossip (wsV RX11 227 RX3 yX3_weightOf wsX3_weightOf) := goodIn_app (goodIn_r _ [205, 206, 207, 21] rfl (by decide +kernel)) ggX11_gossip_X3_weightOf
theorem dX11_gossip_0 : decode cX11_gossip 0 = .ok (.iload_n 1, 1) := by decide +kernel
theorem dX11_gossip_1 : decode cX11_gossip 1 = .ok (.invokestatic 189, 3) := by decide +kernel
theorem dX11_gossip_4 : decode cX11_gossip 4 = .ok (.ifCond .ne 10, 3) := by decide +kernel
theorem dX11_gossip_7 : decode cX11_gossip 7 = .ok (.aload_n 0, 1) := by decide +kernel
theorem dX11_gossip_8 : decode cX11_gossip 8 = .ok (.ldc 78, 2) := by decide +kernel
theorem dX11_gossip_10 : decode cX11_gossip 10 = .ok (.invokevirtual 79, 3) := by decide +kernel
theorem dX11_gossip_13 : decode cX11_gossip 13 = .ok (.ireturn, 1) := by decide +kernel
theorem dX11_gossip_14 : decode cX11_gossip 14 = .ok (.aload_n 0, 1) := by decide +kernel
theorem dX11_gossip_15 : decode cX11_gossip 15 = .ok (.getfield 43, 3) := by decide +kernel
theorem dX11_gossip_18 : decode cX11_gossip 18 = .ok (.aload_n 0, 1) := by decide +kernel
theorem dX11_gossip_19 : decode cX11_gossip 19 = .ok (.getfield 39, 3) := by decide +kernel
theorem dX11_gossip_22 : decode cX11_gossip 22 = .ok (.invokevirtual 192, 3) := by decide +kernel
theorem dX11_gossip_25 : decode cX11_gossip 25 = .ok (.aload_n 0, 1) := by decide +kernel
theorem dX11_gossip_26 : decode cX11_gossip 26 = .ok (.getfield 43, 3) := by decide +kernel
theorem dX11_gossip_29 : decode cX11_gossip 29 = .ok (.iload_n 1, 1) := by decide +kernel
theorem dX11_gossip_30 : decode cX11_gossip 30 = .ok (.invokevirtual 182, 3) := by decide +kernel
theorem dX11_gossip_33 : decode cX11_gossip 33 = .ok (.aload_n 0, 1) := by decide +kernel
theorem dX11_gossip_34 : decode cX11_gossip 34 = .ok (.getfield 43, 3) := by decide +kernel
theorem dX11_gossip_37 : decode cX11_gossip 37 = .ok (.aload_n 0, 1) := by decide +kernel
theorem dX11_gossip_38 : decode cX11_gossip 38 = .ok (.getfield 43, 3) := by decide +kernel
theorem dX11_gossip_41 : decode cX11_gossip 41 = .ok (.getfield 86, 3) := by decide +kernel
theorem dX11_gossip_44 : decode cX11_gossip 44 = .ok (.invokevirtual 227, 3) := by decide +kernel
theorem dX11_gossip_47 : decode cX11_gossip 47 = .ok (.ireturn, 1) := by decide +kernel
set_option maxRecDepth 20000 in
theorem ggX11_much_X11_isSpoon : GoodIn wsX11_much wsX11_isSpoon := goodIn_r _ [12, 2, 13, 14, 15, 11, 16, 27, 28, 29, 30, 31, 32, 33, 34, 35, 36, 37, 38, 39, 40, 41, 42, 43, 44, 45, 46, 47, 48, 49, 50, 51, 52, 53] rfl (by decide +kernel)
set_option maxRecDepth 20000 in
theorem gX11_much_X11_isSpoon : GoodIn wsX11_much (wsV RX11 128 RX11 yX11_isSpoon wsX11_isSpoon) := goodIn_app (goodIn_r _ [8, 9, 10, 11] rfl (by decide +kernel)) ggX11_much_X11_isSpoon
set_option maxRecDepth 20000 in
theorem ggX11_much_X11_refused : GoodIn wsX11_much wsX11_refused := goodIn_r _ [20, 21, 22, 27, 28, 29, 30, 31, 32, 33, 34, 35] rfl (by decide +kernel)
set_option maxRecDepth 20000 in
theorem gX11_much_X11_refused : GoodIn wsX11_much (wsV RX11 79 RX11 yX11_refused wsX11_refused) := goodIn_app (goodIn_r _ [17, 18, 19, 11] rfl (by decide +kernel)) ggX11_much_X11_refused
set_option maxRecDepth 20000 in
theorem ggX11_much_X3_freshIn : GoodIn wsX11_much wsX3_freshIn := goodIn_r _ [26] rfl (by decide +kernel)
set_option maxRecDepth 20000 in
theorem gX11_much_X3_freshIn : GoodIn wsX11_much (va_wsS RX11 137 yX3_freshIn wsX3_freshIn) := goodIn_app (goodIn_r _ [23, 24, 25] rfl (by decide +kernel)) ggX11_much_X3_freshIn
theorem dX11_much_0 : decode cX11_much 0 = .ok (.aload_n 0, 1) := by decide +kernel
theorem dX11_much_1 : decode cX11_much 1 = .ok (.iload_n 1, 1) := by decide +kernel
theorem dX11_much_2 : decode cX11_much 2 = .ok (.invokevirtual 128, 3) := by decide +kernel
theorem dX11_much_5 : decode cX11_much 5 = .ok (.ifCond .ne 10, 3) := by decide +kernel
theorem dX11_much_8 : decode cX11_much 8 = .ok (.aload_n 0, 1) := by decide +kernel
theorem dX11_much_9 : decode cX11_much 9 = .ok (.ldc 78, 2) := by decide +kernel
theorem dX11_much_11 : decode cX11_much 11 = .ok (.invokevirtual 79, 3) := by decide +kernel
theorem dX11_much_14 : decode cX11_much 14 = .ok (.ireturn, 1) := by decide +kernel
theorem dX11_much_15 : decode cX11_much 15 = .ok (.iconst 0, 1) := by decide +kernel
theorem dX11_much_16 : decode cX11_much 16 = .ok (.istore_n 2, 1) := by decide +kernel
theorem dX11_much_17 : decode cX11_much 17 = .ok (.iconst 0, 1) := by decide +kernel
theorem dX11_much_18 : decode cX11_much 18 = .ok (.istore_n 3, 1) := by decide +kernel
theorem dX11_much_19 : decode cX11_much 19 = .ok (.iload_n 3, 1) := by decide +kernel
theorem dX11_much_20 : decode cX11_much 20 = .ok (.bipush 12, 2) := by decide +kernel
theorem dX11_much_22 : decode cX11_much 22 = .ok (.if_icmp .ge 27, 3) := by decide +kernel
theorem dX11_much_25 : decode cX11_much 25 = .ok (.iload_n 2, 1) := by decide +kernel
theorem dX11_much_26 : decode cX11_much 26 = .ok (.aload_n 0, 1) := by decide +kernel
theorem dX11_much_27 : decode cX11_much 27 = .ok (.getfield 39, 3) := by decide +kernel
theorem dX11_much_30 : decode cX11_much 30 = .ok (.getfield 124, 3) := by decide +kernel
theorem dX11_much_33 : decode cX11_much 33 = .ok (.iload_n 1, 1) := by decide +kernel
theorem dX11_much_34 : decode cX11_much 34 = .ok (.laload, 1) := by decide +kernel
theorem dX11_much_35 : decode cX11_much 35 = .ok (.iload_n 3, 1) := by decide +kernel
theorem dX11_much_36 : decode cX11_much 36 = .ok (.invokestatic 137, 3) := by decide +kernel
theorem dX11_much_39 : decode cX11_much 39 = .ok (.invokestatic 230, 3) := by decide +kernel
theorem dX11_much_42 : decode cX11_much 42 = .ok (.istore_n 2, 1) := by decide +kernel
theorem dX11_much_43 : decode cX11_much 43 = .ok (.iinc 3 1, 3) := by decide +kernel
theorem dX11_much_46 : decode cX11_much 46 = .ok (.goto (-27), 3) := by decide +kernel
theorem dX11_much_49 : decode cX11_much 49 = .ok (.iload_n 2, 1) := by decide +kernel
theorem dX11_much_50 : decode cX11_much 50 = .ok (.ireturn, 1) := by decide +kernel
set_option maxRecDepth 20000 in
theorem ggX11_odds_X11_within : GoodIn wsX11_odds wsX11_within := goodIn_r _ [8] rfl (by decide +kernel)
set_option maxRecDepth 20000 in
theorem gX11_odds_X11_within : GoodIn wsX11_odds (va_wsS RX11 74 yX11_within wsX11_within) := goodIn_app (goodIn_r _ [5, 6, 7] rfl (by decide +kernel)) ggX11_odds_X11_within
set_option maxRecDepth 20000 in
theorem ggX11_odds_X11_isWord : GoodIn wsX11_odds wsX11_isWord := goodIn_r _ [11, 5, 6, 7, 8] rfl (by decide +kernel)
set_option maxRecDepth 20000 in
theorem gX11_odds_X11_isWord : GoodIn wsX11_odds (va_wsS RX11 70 yX11_isWord wsX11_isWord) := goodIn_app (goodIn_r _ [9, 10, 7] rfl (by decide +kernel)) ggX11_odds_X11_isWord
set_option maxRecDepth 20000 in
theorem ggX11_odds_X11_refused : GoodIn wsX11_odds wsX11_refused := goodIn_r _ [15, 16, 17, 213, 214, 215, 216, 217, 218, 219, 220, 221] rfl (by decide +kernel)
set_option maxRecDepth 20000 in
theorem gX11_odds_X11_refused : GoodIn wsX11_odds (wsV RX11 79 RX11 yX11_refused wsX11_refused) := goodIn_app (goodIn_r _ [12, 13, 14, 7] rfl (by decide +kernel)) ggX11_odds_X11_refused
set_option maxRecDepth 20000 in
theorem ggX11_odds_X3_follow : GoodIn wsX11_odds wsX3_follow := goodIn_r _ [22, 23, 24, 25, 26, 27, 28, 29, 30, 31, 32, 33, 34, 35, 36, 37, 38, 222, 223, 224, 225, 226, 227, 228, 229, 230, 231, 232, 233, 234, 235, 236, 237, 238, 239] rfl (by decide +kernel)
set_option maxRecDepth 20000 in
theorem gX11_odds_X3_follow : GoodIn wsX11_odds (wsV RX11 192 RX3 yX3_follow wsX3_follow) := goodIn_app (goodIn_r _ [18, 19, 20, 21] rfl (by decide +kernel)) ggX11_odds_X3_follow
set_option maxRecDepth 20000 in
theorem ggX11_odds_X3_swallowPlace : GoodIn wsX11_odds wsX3_swallowPlace := goodIn_r _ [42, 29, 43, 44, 45, 46, 222, 223, 224, 225, 226, 227, 228, 229, 230, 231, 232, 233, 234, 235, 236, 237, 238, 239] rfl (by decide +kernel)
set_option maxRecDepth 20000 in
theorem gX11_odds_X3_swallowPlace : GoodIn wsX11_odds (wsV RX11 236 RX3 yX3_swallowPlace wsX3_swallowPlace) := goodIn_app (goodIn_r _ [39, 40, 41, 21] rfl (by decide +kernel)) ggX11_odds_X3_swallowPlace
set_option maxRecDepth 20000 in
theorem ggX11_odds_X3_passHours : GoodIn wsX11_odds wsX3_passHours := goodIn_r _ [50, 33, 37, 29, 51, 52, 53, 21, 54, 30, 31, 55, 34, 35, 23, 36, 56, 40, 41, 42, 43, 44, 45, 46, 57, 58, 59, 60, 6, 7, 8, 61, 62, 63, 64, 65, 66, 67, 68, 69, 70, 71, 72, 73, 74, 75, 76, 77, 78, 79, 80, 81, 82, 83, 84, 85, 86, 87, 88, 89, 90, 91, 92, 93, 94, 95, 96, 97, 98, 99, 100, 101, 38, 102, 103, 104, 105, 106, 107, 108, 109, 110, 111, 112, 113, 114, 115, 116, 117, 118, 119, 120, 121, 122, 123, 124, 125, 126, 127, 128, 129, 130, 131, 32, 28, 132, 133, 134, 135, 136, 137, 138, 139, 140, 141, 142, 143, 144, 145, 146, 147, 148, 149, 150, 151, 152, 153, 154, 155, 156, 157, 158, 159, 160, 161, 162, 163, 164, 165, 166, 167, 168, 169, 170, 171, 172, 173, 174, 175, 176, 177, 178, 179, 180, 181, 182, 183, 184, 185, 186, 187, 188, 189, 190, 191, 192, 193, 194, 195, 196, 197, 198, 199, 200, 201, 202, 203, 204, 205, 222, 223, 224, 225, 226, 227, 228, 229, 230, 231, 232, 233, 234, 235, 236, 237, 238, 239, 240, 241, 242, 243, 244, 245, 246] rfl (by decide +kernel)
set_option maxRecDepth 20000 in
theorem gX11_odds_X3_passHours : GoodIn wsX11_odds (wsV RX11 182 RX3 yX3_passHours wsX3_passHours) := goodIn_app (goodIn_r _ [47, 48, 49, 21] rfl (by decide +kernel)) ggX11_odds_X3_passHours
set_option maxRecDepth 20000 in
theorem ggX11_odds_X3_knows : GoodIn wsX11_odds wsX3_knows := goodIn_r _ [209, 28, 222, 223, 224, 225, 226, 227, 228, 229, 230, 231, 232, 233, 234, 235, 236, 237, 238, 239] rfl (by decide +kernel)
set_option maxRecDepth 20000 in
theorem gX11_odds_X3_knows : GoodIn wsX11_odds (wsV RX11 201 RX3 yX3_knows wsX3_knows) := goodIn_app (goodIn_r _ [206, 207, 208, 21] rfl (by decide +kernel)) ggX11_odds_X3_knows
set_option maxRecDepth 20000 in
theorem ggX11_odds_X11_commonPart : GoodIn wsX11_odds wsX11_commonPart := goodIn_r _ [212] rfl (by decide +kernel)
set_option maxRecDepth 20000 in
theorem gX11_odds_X11_commonPart : GoodIn wsX11_odds (va_wsS RX11 240 yX11_commonPart wsX11_commonPart) := goodIn_app (goodIn_r _ [210, 211, 7] rfl (by decide +kernel)) ggX11_odds_X11_commonPart
theorem dX11_odds_0 : decode cX11_odds 0 = .ok (.iload_n 1, 1) := by decide +kernel
theorem dX11_odds_1 : decode cX11_odds 1 = .ok (.iconst 0, 1) := by decide +kernel
theorem dX11_odds_2 : decode cX11_odds 2 = .ok (.bipush 30, 2) := by decide +kernel
theorem dX11_odds_4 : decode cX11_odds 4 = .ok (.invokestatic 74, 3) := by decide +kernel
theorem dX11_odds_7 : decode cX11_odds 7 = .ok (.ifCond .eq 19, 3) := by decide +kernel
theorem dX11_odds_10 : decode cX11_odds 10 = .ok (.iload_n 2, 1) := by decide +kernel
theorem dX11_odds_11 : decode cX11_odds 11 = .ok (.invokestatic 70, 3) := by decide +kernel
theorem dX11_odds_14 : decode cX11_odds 14 = .ok (.ifCond .eq 12, 3) := by decide +kernel
theorem dX11_odds_17 : decode cX11_odds 17 = .ok (.iload_n 3, 1) := by decide +kernel
theorem dX11_odds_18 : decode cX11_odds 18 = .ok (.iconst 0, 1) := by decide +kernel
theorem dX11_odds_19 : decode cX11_odds 19 = .ok (.iconst 1, 1) := by decide +kernel
theorem dX11_odds_20 : decode cX11_odds 20 = .ok (.invokestatic 74, 3) := by decide +kernel
theorem dX11_odds_23 : decode cX11_odds 23 = .ok (.ifCond .ne 10, 3) := by decide +kernel
theorem dX11_odds_26 : decode cX11_odds 26 = .ok (.aload_n 0, 1) := by decide +kernel
theorem dX11_odds_27 : decode cX11_odds 27 = .ok (.ldc 78, 2) := by decide +kernel
theorem dX11_odds_29 : decode cX11_odds 29 = .ok (.invokevirtual 79, 3) := by decide +kernel
theorem dX11_odds_32 : decode cX11_odds 32 = .ok (.ireturn, 1) := by decide +kernel
theorem dX11_odds_33 : decode cX11_odds 33 = .ok (.iconst 0, 1) := by decide +kernel
theorem dX11_odds_34 : decode cX11_odds 34 = .ok (.istore 4, 2) := by decide +kernel
theorem dX11_odds_36 : decode cX11_odds 36 = .ok (.iconst 0, 1) := by decide +kernel
theorem dX11_odds_37 : decode cX11_odds 37 = .ok (.istore 5, 2) := by decide +kernel
theorem dX11_odds_39 : decode cX11_odds 39 = .ok (.iload 5, 2) := by decide +kernel
theorem dX11_odds_41 : decode cX11_odds 41 = .ok (.bipush 12, 2) := by decide +kernel
theorem dX11_odds_43 : decode cX11_odds 43 = .ok (.if_icmp .ge 59, 3) := by decide +kernel
theorem dX11_odds_46 : decode cX11_odds 46 = .ok (.aload_n 0, 1) := by decide +kernel
theorem dX11_odds_47 : decode cX11_odds 47 = .ok (.getfield 43, 3) := by decide +kernel
theorem dX11_odds_50 : decode cX11_odds 50 = .ok (.aload_n 0, 1) := by decide +kernel
theorem dX11_odds_51 : decode cX11_odds 51 = .ok (.getfield 39, 3) := by decide +kernel
theorem dX11_odds_54 : decode cX11_odds 54 = .ok (.invokevirtual 192, 3) := by decide +kernel
theorem dX11_odds_57 : decode cX11_odds 57 = .ok (.aload_n 0, 1) := by decide +kernel
theorem dX11_odds_58 : decode cX11_odds 58 = .ok (.getfield 43, 3) := by decide +kernel
theorem dX11_odds_61 : decode cX11_odds 61 = .ok (.getfield 105, 3) := by decide +kernel
theorem dX11_odds_64 : decode cX11_odds 64 = .ok (.aload_n 0, 1) := by decide +kernel
theorem dX11_odds_65 : decode cX11_odds 65 = .ok (.getfield 43, 3) := by decide +kernel
theorem dX11_odds_68 : decode cX11_odds 68 = .ok (.invokevirtual 236, 3) := by decide +kernel
theorem dX11_odds_71 : decode cX11_odds 71 = .ok (.iload 5, 2) := by decide +kernel
theorem dX11_odds_73 : decode cX11_odds 73 = .ok (.iastore, 1) := by decide +kernel
theorem dX11_odds_74 : decode cX11_odds 74 = .ok (.aload_n 0, 1) := by decide +kernel
theorem dX11_odds_75 : decode cX11_odds 75 = .ok (.getfield 43, 3) := by decide +kernel
theorem dX11_odds_78 : decode cX11_odds 78 = .ok (.iload_n 1, 1) := by decide +kernel
theorem dX11_odds_79 : decode cX11_odds 79 = .ok (.invokevirtual 182, 3) := by decide +kernel
theorem dX11_odds_82 : decode cX11_odds 82 = .ok (.aload_n 0, 1) := by decide +kernel
theorem dX11_odds_83 : decode cX11_odds 83 = .ok (.getfield 43, 3) := by decide +kernel
theorem dX11_odds_86 : decode cX11_odds 86 = .ok (.iload_n 2, 1) := by decide +kernel
theorem dX11_odds_87 : decode cX11_odds 87 = .ok (.invokevirtual 201, 3) := by decide +kernel
theorem dX11_odds_90 : decode cX11_odds 90 = .ok (.ifCond .eq 6, 3) := by decide +kernel
theorem dX11_odds_93 : decode cX11_odds 93 = .ok (.iinc 4 1, 3) := by decide +kernel
theorem dX11_odds_96 : decode cX11_odds 96 = .ok (.iinc 5 1, 3) := by decide +kernel
theorem dX11_odds_99 : decode cX11_odds 99 = .ok (.goto (-60), 3) := by decide +kernel
theorem dX11_odds_102 : decode cX11_odds 102 = .ok (.iload 4, 2) := by decide +kernel
theorem dX11_odds_104 : decode cX11_odds 104 = .ok (.bipush 12, 2) := by decide +kernel
theorem dX11_odds_106 : decode cX11_odds 106 = .ok (.invokestatic 240, 3) := by decide +kernel
theorem dX11_odds_109 : decode cX11_odds 109 = .ok (.istore 5, 2) := by decide +kernel
theorem dX11_odds_111 : decode cX11_odds 111 = .ok (.iload_n 3, 1) := by decide +kernel
theorem dX11_odds_112 : decode cX11_odds 112 = .ok (.ifCond .ne 8, 3) := by decide +kernel
theorem dX11_odds_115 : decode cX11_odds 115 = .ok (.iload 4, 2) := by decide +kernel
theorem dX11_odds_117 : decode cX11_odds 117 = .ok (.goto 5, 3) := by decide +kernel
theorem dX11_odds_120 : decode cX11_odds 120 = .ok (.bipush 12, 2) := by decide +kernel
theorem dX11_odds_122 : decode cX11_odds 122 = .ok (.iload 5, 2) := by decide +kernel
theorem dX11_odds_124 : decode cX11_odds 124 = .ok (.idiv, 1) := by decide +kernel
theorem dX11_odds_125 : decode cX11_odds 125 = .ok (.ireturn, 1) := by decide +kernel
theorem dX11_seed_0 : decode cX11_seed 0 = .ok (.aload_n 0, 1) := by decide +kernel
theorem dX11_seed_1 : decode cX11_seed 1 = .ok (.getfield 39, 3) := by decide +kernel
theorem dX11_seed_4 : decode cX11_seed 4 = .ok (.getfield 243, 3) := by decide +kernel
theorem dX11_seed_7 : decode cX11_seed 7 = .ok (.istore_n 2, 1) := by decide +kernel
theorem dX11_seed_8 : decode cX11_seed 8 = .ok (.aload_n 0, 1) := by decide +kernel
theorem dX11_seed_9 : decode cX11_seed 9 = .ok (.getfield 39, 3) := by decide +kernel
theorem dX11_seed_12 : decode cX11_seed 12 = .ok (.iload_n 1, 1) := by decide +kernel
theorem dX11_seed_13 : decode cX11_seed 13 = .ok (.putfield 243, 3) := by decide +kernel
theorem dX11_seed_16 : decode cX11_seed 16 = .ok (.iload_n 2, 1) := by decide +kernel
theorem dX11_seed_17 : decode cX11_seed 17 = .ok (.ireturn, 1) := by decide +kernel
set_option maxRecDepth 20000 in
theorem ggX11_voice_X11_isSpoon : GoodIn wsX11_voice wsX11_isSpoon := goodIn_r _ [11, 3, 12, 13, 14, 10, 15, 145, 146, 147, 148, 149, 150, 151, 152, 153, 154, 155, 156, 157, 158, 159, 160, 161, 162, 163, 164, 165, 166, 167, 168, 169, 170, 171] rfl (by decide +kernel)
set_option maxRecDepth 20000 in
theorem gX11_voice_X11_isSpoon : GoodIn wsX11_voice (wsV RX11 128 RX11 yX11_isSpoon wsX11_isSpoon) := goodIn_app (goodIn_r _ [7, 8, 9, 10] rfl (by decide +kernel)) ggX11_voice_X11_isSpoon
set_option maxRecDepth 20000 in
theorem ggX11_voice_X11_within : GoodIn wsX11_voice wsX11_within := goodIn_r _ [15] rfl (by decide +kernel)
set_option maxRecDepth 20000 in
theorem gX11_voice_X11_within : GoodIn wsX11_voice (va_wsS RX11 74 yX11_within wsX11_within) := goodIn_app (goodIn_r _ [13, 14, 10] rfl (by decide +kernel)) ggX11_voice_X11_within
set_option maxRecDepth 20000 in
theorem ggX11_voice_X11_refused : GoodIn wsX11_voice wsX11_refused := goodIn_r _ [19, 20, 21, 145, 146, 147, 148, 149, 150, 151, 152, 153] rfl (by decide +kernel)
set_option maxRecDepth 20000 in
theorem gX11_voice_X11_refused : GoodIn wsX11_voice (wsV RX11 79 RX11 yX11_refused wsX11_refused) := goodIn_app (goodIn_r _ [16, 17, 18, 10] rfl (by decide +kernel)) ggX11_voice_X11_refused
set_option maxRecDepth 20000 in
theorem ggX11_voice_X10_of : GoodIn wsX11_voice wsX10_of := goodIn_r _ [26, 27, 28, 29, 172, 173, 174, 175] rfl (by decide +kernel)
set_option maxRecDepth 20000 in
theorem gX11_voice_X10_of : GoodIn wsX11_voice (wsV RX11 246 RX10 yX10_of wsX10_of) := goodIn_app (goodIn_r _ [22, 23, 24, 25] rfl (by decide +kernel)) ggX11_voice_X10_of
set_option maxRecDepth 20000 in
theorem ggX11_voice_X8_shines : GoodIn wsX11_voice wsX8_shines := goodIn_r _ [35, 36, 37, 38, 39, 25, 40, 29, 41, 172, 173, 174, 175] rfl (by decide +kernel)
set_option maxRecDepth 20000 in
theorem gX11_voice_X8_shines_u250X0 : GoodIn wsX11_voice (va_wsU RX11 250 RX0 "SpoonsLast$Spoon" ⟨"SpoonsLast$Spoon", "shines", "(LSpoonsLast$Voice;I)I"⟩ yX8_shines wsX8_shines) := goodIn_app (goodIn_r _ [30, 31, 32, 33, 34] rfl (by decide +kernel)) ggX11_voice_X8_shines
set_option maxRecDepth 20000 in
theorem gX11_voice_X8_shines_u250X1 : GoodIn wsX11_voice (va_wsU RX11 250 RX1 "SpoonsLast$Spoon" ⟨"SpoonsLast$Spoon", "shines", "(LSpoonsLast$Voice;I)I"⟩ yX8_shines wsX8_shines) := goodIn_app (goodIn_r _ [30, 31, 42, 33, 34] rfl (by decide +kernel)) ggX11_voice_X8_shines
set_option maxRecDepth 20000 in
theorem ggX11_voice_X2_shines : GoodIn wsX11_voice wsX2_shines := goodIn_r _ [47, 48, 38, 39, 25, 40, 29, 41, 49, 31, 50, 33, 34, 35, 36, 37, 172, 173, 174, 175] rfl (by decide +kernel)
set_option maxRecDepth 20000 in
theorem gX11_voice_X2_shines_u250X2 : GoodIn wsX11_voice (va_wsO RX11 250 RX2 "SpoonsLast$Spoon" ⟨"SpoonsLast$Spoon", "shines", "(LSpoonsLast$Voice;I)I"⟩ yX2_shines wsX2_shines) := goodIn_app (goodIn_r _ [30, 31, 33, 44, 45, 46] rfl (by decide +kernel)) ggX11_voice_X2_shines
set_option maxRecDepth 20000 in
theorem gX11_voice_X8_shines_u250X4 : GoodIn wsX11_voice (va_wsU RX11 250 RX4 "SpoonsLast$Spoon" ⟨"SpoonsLast$Spoon", "shines", "(LSpoonsLast$Voice;I)I"⟩ yX8_shines wsX8_shines) := goodIn_app (goodIn_r _ [30, 31, 51, 33, 34] rfl (by decide +kernel)) ggX11_voice_X8_shines
set_option maxRecDepth 20000 in
theorem gX11_voice_X8_shines_u250X5 : GoodIn wsX11_voice (va_wsU RX11 250 RX5 "SpoonsLast$Spoon" ⟨"SpoonsLast$Spoon", "shines", "(LSpoonsLast$Voice;I)I"⟩ yX8_shines wsX8_shines) := goodIn_app (goodIn_r _ [30, 31, 52, 33, 34] rfl (by decide +kernel)) ggX11_voice_X8_shines
set_option maxRecDepth 20000 in
theorem gX11_voice_X2_shines_u250X6 : GoodIn wsX11_voice (va_wsO RX11 250 RX6 "SpoonsLast$Spoon" ⟨"SpoonsLast$Spoon", "shines", "(LSpoonsLast$Voice;I)I"⟩ yX2_shines wsX2_shines) := goodIn_app (goodIn_r _ [30, 31, 33, 53, 45, 46] rfl (by decide +kernel)) ggX11_voice_X2_shines
set_option maxRecDepth 20000 in
theorem gX11_voice_X8_shines : GoodIn wsX11_voice (wsV RX11 250 RX8 yX8_shines wsX8_shines) := goodIn_app (goodIn_r _ [30, 33, 55, 34] rfl (by decide +kernel)) ggX11_voice_X8_shines
set_option maxRecDepth 20000 in
theorem ggX11_voice_X0_dulls : GoodIn wsX11_voice wsX0_dulls := goodIn_r _ [62, 63, 38, 39, 25, 40, 29, 41, 64, 57, 65, 66, 34, 67, 37, 68, 31, 32, 33, 35, 36, 42, 43, 44, 45, 46, 47, 48, 49, 50, 51, 52, 53, 69, 55, 70, 71, 72, 73, 74, 75, 76, 172, 173, 174, 175] rfl (by decide +kernel)
set_option maxRecDepth 20000 in
theorem gX11_voice_X0_dulls_u254X0 : GoodIn wsX11_voice (va_wsO RX11 254 RX0 "SpoonsLast$Spoon" ⟨"SpoonsLast$Spoon", "dulls", "(LSpoonsLast$Voice;I)I"⟩ yX0_dulls wsX0_dulls) := goodIn_app (goodIn_r _ [56, 57, 58, 59, 60, 61] rfl (by decide +kernel)) ggX11_voice_X0_dulls
set_option maxRecDepth 20000 in
theorem ggX11_voice_X8_dulls : GoodIn wsX11_voice wsX8_dulls := goodIn_r _ [67, 37, 38, 39, 25, 40, 29, 41, 68, 31, 32, 33, 34, 35, 36, 42, 43, 44, 45, 46, 47, 48, 49, 50, 51, 52, 53, 69, 55, 172, 173, 174, 175] rfl (by decide +kernel)
set_option maxRecDepth 20000 in
theorem gX11_voice_X8_dulls_u254X1 : GoodIn wsX11_voice (va_wsU RX11 254 RX1 "SpoonsLast$Spoon" ⟨"SpoonsLast$Spoon", "dulls", "(LSpoonsLast$Voice;I)I"⟩ yX8_dulls wsX8_dulls) := goodIn_app (goodIn_r _ [56, 57, 77, 58, 34] rfl (by decide +kernel)) ggX11_voice_X8_dulls
set_option maxRecDepth 20000 in
theorem gX11_voice_X8_dulls_u254X2 : GoodIn wsX11_voice (va_wsU RX11 254 RX2 "SpoonsLast$Spoon" ⟨"SpoonsLast$Spoon", "dulls", "(LSpoonsLast$Voice;I)I"⟩ yX8_dulls wsX8_dulls) := goodIn_app (goodIn_r _ [56, 57, 78, 58, 34] rfl (by decide +kernel)) ggX11_voice_X8_dulls
set_option maxRecDepth 20000 in
theorem ggX11_voice_X4_dulls : GoodIn wsX11_voice wsX4_dulls := goodIn_r _ [82, 83, 38, 39, 25, 40, 29, 41, 84, 85, 86, 60, 61, 62, 63, 64, 57, 65, 66, 34, 67, 37, 68, 31, 32, 33, 35, 36, 42, 43, 44, 45, 46, 47, 48, 49, 50, 51, 52, 53, 69, 55, 70, 71, 72, 73, 74, 75, 76, 172, 173, 174, 175] rfl (by decide +kernel)
set_option maxRecDepth 20000 in
theorem gX11_voice_X4_dulls_u254X4 : GoodIn wsX11_voice (va_wsO RX11 254 RX4 "SpoonsLast$Spoon" ⟨"SpoonsLast$Spoon", "dulls", "(LSpoonsLast$Voice;I)I"⟩ yX4_dulls wsX4_dulls) := goodIn_app (goodIn_r _ [56, 57, 58, 79, 80, 81] rfl (by decide +kernel)) ggX11_voice_X4_dulls
set_option maxRecDepth 20000 in
theorem gX11_voice_X8_dulls_u254X5 : GoodIn wsX11_voice (va_wsU RX11 254 RX5 "SpoonsLast$Spoon" ⟨"SpoonsLast$Spoon", "dulls", "(LSpoonsLast$Voice;I)I"⟩ yX8_dulls wsX8_dulls) := goodIn_app (goodIn_r _ [56, 57, 87, 58, 34] rfl (by decide +kernel)) ggX11_voice_X8_dulls
set_option maxRecDepth 20000 in
theorem gX11_voice_X8_dulls_u254X6 : GoodIn wsX11_voice (va_wsU RX11 254 RX6 "SpoonsLast$Spoon" ⟨"SpoonsLast$Spoon", "dulls", "(LSpoonsLast$Voice;I)I"⟩ yX8_dulls wsX8_dulls) := goodIn_app (goodIn_r _ [56, 57, 88, 58, 34] rfl (by decide +kernel)) ggX11_voice_X8_dulls
set_option maxRecDepth 20000 in
theorem gX11_voice_X8_dulls : GoodIn wsX11_voice (wsV RX11 254 RX8 yX8_dulls wsX8_dulls) := goodIn_app (goodIn_r _ [56, 58, 90, 34] rfl (by decide +kernel)) ggX11_voice_X8_dulls
set_option maxRecDepth 20000 in
theorem ggX11_voice_X8_holds : GoodIn wsX11_voice wsX8_holds := goodIn_r _ [74, 75, 37, 38, 39, 25, 40, 29, 41, 172, 173, 174, 175] rfl (by decide +kernel)
set_option maxRecDepth 20000 in
theorem gX11_voice_X8_holds_u257X0 : GoodIn wsX11_voice (va_wsU RX11 257 RX0 "SpoonsLast$Spoon" ⟨"SpoonsLast$Spoon", "holds", "(LSpoonsLast$Voice;I)I"⟩ yX8_holds wsX8_holds) := goodIn_app (goodIn_r _ [91, 92, 93, 73, 34] rfl (by decide +kernel)) ggX11_voice_X8_holds
set_option maxRecDepth 20000 in
theorem ggX11_voice_X1_holds : GoodIn wsX11_voice wsX1_holds := goodIn_r _ [98, 99, 100, 38, 39, 25, 40, 29, 41, 101, 102, 103, 104, 105, 106, 107, 108, 92, 109, 73, 34, 74, 75, 37, 172, 173, 174, 175] rfl (by decide +kernel)
set_option maxRecDepth 20000 in
theorem gX11_voice_X1_holds_u257X1 : GoodIn wsX11_voice (va_wsO RX11 257 RX1 "SpoonsLast$Spoon" ⟨"SpoonsLast$Spoon", "holds", "(LSpoonsLast$Voice;I)I"⟩ yX1_holds wsX1_holds) := goodIn_app (goodIn_r _ [91, 92, 73, 95, 96, 97] rfl (by decide +kernel)) ggX11_voice_X1_holds
set_option maxRecDepth 20000 in
theorem gX11_voice_X8_holds_u257X2 : GoodIn wsX11_voice (va_wsU RX11 257 RX2 "SpoonsLast$Spoon" ⟨"SpoonsLast$Spoon", "holds", "(LSpoonsLast$Voice;I)I"⟩ yX8_holds wsX8_holds) := goodIn_app (goodIn_r _ [91, 92, 110, 73, 34] rfl (by decide +kernel)) ggX11_voice_X8_holds
set_option maxRecDepth 20000 in
theorem gX11_voice_X8_holds_u257X4 : GoodIn wsX11_voice (va_wsU RX11 257 RX4 "SpoonsLast$Spoon" ⟨"SpoonsLast$Spoon", "holds", "(LSpoonsLast$Voice;I)I"⟩ yX8_holds wsX8_holds) := goodIn_app (goodIn_r _ [91, 92, 111, 73, 34] rfl (by decide +kernel)) ggX11_voice_X8_holds
set_option maxRecDepth 20000 in
theorem ggX11_voice_X5_holds : GoodIn wsX11_voice wsX5_holds := goodIn_r _ [106, 107, 38, 39, 25, 40, 29, 41, 108, 92, 109, 73, 34, 74, 75, 37, 172, 173, 174, 175] rfl (by decide +kernel)
set_option maxRecDepth 20000 in
theorem gX11_voice_X5_holds_u257X5 : GoodIn wsX11_voice (va_wsO RX11 257 RX5 "SpoonsLast$Spoon" ⟨"SpoonsLast$Spoon", "holds", "(LSpoonsLast$Voice;I)I"⟩ yX5_holds wsX5_holds) := goodIn_app (goodIn_r _ [91, 92, 73, 112, 104, 105] rfl (by decide +kernel)) ggX11_voice_X5_holds
set_option maxRecDepth 20000 in
theorem gX11_voice_X8_holds_u257X6 : GoodIn wsX11_voice (va_wsU RX11 257 RX6 "SpoonsLast$Spoon" ⟨"SpoonsLast$Spoon", "holds", "(LSpoonsLast$Voice;I)I"⟩ yX8_holds wsX8_holds) := goodIn_app (goodIn_r _ [91, 92, 113, 73, 34] rfl (by decide +kernel)) ggX11_voice_X8_holds
set_option maxRecDepth 20000 in
theorem gX11_voice_X8_holds : GoodIn wsX11_voice (wsV RX11 257 RX8 yX8_holds wsX8_holds) := goodIn_app (goodIn_r _ [91, 73, 115, 34] rfl (by decide +kernel)) ggX11_voice_X8_holds
set_option maxRecDepth 20000 in
theorem ggX11_voice_X8_tells : GoodIn wsX11_voice wsX8_tells := goodIn_r _ [120, 37, 38, 39, 25, 40, 29, 41, 121, 57, 58, 59, 60, 61, 62, 63, 64, 65, 66, 34, 67, 68, 31, 32, 33, 35, 36, 42, 43, 44, 45, 46, 47, 48, 49, 50, 51, 52, 53, 69, 55, 70, 71, 72, 73, 74, 75, 76, 77, 78, 79, 80, 81, 82, 83, 84, 85, 86, 87, 88, 122, 90, 123, 92, 93, 94, 95, 96, 97, 98, 99, 100, 101, 102, 103, 104, 105, 106, 107, 108, 109, 110, 111, 112, 113, 124, 115, 172, 173, 174, 175] rfl (by decide +kernel)
set_option maxRecDepth 20000 in
theorem gX11_voice_X8_tells_u260X0 : GoodIn wsX11_voice (va_wsU RX11 260 RX0 "SpoonsLast$Spoon" ⟨"SpoonsLast$Spoon", "tells", "(LSpoonsLast$Voice;I)I"⟩ yX8_tells wsX8_tells) := goodIn_app (goodIn_r _ [116, 117, 118, 119, 34] rfl (by decide +kernel)) ggX11_voice_X8_tells
set_option maxRecDepth 20000 in
theorem ggX11_voice_X1_tells : GoodIn wsX11_voice wsX1_tells := goodIn_r _ [128, 100, 38, 39, 25, 40, 29, 41, 129, 130, 131, 66, 34, 67, 37, 68, 31, 32, 33, 35, 36, 42, 43, 44, 45, 46, 47, 48, 49, 50, 51, 52, 53, 69, 55, 172, 173, 174, 175] rfl (by decide +kernel)
set_option maxRecDepth 20000 in
theorem gX11_voice_X1_tells_u260X1 : GoodIn wsX11_voice (va_wsO RX11 260 RX1 "SpoonsLast$Spoon" ⟨"SpoonsLast$Spoon", "tells", "(LSpoonsLast$Voice;I)I"⟩ yX1_tells wsX1_tells) := goodIn_app (goodIn_r _ [116, 117, 119, 126, 127, 97] rfl (by decide +kernel)) ggX11_voice_X1_tells
set_option maxRecDepth 20000 in
theorem gX11_voice_X8_tells_u260X2 : GoodIn wsX11_voice (va_wsU RX11 260 RX2 "SpoonsLast$Spoon" ⟨"SpoonsLast$Spoon", "tells", "(LSpoonsLast$Voice;I)I"⟩ yX8_tells wsX8_tells) := goodIn_app (goodIn_r _ [116, 117, 132, 119, 34] rfl (by decide +kernel)) ggX11_voice_X8_tells
set_option maxRecDepth 20000 in
theorem gX11_voice_X8_tells_u260X4 : GoodIn wsX11_voice (va_wsU RX11 260 RX4 "SpoonsLast$Spoon" ⟨"SpoonsLast$Spoon", "tells", "(LSpoonsLast$Voice;I)I"⟩ yX8_tells wsX8_tells) := goodIn_app (goodIn_r _ [116, 117, 133, 119, 34] rfl (by decide +kernel)) ggX11_voice_X8_tells
set_option maxRecDepth 20000 in
theorem gX11_voice_X8_tells_u260X5 : GoodIn wsX11_voice (va_wsU RX11 260 RX5 "SpoonsLast$Spoon" ⟨"SpoonsLast$Spoon", "tells", "(LSpoonsLast$Voice;I)I"⟩ yX8_tells wsX8_tells) := goodIn_app (goodIn_r _ [116, 117, 134, 119, 34] rfl (by decide +kernel)) ggX11_voice_X8_tells
set_option maxRecDepth 20000 in
theorem ggX11_voice_X6_tells : GoodIn wsX11_voice wsX6_tells := goodIn_r _ [138, 139, 38, 39, 25, 40, 29, 41, 140, 141, 142, 45, 46, 47, 48, 49, 31, 50, 33, 34, 35, 36, 37, 172, 173, 174, 175] rfl (by decide +kernel)
set_option maxRecDepth 20000 in
theorem gX11_voice_X6_tells_u260X6 : GoodIn wsX11_voice (va_wsO RX11 260 RX6 "SpoonsLast$Spoon" ⟨"SpoonsLast$Spoon", "tells", "(LSpoonsLast$Voice;I)I"⟩ yX6_tells wsX6_tells) := goodIn_app (goodIn_r _ [116, 117, 119, 135, 136, 137] rfl (by decide +kernel)) ggX11_voice_X6_tells
set_option maxRecDepth 20000 in
theorem gX11_voice_X8_tells : GoodIn wsX11_voice (wsV RX11 260 RX8 yX8_tells wsX8_tells) := goodIn_app (goodIn_r _ [116, 119, 144, 34] rfl (by decide +kernel)) ggX11_voice_X8_tells
theorem dX11_voice_0 : decode cX11_voice 0 = .ok (.aload_n 0, 1) := by decide +kernel
theorem dX11_voice_1 : decode cX11_voice 1 = .ok (.iload_n 1, 1) := by decide +kernel
theorem dX11_voice_2 : decode cX11_voice 2 = .ok (.invokevirtual 128, 3) := by decide +kernel
theorem dX11_voice_5 : decode cX11_voice 5 = .ok (.ifCond .eq 12, 3) := by decide +kernel
theorem dX11_voice_8 : decode cX11_voice 8 = .ok (.iload_n 2, 1) := by decide +kernel
theorem dX11_voice_9 : decode cX11_voice 9 = .ok (.iconst 0, 1) := by decide +kernel
theorem dX11_voice_10 : decode cX11_voice 10 = .ok (.iconst 3, 1) := by decide +kernel
theorem dX11_voice_11 : decode cX11_voice 11 = .ok (.invokestatic 74, 3) := by decide +kernel
theorem dX11_voice_14 : decode cX11_voice 14 = .ok (.ifCond .ne 10, 3) := by decide +kernel
theorem dX11_voice_17 : decode cX11_voice 17 = .ok (.aload_n 0, 1) := by decide +kernel
theorem dX11_voice_18 : decode cX11_voice 18 = .ok (.ldc 78, 2) := by decide +kernel
theorem dX11_voice_20 : decode cX11_voice 20 = .ok (.invokevirtual 79, 3) := by decide +kernel
theorem dX11_voice_23 : decode cX11_voice 23 = .ok (.ireturn, 1) := by decide +kernel
theorem dX11_voice_24 : decode cX11_voice 24 = .ok (.aload_n 0, 1) := by decide +kernel
theorem dX11_voice_25 : decode cX11_voice 25 = .ok (.getfield 52, 3) := by decide +kernel
theorem dX11_voice_28 : decode cX11_voice 28 = .ok (.iload_n 1, 1) := by decide +kernel
theorem dX11_voice_29 : decode cX11_voice 29 = .ok (.aload_n 0, 1) := by decide +kernel
theorem dX11_voice_30 : decode cX11_voice 30 = .ok (.getfield 39, 3) := by decide +kernel
theorem dX11_voice_33 : decode cX11_voice 33 = .ok (.getfield 118, 3) := by decide +kernel
theorem dX11_voice_36 : decode cX11_voice 36 = .ok (.iload_n 1, 1) := by decide +kernel
theorem dX11_voice_37 : decode cX11_voice 37 = .ok (.iaload, 1) := by decide +kernel
theorem dX11_voice_38 : decode cX11_voice 38 = .ok (.invokevirtual 246, 3) := by decide +kernel
theorem dX11_voice_41 : decode cX11_voice 41 = .ok (.aload_n 0, 1) := by decide +kernel
theorem dX11_voice_42 : decode cX11_voice 42 = .ok (.getfield 30, 3) := by decide +kernel
theorem dX11_voice_45 : decode cX11_voice 45 = .ok (.aload_n 0, 1) := by decide +kernel
theorem dX11_voice_46 : decode cX11_voice 46 = .ok (.getfield 39, 3) := by decide +kernel
theorem dX11_voice_49 : decode cX11_voice 49 = .ok (.getfield 115, 3) := by decide +kernel
theorem dX11_voice_52 : decode cX11_voice 52 = .ok (.iload_n 1, 1) := by decide +kernel
theorem dX11_voice_53 : decode cX11_voice 53 = .ok (.iaload, 1) := by decide +kernel
theorem dX11_voice_54 : decode cX11_voice 54 = .ok (.aaload, 1) := by decide +kernel
theorem dX11_voice_55 : decode cX11_voice 55 = .ok (.astore 4, 2) := by decide +kernel
theorem dX11_voice_57 : decode cX11_voice 57 = .ok (.iload_n 2, 1) := by decide +kernel
theorem dX11_voice_58 : decode cX11_voice 58 = .ok (.tableswitch 59 0 2 #[26, 37, 48], 26) := by decide +kernel
theorem dX11_voice_84 : decode cX11_voice 84 = .ok (.aload 4, 2) := by decide +kernel
theorem dX11_voice_86 : decode cX11_voice 86 = .ok (.aload_n 0, 1) := by decide +kernel
theorem dX11_voice_87 : decode cX11_voice 87 = .ok (.getfield 52, 3) := by decide +kernel
theorem dX11_voice_90 : decode cX11_voice 90 = .ok (.iload_n 3, 1) := by decide +kernel
theorem dX11_voice_91 : decode cX11_voice 91 = .ok (.invokevirtual 250, 3) := by decide +kernel
theorem dX11_voice_94 : decode cX11_voice 94 = .ok (.ireturn, 1) := by decide +kernel
theorem dX11_voice_95 : decode cX11_voice 95 = .ok (.aload 4, 2) := by decide +kernel
theorem dX11_voice_97 : decode cX11_voice 97 = .ok (.aload_n 0, 1) := by decide +kernel
theorem dX11_voice_98 : decode cX11_voice 98 = .ok (.getfield 52, 3) := by decide +kernel
theorem dX11_voice_101 : decode cX11_voice 101 = .ok (.iload_n 3, 1) := by decide +kernel
theorem dX11_voice_102 : decode cX11_voice 102 = .ok (.invokevirtual 254, 3) := by decide +kernel
theorem dX11_voice_105 : decode cX11_voice 105 = .ok (.ireturn, 1) := by decide +kernel
theorem dX11_voice_106 : decode cX11_voice 106 = .ok (.aload 4, 2) := by decide +kernel
theorem dX11_voice_108 : decode cX11_voice 108 = .ok (.aload_n 0, 1) := by decide +kernel
theorem dX11_voice_109 : decode cX11_voice 109 = .ok (.getfield 52, 3) := by decide +kernel
theorem dX11_voice_112 : decode cX11_voice 112 = .ok (.iload_n 3, 1) := by decide +kernel
theorem dX11_voice_113 : decode cX11_voice 113 = .ok (.invokevirtual 257, 3) := by decide +kernel
theorem dX11_voice_116 : decode cX11_voice 116 = .ok (.ireturn, 1) := by decide +kernel
theorem dX11_voice_117 : decode cX11_voice 117 = .ok (.aload 4, 2) := by decide +kernel
theorem dX11_voice_119 : decode cX11_voice 119 = .ok (.aload_n 0, 1) := by decide +kernel
theorem dX11_voice_120 : decode cX11_voice 120 = .ok (.getfield 52, 3) := by decide +kernel
theorem dX11_voice_123 : decode cX11_voice 123 = .ok (.iload_n 3, 1) := by decide +kernel
theorem dX11_voice_124 : decode cX11_voice 124 = .ok (.invokevirtual 260, 3) := by decide +kernel
theorem dX11_voice_127 : decode cX11_voice 127 = .ok (.ireturn, 1) := by decide +kernel
set_option maxRecDepth 20000 in
theorem ggX11_trace_X11_within : GoodIn wsX11_trace wsX11_within := goodIn_r _ [8] rfl (by decide +kernel)
set_option maxRecDepth 20000 in
theorem gX11_trace_X11_within : GoodIn wsX11_trace (va_wsS RX11 74 yX11_within wsX11_within) := goodIn_app (goodIn_r _ [5, 6, 7] rfl (by decide +kernel)) ggX11_trace_X11_within
set_option maxRecDepth 20000 in
theorem ggX11_trace_X11_refused : GoodIn wsX11_trace wsX11_refused := goodIn_r _ [12, 13, 14, 15, 16, 17, 18, 19, 20, 21, 22, 23] rfl (by decide +kernel)
set_option maxRecDepth 20000 in
theorem gX11_trace_X11_refused : GoodIn wsX11_trace (wsV RX11 79 RX11 yX11_refused wsX11_refused) := goodIn_app (goodIn_r _ [9, 10, 11, 7] rfl (by decide +kernel)) ggX11_trace_X11_refused
theorem dX11_trace_0 : decode cX11_trace 0 = .ok (.iload_n 1, 1) := by decide +kernel
theorem dX11_trace_1 : decode cX11_trace 1 = .ok (.iconst 0, 1) := by decide +kernel
theorem dX11_trace_2 : decode cX11_trace 2 = .ok (.aload_n 0, 1) := by decide +kernel
theorem dX11_trace_3 : decode cX11_trace 3 = .ok (.getfield 52, 3) := by decide +kernel
theorem dX11_trace_6 : decode cX11_trace 6 = .ok (.getfield 263, 3) := by decide +kernel
theorem dX11_trace_9 : decode cX11_trace 9 = .ok (.iconst 1, 1) := by decide +kernel
theorem dX11_trace_10 : decode cX11_trace 10 = .ok (.isub, 1) := by decide +kernel
theorem dX11_trace_11 : decode cX11_trace 11 = .ok (.invokestatic 74, 3) := by decide +kernel
theorem dX11_trace_14 : decode cX11_trace 14 = .ok (.ifCond .eq 15, 3) := by decide +kernel
theorem dX11_trace_17 : decode cX11_trace 17 = .ok (.aload_n 0, 1) := by decide +kernel
theorem dX11_trace_18 : decode cX11_trace 18 = .ok (.getfield 52, 3) := by decide +kernel
theorem dX11_trace_21 : decode cX11_trace 21 = .ok (.getfield 266, 3) := by decide +kernel
theorem dX11_trace_24 : decode cX11_trace 24 = .ok (.iload_n 1, 1) := by decide +kernel
theorem dX11_trace_25 : decode cX11_trace 25 = .ok (.iaload, 1) := by decide +kernel
theorem dX11_trace_26 : decode cX11_trace 26 = .ok (.goto 9, 3) := by decide +kernel
theorem dX11_trace_29 : decode cX11_trace 29 = .ok (.aload_n 0, 1) := by decide +kernel
theorem dX11_trace_30 : decode cX11_trace 30 = .ok (.ldc 204, 2) := by decide +kernel
theorem dX11_trace_32 : decode cX11_trace 32 = .ok (.invokevirtual 79, 3) := by decide +kernel
theorem dX11_trace_35 : decode cX11_trace 35 = .ok (.ireturn, 1) := by decide +kernel
set_option maxRecDepth 20000 in
theorem ggX11_sheet_X11_isSheet : GoodIn wsX11_sheet wsX11_isSheet := goodIn_r _ [7, 8, 9, 6, 10] rfl (by decide +kernel)
set_option maxRecDepth 20000 in
theorem gX11_sheet_X11_isSheet : GoodIn wsX11_sheet (va_wsS RX11 205 yX11_isSheet wsX11_isSheet) := goodIn_app (goodIn_r _ [4, 5, 6] rfl (by decide +kernel)) ggX11_sheet_X11_isSheet
set_option maxRecDepth 20000 in
theorem ggX11_sheet_X11_refused : GoodIn wsX11_sheet wsX11_refused := goodIn_r _ [14, 15, 16, 29, 30, 31, 32, 33, 34, 35, 36, 37] rfl (by decide +kernel)
set_option maxRecDepth 20000 in
theorem gX11_sheet_X11_refused : GoodIn wsX11_sheet (wsV RX11 79 RX11 yX11_refused wsX11_refused) := goodIn_app (goodIn_r _ [11, 12, 13, 6] rfl (by decide +kernel)) ggX11_sheet_X11_refused
set_option maxRecDepth 20000 in
theorem ggX11_sheet_X7_begin : GoodIn wsX11_sheet wsX7_begin := goodIn_r _ [21, 22, 23, 24, 25, 26, 27, 28, 38, 39, 40] rfl (by decide +kernel)
set_option maxRecDepth 20000 in
theorem gX11_sheet_X7_begin : GoodIn wsX11_sheet (wsV RX11 269 RX7 yX7_begin wsX7_begin) := goodIn_app (goodIn_r _ [17, 18, 19, 20] rfl (by decide +kernel)) ggX11_sheet_X7_begin
theorem dX11_sheet_0 : decode cX11_sheet 0 = .ok (.iload_n 1, 1) := by decide +kernel
theorem dX11_sheet_1 : decode cX11_sheet 1 = .ok (.invokestatic 205, 3) := by decide +kernel
theorem dX11_sheet_4 : decode cX11_sheet 4 = .ok (.ifCond .eq 25, 3) := by decide +kernel
theorem dX11_sheet_7 : decode cX11_sheet 7 = .ok (.iload_n 2, 1) := by decide +kernel
theorem dX11_sheet_8 : decode cX11_sheet 8 = .ok (.ifCond .eq 28, 3) := by decide +kernel
theorem dX11_sheet_11 : decode cX11_sheet 11 = .ok (.iload_n 2, 1) := by decide +kernel
theorem dX11_sheet_12 : decode cX11_sheet 12 = .ok (.bipush 8, 2) := by decide +kernel
theorem dX11_sheet_14 : decode cX11_sheet 14 = .ok (.if_icmp .eq 22, 3) := by decide +kernel
theorem dX11_sheet_17 : decode cX11_sheet 17 = .ok (.iload_n 2, 1) := by decide +kernel
theorem dX11_sheet_18 : decode cX11_sheet 18 = .ok (.bipush 16, 2) := by decide +kernel
theorem dX11_sheet_20 : decode cX11_sheet 20 = .ok (.if_icmp .eq 16, 3) := by decide +kernel
theorem dX11_sheet_23 : decode cX11_sheet 23 = .ok (.iload_n 2, 1) := by decide +kernel
theorem dX11_sheet_24 : decode cX11_sheet 24 = .ok (.bipush 32, 2) := by decide +kernel
theorem dX11_sheet_26 : decode cX11_sheet 26 = .ok (.if_icmp .eq 10, 3) := by decide +kernel
theorem dX11_sheet_29 : decode cX11_sheet 29 = .ok (.aload_n 0, 1) := by decide +kernel
theorem dX11_sheet_30 : decode cX11_sheet 30 = .ok (.ldc 78, 2) := by decide +kernel
theorem dX11_sheet_32 : decode cX11_sheet 32 = .ok (.invokevirtual 79, 3) := by decide +kernel
theorem dX11_sheet_35 : decode cX11_sheet 35 = .ok (.ireturn, 1) := by decide +kernel
theorem dX11_sheet_36 : decode cX11_sheet 36 = .ok (.iload_n 2, 1) := by decide +kernel
theorem dX11_sheet_37 : decode cX11_sheet 37 = .ok (.ifCond .eq 14, 3) := by decide +kernel
theorem dX11_sheet_40 : decode cX11_sheet 40 = .ok (.iload_n 3, 1) := by decide +kernel
theorem dX11_sheet_41 : decode cX11_sheet 41 = .ok (.ifCond .ge 10, 3) := by decide +kernel
theorem dX11_sheet_44 : decode cX11_sheet 44 = .ok (.aload_n 0, 1) := by decide +kernel
theorem dX11_sheet_45 : decode cX11_sheet 45 = .ok (.ldc 181, 2) := by decide +kernel
theorem dX11_sheet_47 : decode cX11_sheet 47 = .ok (.invokevirtual 79, 3) := by decide +kernel
theorem dX11_sheet_50 : decode cX11_sheet 50 = .ok (.ireturn, 1) := by decide +kernel
theorem dX11_sheet_51 : decode cX11_sheet 51 = .ok (.iload_n 2, 1) := by decide +kernel
theorem dX11_sheet_52 : decode cX11_sheet 52 = .ok (.ifCond .eq 16, 3) := by decide +kernel
theorem dX11_sheet_55 : decode cX11_sheet 55 = .ok (.iload_n 3, 1) := by decide +kernel
theorem dX11_sheet_56 : decode cX11_sheet 56 = .ok (.bipush 40, 2) := by decide +kernel
theorem dX11_sheet_58 : decode cX11_sheet 58 = .ok (.if_icmp .le 10, 3) := by decide +kernel
theorem dX11_sheet_61 : decode cX11_sheet 61 = .ok (.aload_n 0, 1) := by decide +kernel
theorem dX11_sheet_62 : decode cX11_sheet 62 = .ok (.ldc 78, 2) := by decide +kernel
theorem dX11_sheet_64 : decode cX11_sheet 64 = .ok (.invokevirtual 79, 3) := by decide +kernel
theorem dX11_sheet_67 : decode cX11_sheet 67 = .ok (.ireturn, 1) := by decide +kernel
theorem dX11_sheet_68 : decode cX11_sheet 68 = .ok (.aload_n 0, 1) := by decide +kernel
theorem dX11_sheet_69 : decode cX11_sheet 69 = .ok (.getfield 58, 3) := by decide +kernel
theorem dX11_sheet_72 : decode cX11_sheet 72 = .ok (.iload_n 1, 1) := by decide +kernel
theorem dX11_sheet_73 : decode cX11_sheet 73 = .ok (.aaload, 1) := by decide +kernel
theorem dX11_sheet_74 : decode cX11_sheet 74 = .ok (.iload_n 2, 1) := by decide +kernel
theorem dX11_sheet_75 : decode cX11_sheet 75 = .ok (.iload_n 2, 1) := by decide +kernel
theorem dX11_sheet_76 : decode cX11_sheet 76 = .ok (.ifCond .ne 7, 3) := by decide +kernel
theorem dX11_sheet_79 : decode cX11_sheet 79 = .ok (.iconst 0, 1) := by decide +kernel
theorem dX11_sheet_80 : decode cX11_sheet 80 = .ok (.goto 4, 3) := by decide +kernel
theorem dX11_sheet_83 : decode cX11_sheet 83 = .ok (.iload_n 3, 1) := by decide +kernel
theorem dX11_sheet_84 : decode cX11_sheet 84 = .ok (.invokevirtual 269, 3) := by decide +kernel
theorem dX11_sheet_87 : decode cX11_sheet 87 = .ok (.iconst 1, 1) := by decide +kernel
theorem dX11_sheet_88 : decode cX11_sheet 88 = .ok (.ireturn, 1) := by decide +kernel
set_option maxRecDepth 20000 in
theorem ggX11_put_X11_isSheet : GoodIn wsX11_put wsX11_isSheet := goodIn_r _ [9, 10, 11, 8, 12] rfl (by decide +kernel)
set_option maxRecDepth 20000 in
theorem gX11_put_X11_isSheet : GoodIn wsX11_put (va_wsS RX11 205 yX11_isSheet wsX11_isSheet) := goodIn_app (goodIn_r _ [6, 7, 8] rfl (by decide +kernel)) ggX11_put_X11_isSheet
set_option maxRecDepth 20000 in
theorem ggX11_put_X11_refused : GoodIn wsX11_put wsX11_refused := goodIn_r _ [16, 17, 18, 30, 31, 32, 33, 34, 35, 36, 37, 38] rfl (by decide +kernel)
set_option maxRecDepth 20000 in
theorem gX11_put_X11_refused : GoodIn wsX11_put (wsV RX11 79 RX11 yX11_refused wsX11_refused) := goodIn_app (goodIn_r _ [13, 14, 15, 8] rfl (by decide +kernel)) ggX11_put_X11_refused
set_option maxRecDepth 20000 in
theorem ggX11_put_X7_hasStanding : GoodIn wsX11_put wsX7_hasStanding := goodIn_r _ [23, 24, 39, 40, 41] rfl (by decide +kernel)
set_option maxRecDepth 20000 in
theorem gX11_put_X7_hasStanding : GoodIn wsX11_put (wsV RX11 272 RX7 yX7_hasStanding wsX7_hasStanding) := goodIn_app (goodIn_r _ [19, 20, 21, 22] rfl (by decide +kernel)) ggX11_put_X7_hasStanding
set_option maxRecDepth 20000 in
theorem ggX11_put_X7_lowestBits : GoodIn wsX11_put wsX7_lowestBits := goodIn_r _ [28, 29, 39, 40, 41] rfl (by decide +kernel)
set_option maxRecDepth 20000 in
theorem gX11_put_X7_lowestBits : GoodIn wsX11_put (wsV RX11 276 RX7 yX7_lowestBits wsX7_lowestBits) := goodIn_app (goodIn_r _ [25, 26, 27, 22] rfl (by decide +kernel)) ggX11_put_X7_lowestBits
theorem dX11_put_0 : decode cX11_put 0 = .ok (.iload_n 1, 1) := by decide +kernel
theorem dX11_put_1 : decode cX11_put 1 = .ok (.invokestatic 205, 3) := by decide +kernel
theorem dX11_put_4 : decode cX11_put 4 = .ok (.ifCond .ne 10, 3) := by decide +kernel
theorem dX11_put_7 : decode cX11_put 7 = .ok (.aload_n 0, 1) := by decide +kernel
theorem dX11_put_8 : decode cX11_put 8 = .ok (.ldc 78, 2) := by decide +kernel
theorem dX11_put_10 : decode cX11_put 10 = .ok (.invokevirtual 79, 3) := by decide +kernel
theorem dX11_put_13 : decode cX11_put 13 = .ok (.ireturn, 1) := by decide +kernel
theorem dX11_put_14 : decode cX11_put 14 = .ok (.aload_n 0, 1) := by decide +kernel
theorem dX11_put_15 : decode cX11_put 15 = .ok (.getfield 58, 3) := by decide +kernel
theorem dX11_put_18 : decode cX11_put 18 = .ok (.iload_n 1, 1) := by decide +kernel
theorem dX11_put_19 : decode cX11_put 19 = .ok (.aaload, 1) := by decide +kernel
theorem dX11_put_20 : decode cX11_put 20 = .ok (.astore 4, 2) := by decide +kernel
theorem dX11_put_22 : decode cX11_put 22 = .ok (.aload 4, 2) := by decide +kernel
theorem dX11_put_24 : decode cX11_put 24 = .ok (.getfield 208, 3) := by decide +kernel
theorem dX11_put_27 : decode cX11_put 27 = .ok (.ifCond .ne 10, 3) := by decide +kernel
theorem dX11_put_30 : decode cX11_put 30 = .ok (.aload_n 0, 1) := by decide +kernel
theorem dX11_put_31 : decode cX11_put 31 = .ok (.ldc 204, 2) := by decide +kernel
theorem dX11_put_33 : decode cX11_put 33 = .ok (.invokevirtual 79, 3) := by decide +kernel
theorem dX11_put_36 : decode cX11_put 36 = .ok (.ireturn, 1) := by decide +kernel
theorem dX11_put_37 : decode cX11_put 37 = .ok (.aload 4, 2) := by decide +kernel
theorem dX11_put_39 : decode cX11_put 39 = .ok (.iload_n 2, 1) := by decide +kernel
theorem dX11_put_40 : decode cX11_put 40 = .ok (.iconst 1, 1) := by decide +kernel
theorem dX11_put_41 : decode cX11_put 41 = .ok (.invokevirtual 272, 3) := by decide +kernel
theorem dX11_put_44 : decode cX11_put 44 = .ok (.ifCond .ne 10, 3) := by decide +kernel
theorem dX11_put_47 : decode cX11_put 47 = .ok (.aload_n 0, 1) := by decide +kernel
theorem dX11_put_48 : decode cX11_put 48 = .ok (.ldc 78, 2) := by decide +kernel
theorem dX11_put_50 : decode cX11_put 50 = .ok (.invokevirtual 79, 3) := by decide +kernel
theorem dX11_put_53 : decode cX11_put 53 = .ok (.ireturn, 1) := by decide +kernel
theorem dX11_put_54 : decode cX11_put 54 = .ok (.aload 4, 2) := by decide +kernel
theorem dX11_put_56 : decode cX11_put 56 = .ok (.getfield 211, 3) := by decide +kernel
theorem dX11_put_59 : decode cX11_put 59 = .ok (.iload_n 2, 1) := by decide +kernel
theorem dX11_put_60 : decode cX11_put 60 = .ok (.aload 4, 2) := by decide +kernel
theorem dX11_put_62 : decode cX11_put 62 = .ok (.iload_n 3, 1) := by decide +kernel
theorem dX11_put_63 : decode cX11_put 63 = .ok (.invokevirtual 276, 3) := by decide +kernel
theorem dX11_put_66 : decode cX11_put 66 = .ok (.iastore, 1) := by decide +kernel
theorem dX11_put_67 : decode cX11_put 67 = .ok (.iconst 1, 1) := by decide +kernel
theorem dX11_put_68 : decode cX11_put 68 = .ok (.ireturn, 1) := by decide +kernel
set_option maxRecDepth 20000 in
theorem ggX11_move_X11_isSheet : GoodIn wsX11_move wsX11_isSheet := goodIn_r _ [14, 15, 16, 13, 17] rfl (by decide +kernel)
set_option maxRecDepth 20000 in
theorem gX11_move_X11_isSheet : GoodIn wsX11_move (va_wsS RX11 205 yX11_isSheet wsX11_isSheet) := goodIn_app (goodIn_r _ [11, 12, 13] rfl (by decide +kernel)) ggX11_move_X11_isSheet
set_option maxRecDepth 20000 in
theorem ggX11_move_X11_refused : GoodIn wsX11_move wsX11_refused := goodIn_r _ [21, 22, 23, 30, 31, 32, 33, 34, 35, 36, 37, 38] rfl (by decide +kernel)
set_option maxRecDepth 20000 in
theorem gX11_move_X11_refused : GoodIn wsX11_move (wsV RX11 79 RX11 yX11_refused wsX11_refused) := goodIn_app (goodIn_r _ [18, 19, 20, 13] rfl (by decide +kernel)) ggX11_move_X11_refused
set_option maxRecDepth 20000 in
theorem ggX11_move_X7_hasStanding : GoodIn wsX11_move wsX7_hasStanding := goodIn_r _ [28, 29, 39, 40, 41] rfl (by decide +kernel)
set_option maxRecDepth 20000 in
theorem gX11_move_X7_hasStanding : GoodIn wsX11_move (wsV RX11 272 RX7 yX7_hasStanding wsX7_hasStanding) := goodIn_app (goodIn_r _ [24, 25, 26, 27] rfl (by decide +kernel)) ggX11_move_X7_hasStanding
theorem dX11_move_0 : decode cX11_move 0 = .ok (.iload_n 1, 1) := by decide +kernel
theorem dX11_move_1 : decode cX11_move 1 = .ok (.invokestatic 205, 3) := by decide +kernel
theorem dX11_move_4 : decode cX11_move 4 = .ok (.ifCond .eq 10, 3) := by decide +kernel
theorem dX11_move_7 : decode cX11_move 7 = .ok (.iload_n 3, 1) := by decide +kernel
theorem dX11_move_8 : decode cX11_move 8 = .ok (.invokestatic 205, 3) := by decide +kernel
theorem dX11_move_11 : decode cX11_move 11 = .ok (.ifCond .ne 10, 3) := by decide +kernel
theorem dX11_move_14 : decode cX11_move 14 = .ok (.aload_n 0, 1) := by decide +kernel
theorem dX11_move_15 : decode cX11_move 15 = .ok (.ldc 78, 2) := by decide +kernel
theorem dX11_move_17 : decode cX11_move 17 = .ok (.invokevirtual 79, 3) := by decide +kernel
theorem dX11_move_20 : decode cX11_move 20 = .ok (.ireturn, 1) := by decide +kernel
theorem dX11_move_21 : decode cX11_move 21 = .ok (.aload_n 0, 1) := by decide +kernel
theorem dX11_move_22 : decode cX11_move 22 = .ok (.getfield 58, 3) := by decide +kernel
theorem dX11_move_25 : decode cX11_move 25 = .ok (.iload_n 1, 1) := by decide +kernel
theorem dX11_move_26 : decode cX11_move 26 = .ok (.aaload, 1) := by decide +kernel
theorem dX11_move_27 : decode cX11_move 27 = .ok (.astore 6, 2) := by decide +kernel
theorem dX11_move_29 : decode cX11_move 29 = .ok (.aload_n 0, 1) := by decide +kernel
theorem dX11_move_30 : decode cX11_move 30 = .ok (.getfield 58, 3) := by decide +kernel
theorem dX11_move_33 : decode cX11_move 33 = .ok (.iload_n 3, 1) := by decide +kernel
theorem dX11_move_34 : decode cX11_move 34 = .ok (.aaload, 1) := by decide +kernel
theorem dX11_move_35 : decode cX11_move 35 = .ok (.astore 7, 2) := by decide +kernel
theorem dX11_move_37 : decode cX11_move 37 = .ok (.aload 6, 2) := by decide +kernel
theorem dX11_move_39 : decode cX11_move 39 = .ok (.getfield 208, 3) := by decide +kernel
theorem dX11_move_42 : decode cX11_move 42 = .ok (.ifCond .eq 11, 3) := by decide +kernel
theorem dX11_move_45 : decode cX11_move 45 = .ok (.aload 7, 2) := by decide +kernel
theorem dX11_move_47 : decode cX11_move 47 = .ok (.getfield 208, 3) := by decide +kernel
theorem dX11_move_50 : decode cX11_move 50 = .ok (.ifCond .ne 10, 3) := by decide +kernel
theorem dX11_move_53 : decode cX11_move 53 = .ok (.aload_n 0, 1) := by decide +kernel
theorem dX11_move_54 : decode cX11_move 54 = .ok (.ldc 204, 2) := by decide +kernel
theorem dX11_move_56 : decode cX11_move 56 = .ok (.invokevirtual 79, 3) := by decide +kernel
theorem dX11_move_59 : decode cX11_move 59 = .ok (.ireturn, 1) := by decide +kernel
theorem dX11_move_60 : decode cX11_move 60 = .ok (.aload 6, 2) := by decide +kernel
theorem dX11_move_62 : decode cX11_move 62 = .ok (.getfield 208, 3) := by decide +kernel
theorem dX11_move_65 : decode cX11_move 65 = .ok (.aload 7, 2) := by decide +kernel
theorem dX11_move_67 : decode cX11_move 67 = .ok (.getfield 208, 3) := by decide +kernel
theorem dX11_move_70 : decode cX11_move 70 = .ok (.if_icmp .eq 10, 3) := by decide +kernel
theorem dX11_move_73 : decode cX11_move 73 = .ok (.aload_n 0, 1) := by decide +kernel
theorem dX11_move_74 : decode cX11_move 74 = .ok (.ldc 148, 2) := by decide +kernel
theorem dX11_move_76 : decode cX11_move 76 = .ok (.invokevirtual 79, 3) := by decide +kernel
theorem dX11_move_79 : decode cX11_move 79 = .ok (.ireturn, 1) := by decide +kernel
theorem dX11_move_80 : decode cX11_move 80 = .ok (.aload 6, 2) := by decide +kernel
theorem dX11_move_82 : decode cX11_move 82 = .ok (.iload_n 2, 1) := by decide +kernel
theorem dX11_move_83 : decode cX11_move 83 = .ok (.iload 5, 2) := by decide +kernel
theorem dX11_move_85 : decode cX11_move 85 = .ok (.invokevirtual 272, 3) := by decide +kernel
theorem dX11_move_88 : decode cX11_move 88 = .ok (.ifCond .eq 15, 3) := by decide +kernel
theorem dX11_move_91 : decode cX11_move 91 = .ok (.aload 7, 2) := by decide +kernel
theorem dX11_move_93 : decode cX11_move 93 = .ok (.iload 4, 2) := by decide +kernel
theorem dX11_move_95 : decode cX11_move 95 = .ok (.iload 5, 2) := by decide +kernel
theorem dX11_move_97 : decode cX11_move 97 = .ok (.invokevirtual 272, 3) := by decide +kernel
theorem dX11_move_100 : decode cX11_move 100 = .ok (.ifCond .ne 10, 3) := by decide +kernel
theorem dX11_move_103 : decode cX11_move 103 = .ok (.aload_n 0, 1) := by decide +kernel
theorem dX11_move_104 : decode cX11_move 104 = .ok (.ldc 78, 2) := by decide +kernel
theorem dX11_move_106 : decode cX11_move 106 = .ok (.invokevirtual 79, 3) := by decide +kernel
theorem dX11_move_109 : decode cX11_move 109 = .ok (.ireturn, 1) := by decide +kernel
theorem dX11_move_110 : decode cX11_move 110 = .ok (.aload 6, 2) := by decide +kernel
theorem dX11_move_112 : decode cX11_move 112 = .ok (.getfield 211, 3) := by decide +kernel
theorem dX11_move_115 : decode cX11_move 115 = .ok (.iload_n 2, 1) := by decide +kernel
theorem dX11_move_116 : decode cX11_move 116 = .ok (.aload 7, 2) := by decide +kernel
theorem dX11_move_118 : decode cX11_move 118 = .ok (.getfield 211, 3) := by decide +kernel
theorem dX11_move_121 : decode cX11_move 121 = .ok (.iload 4, 2) := by decide +kernel
theorem dX11_move_123 : decode cX11_move 123 = .ok (.iload 5, 2) := by decide +kernel
theorem dX11_move_125 : decode cX11_move 125 = .ok (.invokestatic 279, 3) := by decide +kernel
theorem dX11_move_128 : decode cX11_move 128 = .ok (.iload 5, 2) := by decide +kernel
theorem dX11_move_130 : decode cX11_move 130 = .ok (.ireturn, 1) := by decide +kernel
set_option maxRecDepth 20000 in
theorem ggX11_weights_X11_isSheet : GoodIn wsX11_weights wsX11_isSheet := goodIn_r _ [16, 17, 18, 15, 19] rfl (by decide +kernel)
set_option maxRecDepth 20000 in
theorem gX11_weights_X11_isSheet : GoodIn wsX11_weights (va_wsS RX11 205 yX11_isSheet wsX11_isSheet) := goodIn_app (goodIn_r _ [13, 14, 15] rfl (by decide +kernel)) ggX11_weights_X11_isSheet
set_option maxRecDepth 20000 in
theorem ggX11_weights_X11_refused : GoodIn wsX11_weights wsX11_refused := goodIn_r _ [23, 24, 25, 26, 27, 28, 29, 30, 31, 32, 33, 34] rfl (by decide +kernel)
set_option maxRecDepth 20000 in
theorem gX11_weights_X11_refused : GoodIn wsX11_weights (wsV RX11 79 RX11 yX11_refused wsX11_refused) := goodIn_app (goodIn_r _ [20, 21, 22, 15] rfl (by decide +kernel)) ggX11_weights_X11_refused
set_option maxRecDepth 20000 in
theorem ggX11_weights_X11_within : GoodIn wsX11_weights wsX11_within := goodIn_r _ [19] rfl (by decide +kernel)
set_option maxRecDepth 20000 in
theorem gX11_weights_X11_within : GoodIn wsX11_weights (va_wsS RX11 74 yX11_within wsX11_within) := goodIn_app (goodIn_r _ [17, 18, 15] rfl (by decide +kernel)) ggX11_weights_X11_within
theorem dX11_weights_0 : decode cX11_weights 0 = .ok (.iload_n 1, 1) := by decide +kernel
theorem dX11_weights_1 : decode cX11_weights 1 = .ok (.invokestatic 205, 3) := by decide +kernel
theorem dX11_weights_4 : decode cX11_weights 4 = .ok (.ifCond .ne 10, 3) := by decide +kernel
theorem dX11_weights_7 : decode cX11_weights 7 = .ok (.aload_n 0, 1) := by decide +kernel
theorem dX11_weights_8 : decode cX11_weights 8 = .ok (.ldc 78, 2) := by decide +kernel
theorem dX11_weights_10 : decode cX11_weights 10 = .ok (.invokevirtual 79, 3) := by decide +kernel
theorem dX11_weights_13 : decode cX11_weights 13 = .ok (.ireturn, 1) := by decide +kernel
theorem dX11_weights_14 : decode cX11_weights 14 = .ok (.aload_n 0, 1) := by decide +kernel
theorem dX11_weights_15 : decode cX11_weights 15 = .ok (.getfield 58, 3) := by decide +kernel
theorem dX11_weights_18 : decode cX11_weights 18 = .ok (.iload_n 1, 1) := by decide +kernel
theorem dX11_weights_19 : decode cX11_weights 19 = .ok (.aaload, 1) := by decide +kernel
theorem dX11_weights_20 : decode cX11_weights 20 = .ok (.astore_n 2, 1) := by decide +kernel
theorem dX11_weights_21 : decode cX11_weights 21 = .ok (.aload_n 2, 1) := by decide +kernel
theorem dX11_weights_22 : decode cX11_weights 22 = .ok (.getfield 208, 3) := by decide +kernel
theorem dX11_weights_25 : decode cX11_weights 25 = .ok (.ifCond .ne 10, 3) := by decide +kernel
theorem dX11_weights_28 : decode cX11_weights 28 = .ok (.aload_n 0, 1) := by decide +kernel
theorem dX11_weights_29 : decode cX11_weights 29 = .ok (.ldc 204, 2) := by decide +kernel
theorem dX11_weights_31 : decode cX11_weights 31 = .ok (.invokevirtual 79, 3) := by decide +kernel
theorem dX11_weights_34 : decode cX11_weights 34 = .ok (.ireturn, 1) := by decide +kernel
theorem dX11_weights_35 : decode cX11_weights 35 = .ok (.aload_n 2, 1) := by decide +kernel
theorem dX11_weights_36 : decode cX11_weights 36 = .ok (.getfield 214, 3) := by decide +kernel
theorem dX11_weights_39 : decode cX11_weights 39 = .ok (.bipush 12, 2) := by decide +kernel
theorem dX11_weights_41 : decode cX11_weights 41 = .ok (.invokestatic 285, 3) := by decide +kernel
theorem dX11_weights_44 : decode cX11_weights 44 = .ok (.istore_n 3, 1) := by decide +kernel
theorem dX11_weights_45 : decode cX11_weights 45 = .ok (.iconst 0, 1) := by decide +kernel
theorem dX11_weights_46 : decode cX11_weights 46 = .ok (.istore 4, 2) := by decide +kernel
theorem dX11_weights_48 : decode cX11_weights 48 = .ok (.iload 4, 2) := by decide +kernel
theorem dX11_weights_50 : decode cX11_weights 50 = .ok (.iload_n 3, 1) := by decide +kernel
theorem dX11_weights_51 : decode cX11_weights 51 = .ok (.if_icmp .ge 45, 3) := by decide +kernel
theorem dX11_weights_54 : decode cX11_weights 54 = .ok (.aload_n 2, 1) := by decide +kernel
theorem dX11_weights_55 : decode cX11_weights 55 = .ok (.getfield 211, 3) := by decide +kernel
theorem dX11_weights_58 : decode cX11_weights 58 = .ok (.iload 4, 2) := by decide +kernel
theorem dX11_weights_60 : decode cX11_weights 60 = .ok (.iaload, 1) := by decide +kernel
theorem dX11_weights_61 : decode cX11_weights 61 = .ok (.iconst 0, 1) := by decide +kernel
theorem dX11_weights_62 : decode cX11_weights 62 = .ok (.bipush 9, 2) := by decide +kernel
theorem dX11_weights_64 : decode cX11_weights 64 = .ok (.invokestatic 74, 3) := by decide +kernel
theorem dX11_weights_67 : decode cX11_weights 67 = .ok (.ifCond .ne 6, 3) := by decide +kernel
theorem dX11_weights_70 : decode cX11_weights 70 = .ok (.iload 4, 2) := by decide +kernel
theorem dX11_weights_72 : decode cX11_weights 72 = .ok (.ireturn, 1) := by decide +kernel
theorem dX11_weights_73 : decode cX11_weights 73 = .ok (.aload_n 0, 1) := by decide +kernel
theorem dX11_weights_74 : decode cX11_weights 74 = .ok (.getfield 39, 3) := by decide +kernel
theorem dX11_weights_77 : decode cX11_weights 77 = .ok (.getfield 83, 3) := by decide +kernel
theorem dX11_weights_80 : decode cX11_weights 80 = .ok (.iload 4, 2) := by decide +kernel
theorem dX11_weights_82 : decode cX11_weights 82 = .ok (.aload_n 2, 1) := by decide +kernel
theorem dX11_weights_83 : decode cX11_weights 83 = .ok (.getfield 211, 3) := by decide +kernel
theorem dX11_weights_86 : decode cX11_weights 86 = .ok (.iload 4, 2) := by decide +kernel
theorem dX11_weights_88 : decode cX11_weights 88 = .ok (.iaload, 1) := by decide +kernel
theorem dX11_weights_89 : decode cX11_weights 89 = .ok (.iastore, 1) := by decide +kernel
theorem dX11_weights_90 : decode cX11_weights 90 = .ok (.iinc 4 1, 3) := by decide +kernel
theorem dX11_weights_93 : decode cX11_weights 93 = .ok (.goto (-45), 3) := by decide +kernel
theorem dX11_weights_96 : decode cX11_weights 96 = .ok (.iload_n 3, 1) := by decide +kernel
theorem dX11_weights_97 : decode cX11_weights 97 = .ok (.ireturn, 1) := by decide +kernel
set_option maxRecDepth 20000 in
theorem ggX11_judge_X11_isSheet : GoodIn wsX11_judge wsX11_isSheet := goodIn_r _ [17, 18, 19, 16, 20] rfl (by decide +kernel)
set_option maxRecDepth 20000 in
theorem gX11_judge_X11_isSheet : GoodIn wsX11_judge (va_wsS RX11 205 yX11_isSheet wsX11_isSheet) := goodIn_app (goodIn_r _ [14, 15, 16] rfl (by decide +kernel)) ggX11_judge_X11_isSheet
set_option maxRecDepth 20000 in
theorem ggX11_judge_X11_refused : GoodIn wsX11_judge wsX11_refused := goodIn_r _ [24, 25, 26, 27, 28, 29, 30, 31, 32, 33, 34, 35] rfl (by decide +kernel)
set_option maxRecDepth 20000 in
theorem gX11_judge_X11_refused : GoodIn wsX11_judge (wsV RX11 79 RX11 yX11_refused wsX11_refused) := goodIn_app (goodIn_r _ [21, 22, 23, 16] rfl (by decide +kernel)) ggX11_judge_X11_refused
theorem dX11_judge_0 : decode cX11_judge 0 = .ok (.iload_n 1, 1) := by decide +kernel
theorem dX11_judge_1 : decode cX11_judge 1 = .ok (.invokestatic 205, 3) := by decide +kernel
theorem dX11_judge_4 : decode cX11_judge 4 = .ok (.ifCond .ne 10, 3) := by decide +kernel
theorem dX11_judge_7 : decode cX11_judge 7 = .ok (.aload_n 0, 1) := by decide +kernel
theorem dX11_judge_8 : decode cX11_judge 8 = .ok (.ldc 78, 2) := by decide +kernel
theorem dX11_judge_10 : decode cX11_judge 10 = .ok (.invokevirtual 79, 3) := by decide +kernel
theorem dX11_judge_13 : decode cX11_judge 13 = .ok (.ireturn, 1) := by decide +kernel
theorem dX11_judge_14 : decode cX11_judge 14 = .ok (.aload_n 0, 1) := by decide +kernel
theorem dX11_judge_15 : decode cX11_judge 15 = .ok (.getfield 58, 3) := by decide +kernel
theorem dX11_judge_18 : decode cX11_judge 18 = .ok (.iload_n 1, 1) := by decide +kernel
theorem dX11_judge_19 : decode cX11_judge 19 = .ok (.aaload, 1) := by decide +kernel
theorem dX11_judge_20 : decode cX11_judge 20 = .ok (.astore_n 2, 1) := by decide +kernel
theorem dX11_judge_21 : decode cX11_judge 21 = .ok (.aload_n 2, 1) := by decide +kernel
theorem dX11_judge_22 : decode cX11_judge 22 = .ok (.getfield 208, 3) := by decide +kernel
theorem dX11_judge_25 : decode cX11_judge 25 = .ok (.ifCond .ne 10, 3) := by decide +kernel
theorem dX11_judge_28 : decode cX11_judge 28 = .ok (.aload_n 0, 1) := by decide +kernel
theorem dX11_judge_29 : decode cX11_judge 29 = .ok (.ldc 204, 2) := by decide +kernel
theorem dX11_judge_31 : decode cX11_judge 31 = .ok (.invokevirtual 79, 3) := by decide +kernel
theorem dX11_judge_34 : decode cX11_judge 34 = .ok (.ireturn, 1) := by decide +kernel
theorem dX11_judge_35 : decode cX11_judge 35 = .ok (.aload_n 2, 1) := by decide +kernel
theorem dX11_judge_36 : decode cX11_judge 36 = .ok (.getfield 214, 3) := by decide +kernel
theorem dX11_judge_39 : decode cX11_judge 39 = .ok (.aload_n 0, 1) := by decide +kernel
theorem dX11_judge_40 : decode cX11_judge 40 = .ok (.getfield 39, 3) := by decide +kernel
theorem dX11_judge_43 : decode cX11_judge 43 = .ok (.getfield 111, 3) := by decide +kernel
theorem dX11_judge_46 : decode cX11_judge 46 = .ok (.invokestatic 285, 3) := by decide +kernel
theorem dX11_judge_49 : decode cX11_judge 49 = .ok (.istore_n 3, 1) := by decide +kernel
theorem dX11_judge_50 : decode cX11_judge 50 = .ok (.iconst 0, 1) := by decide +kernel
theorem dX11_judge_51 : decode cX11_judge 51 = .ok (.istore 4, 2) := by decide +kernel
theorem dX11_judge_53 : decode cX11_judge 53 = .ok (.iload 4, 2) := by decide +kernel
theorem dX11_judge_55 : decode cX11_judge 55 = .ok (.iload_n 3, 1) := by decide +kernel
theorem dX11_judge_56 : decode cX11_judge 56 = .ok (.if_icmp .ge 32, 3) := by decide +kernel
theorem dX11_judge_59 : decode cX11_judge 59 = .ok (.aload_n 2, 1) := by decide +kernel
theorem dX11_judge_60 : decode cX11_judge 60 = .ok (.getfield 211, 3) := by decide +kernel
theorem dX11_judge_63 : decode cX11_judge 63 = .ok (.iload 4, 2) := by decide +kernel
theorem dX11_judge_65 : decode cX11_judge 65 = .ok (.iaload, 1) := by decide +kernel
theorem dX11_judge_66 : decode cX11_judge 66 = .ok (.aload_n 0, 1) := by decide +kernel
theorem dX11_judge_67 : decode cX11_judge 67 = .ok (.getfield 39, 3) := by decide +kernel
theorem dX11_judge_70 : decode cX11_judge 70 = .ok (.getfield 121, 3) := by decide +kernel
theorem dX11_judge_73 : decode cX11_judge 73 = .ok (.iload 4, 2) := by decide +kernel
theorem dX11_judge_75 : decode cX11_judge 75 = .ok (.iaload, 1) := by decide +kernel
theorem dX11_judge_76 : decode cX11_judge 76 = .ok (.if_icmp .eq 6, 3) := by decide +kernel
theorem dX11_judge_79 : decode cX11_judge 79 = .ok (.iload 4, 2) := by decide +kernel
theorem dX11_judge_81 : decode cX11_judge 81 = .ok (.ireturn, 1) := by decide +kernel
theorem dX11_judge_82 : decode cX11_judge 82 = .ok (.iinc 4 1, 3) := by decide +kernel
theorem dX11_judge_85 : decode cX11_judge 85 = .ok (.goto (-32), 3) := by decide +kernel
theorem dX11_judge_88 : decode cX11_judge 88 = .ok (.aload_n 2, 1) := by decide +kernel
theorem dX11_judge_89 : decode cX11_judge 89 = .ok (.getfield 214, 3) := by decide +kernel
theorem dX11_judge_92 : decode cX11_judge 92 = .ok (.aload_n 0, 1) := by decide +kernel
theorem dX11_judge_93 : decode cX11_judge 93 = .ok (.getfield 39, 3) := by decide +kernel
theorem dX11_judge_96 : decode cX11_judge 96 = .ok (.getfield 111, 3) := by decide +kernel
theorem dX11_judge_99 : decode cX11_judge 99 = .ok (.if_icmp .ne 7, 3) := by decide +kernel
theorem dX11_judge_102 : decode cX11_judge 102 = .ok (.iconst (-1), 1) := by decide +kernel
theorem dX11_judge_103 : decode cX11_judge 103 = .ok (.goto 4, 3) := by decide +kernel
theorem dX11_judge_106 : decode cX11_judge 106 = .ok (.iload_n 3, 1) := by decide +kernel
theorem dX11_judge_107 : decode cX11_judge 107 = .ok (.ireturn, 1) := by decide +kernel
set_option maxRecDepth 20000 in
theorem ggX11_image_X3_keep : GoodIn wsX11_image wsX3_keep := goodIn_r _ [8, 9, 10, 11, 12, 13, 14, 15, 16, 17, 18, 19, 20, 7, 21, 22, 23, 24, 25, 26, 27, 28, 29, 30, 31, 32, 33, 43, 44, 45, 46, 47, 48, 49, 50, 51, 52, 53, 54, 55, 56, 57, 58, 59, 60] rfl (by decide +kernel)
set_option maxRecDepth 20000 in
theorem gX11_image_X3_keep : GoodIn wsX11_image (wsV RX11 288 RX3 yX3_keep wsX3_keep) := goodIn_app (goodIn_r _ [4, 5, 6, 7] rfl (by decide +kernel)) ggX11_image_X3_keep
theorem dX11_image_0 : decode cX11_image 0 = .ok (.aload_n 0, 1) := by decide +kernel
theorem dX11_image_1 : decode cX11_image 1 = .ok (.getfield 46, 3) := by decide +kernel
theorem dX11_image_4 : decode cX11_image 4 = .ok (.aload_n 0, 1) := by decide +kernel
theorem dX11_image_5 : decode cX11_image 5 = .ok (.getfield 39, 3) := by decide +kernel
theorem dX11_image_8 : decode cX11_image 8 = .ok (.invokevirtual 288, 3) := by decide +kernel
theorem dX11_image_11 : decode cX11_image 11 = .ok (.aload_n 0, 1) := by decide +kernel
theorem dX11_image_12 : decode cX11_image 12 = .ok (.dup, 1) := by decide +kernel
theorem dX11_image_13 : decode cX11_image 13 = .ok (.getfield 291, 3) := by decide +kernel
theorem dX11_image_16 : decode cX11_image 16 = .ok (.iconst 1, 1) := by decide +kernel
theorem dX11_image_17 : decode cX11_image 17 = .ok (.iadd, 1) := by decide +kernel
theorem dX11_image_18 : decode cX11_image 18 = .ok (.putfield 291, 3) := by decide +kernel
theorem dX11_image_21 : decode cX11_image 21 = .ok (.aload_n 0, 1) := by decide +kernel
theorem dX11_image_22 : decode cX11_image 22 = .ok (.getfield 291, 3) := by decide +kernel
theorem dX11_image_25 : decode cX11_image 25 = .ok (.ireturn, 1) := by decide +kernel
set_option maxRecDepth 20000 in
theorem ggX11_restore_X11_refused : GoodIn wsX11_restore wsX11_refused := goodIn_r _ [10, 11, 12, 43, 44, 45, 46, 47, 48, 49, 50, 51] rfl (by decide +kernel)
set_option maxRecDepth 20000 in
theorem gX11_restore_X11_refused : GoodIn wsX11_restore (wsV RX11 79 RX11 yX11_refused wsX11_refused) := goodIn_app (goodIn_r _ [6, 7, 8, 9] rfl (by decide +kernel)) ggX11_restore_X11_refused
set_option maxRecDepth 20000 in
theorem ggX11_restore_X3_keep : GoodIn wsX11_restore wsX3_keep := goodIn_r _ [17, 18, 19, 20, 21, 22, 23, 24, 25, 26, 27, 28, 29, 16, 30, 31, 32, 33, 34, 35, 36, 37, 38, 39, 40, 41, 42, 52, 53, 54, 55, 56, 57, 58, 59, 60, 61, 62, 63, 64, 65, 66, 67, 68, 69] rfl (by decide +kernel)
set_option maxRecDepth 20000 in
theorem gX11_restore_X3_keep : GoodIn wsX11_restore (wsV RX11 288 RX3 yX3_keep wsX3_keep) := goodIn_app (goodIn_r _ [13, 14, 15, 16] rfl (by decide +kernel)) ggX11_restore_X3_keep
theorem dX11_restore_0 : decode cX11_restore 0 = .ok (.aload_n 0, 1) := by decide +kernel
theorem dX11_restore_1 : decode cX11_restore 1 = .ok (.getfield 291, 3) := by decide +kernel
theorem dX11_restore_4 : decode cX11_restore 4 = .ok (.ifCond .ne 10, 3) := by decide +kernel
theorem dX11_restore_7 : decode cX11_restore 7 = .ok (.aload_n 0, 1) := by decide +kernel
theorem dX11_restore_8 : decode cX11_restore 8 = .ok (.ldc 204, 2) := by decide +kernel
theorem dX11_restore_10 : decode cX11_restore 10 = .ok (.invokevirtual 79, 3) := by decide +kernel
theorem dX11_restore_13 : decode cX11_restore 13 = .ok (.ireturn, 1) := by decide +kernel
theorem dX11_restore_14 : decode cX11_restore 14 = .ok (.aload_n 0, 1) := by decide +kernel
theorem dX11_restore_15 : decode cX11_restore 15 = .ok (.getfield 39, 3) := by decide +kernel
theorem dX11_restore_18 : decode cX11_restore 18 = .ok (.aload_n 0, 1) := by decide +kernel
theorem dX11_restore_19 : decode cX11_restore 19 = .ok (.getfield 46, 3) := by decide +kernel
theorem dX11_restore_22 : decode cX11_restore 22 = .ok (.invokevirtual 288, 3) := by decide +kernel
theorem dX11_restore_25 : decode cX11_restore 25 = .ok (.aload_n 0, 1) := by decide +kernel
theorem dX11_restore_26 : decode cX11_restore 26 = .ok (.getfield 39, 3) := by decide +kernel
theorem dX11_restore_29 : decode cX11_restore 29 = .ok (.getfield 178, 3) := by decide +kernel
theorem dX11_restore_32 : decode cX11_restore 32 = .ok (.ireturn, 1) := by decide +kernel
set_option maxRecDepth 20000 in
theorem ggX11_tell_X11_refused : GoodIn wsX11_tell wsX11_refused := goodIn_r _ [9, 10, 11, 12, 13, 14, 15, 16, 17, 18, 19, 20] rfl (by decide +kernel)
set_option maxRecDepth 20000 in
theorem gX11_tell_X11_refused : GoodIn wsX11_tell (wsV RX11 79 RX11 yX11_refused wsX11_refused) := goodIn_app (goodIn_r _ [5, 6, 7, 8] rfl (by decide +kernel)) ggX11_tell_X11_refused
theorem dX11_tell_0 : decode cX11_tell 0 = .ok (.aload_n 0, 1) := by decide +kernel
theorem dX11_tell_1 : decode cX11_tell 1 = .ok (.getfield 39, 3) := by decide +kernel
theorem dX11_tell_4 : decode cX11_tell 4 = .ok (.getfield 294, 3) := by decide +kernel
theorem dX11_tell_7 : decode cX11_tell 7 = .ok (.bipush 20, 2) := by decide +kernel
theorem dX11_tell_9 : decode cX11_tell 9 = .ok (.if_icmp .ne 10, 3) := by decide +kernel
theorem dX11_tell_12 : decode cX11_tell 12 = .ok (.aload_n 0, 1) := by decide +kernel
theorem dX11_tell_13 : decode cX11_tell 13 = .ok (.ldc 114, 2) := by decide +kernel
theorem dX11_tell_15 : decode cX11_tell 15 = .ok (.invokevirtual 79, 3) := by decide +kernel
theorem dX11_tell_18 : decode cX11_tell 18 = .ok (.ireturn, 1) := by decide +kernel
theorem dX11_tell_19 : decode cX11_tell 19 = .ok (.aload_n 0, 1) := by decide +kernel
theorem dX11_tell_20 : decode cX11_tell 20 = .ok (.getfield 39, 3) := by decide +kernel
theorem dX11_tell_23 : decode cX11_tell 23 = .ok (.getfield 297, 3) := by decide +kernel
theorem dX11_tell_26 : decode cX11_tell 26 = .ok (.aload_n 0, 1) := by decide +kernel
theorem dX11_tell_27 : decode cX11_tell 27 = .ok (.getfield 39, 3) := by decide +kernel
theorem dX11_tell_30 : decode cX11_tell 30 = .ok (.getfield 294, 3) := by decide +kernel
theorem dX11_tell_33 : decode cX11_tell 33 = .ok (.iload_n 1, 1) := by decide +kernel
theorem dX11_tell_34 : decode cX11_tell 34 = .ok (.iastore, 1) := by decide +kernel
theorem dX11_tell_35 : decode cX11_tell 35 = .ok (.aload_n 0, 1) := by decide +kernel
theorem dX11_tell_36 : decode cX11_tell 36 = .ok (.getfield 39, 3) := by decide +kernel
theorem dX11_tell_39 : decode cX11_tell 39 = .ok (.dup, 1) := by decide +kernel
theorem dX11_tell_40 : decode cX11_tell 40 = .ok (.getfield 294, 3) := by decide +kernel
theorem dX11_tell_43 : decode cX11_tell 43 = .ok (.iconst 1, 1) := by decide +kernel
theorem dX11_tell_44 : decode cX11_tell 44 = .ok (.iadd, 1) := by decide +kernel
theorem dX11_tell_45 : decode cX11_tell 45 = .ok (.putfield 294, 3) := by decide +kernel
theorem dX11_tell_48 : decode cX11_tell 48 = .ok (.aload_n 0, 1) := by decide +kernel
theorem dX11_tell_49 : decode cX11_tell 49 = .ok (.getfield 39, 3) := by decide +kernel
theorem dX11_tell_52 : decode cX11_tell 52 = .ok (.getfield 294, 3) := by decide +kernel
theorem dX11_tell_55 : decode cX11_tell 55 = .ok (.ireturn, 1) := by decide +kernel
set_option maxRecDepth 20000 in
theorem ggX11_check_X3_follow : GoodIn wsX11_check wsX3_follow := goodIn_r _ [9, 10, 11, 12, 13, 14, 15, 16, 17, 18, 19, 20, 21, 22, 23, 24, 25, 208, 209, 210, 211, 212, 213, 214, 215, 216, 217, 218, 219, 220, 221, 222, 223, 224, 225] rfl (by decide +kernel)
set_option maxRecDepth 20000 in
theorem gX11_check_X3_follow : GoodIn wsX11_check (wsV RX11 192 RX3 yX3_follow wsX3_follow) := goodIn_app (goodIn_r _ [5, 6, 7, 8] rfl (by decide +kernel)) ggX11_check_X3_follow
set_option maxRecDepth 20000 in
theorem ggX11_check_X3_unlikeSpreads : GoodIn wsX11_check wsX3_unlikeSpreads := goodIn_r _ [29, 15, 30, 31, 32, 8, 33, 20, 24, 16, 34, 35, 36, 37, 17, 18, 38, 21, 22, 10, 23, 39, 40, 41, 42, 43, 44, 45, 46, 47, 48, 49, 50, 51, 52, 53, 54, 55, 56, 57, 58, 59, 60, 61, 62, 63, 64, 65, 66, 67, 68, 69, 70, 71, 72, 73, 74, 75, 76, 77, 78, 79, 80, 81, 82, 83, 84, 85, 86, 87, 88, 89, 90, 91, 92, 93, 94, 25, 95, 96, 97, 98, 99, 100, 101, 102, 103, 104, 105, 106, 107, 108, 109, 110, 111, 112, 113, 114, 115, 116, 117, 118, 119, 120, 121, 122, 123, 124, 19, 125, 126, 127, 128, 129, 130, 131, 132, 133, 134, 135, 136, 137, 138, 139, 140, 141, 142, 143, 144, 145, 146, 147, 148, 149, 150, 151, 152, 153, 154, 155, 156, 157, 158, 159, 160, 161, 162, 163, 164, 165, 166, 167, 168, 169, 170, 171, 172, 173, 174, 175, 176, 177, 178, 179, 180, 181, 182, 183, 184, 185, 186, 187, 188, 189, 190, 191, 192, 193, 194, 195, 196, 197, 198, 208, 209, 210, 211, 212, 213, 214, 215, 216, 217, 218, 219, 220, 221, 222, 223, 224, 225, 226, 227, 228, 229, 230, 231, 232] rfl (by decide +kernel)
set_option maxRecDepth 20000 in
theorem gX11_check_X3_unlikeSpreads : GoodIn wsX11_check (wsV RX11 217 RX3 yX3_unlikeSpreads wsX3_unlikeSpreads) := goodIn_app (goodIn_r _ [26, 27, 28, 8] rfl (by decide +kernel)) ggX11_check_X3_unlikeSpreads
theorem dX11_check_0 : decode cX11_check 0 = .ok (.aload_n 0, 1) := by decide +kernel
theorem dX11_check_1 : decode cX11_check 1 = .ok (.getfield 43, 3) := by decide +kernel
theorem dX11_check_4 : decode cX11_check 4 = .ok (.aload_n 0, 1) := by decide +kernel
theorem dX11_check_5 : decode cX11_check 5 = .ok (.getfield 39, 3) := by decide +kernel
theorem dX11_check_8 : decode cX11_check 8 = .ok (.invokevirtual 192, 3) := by decide +kernel
theorem dX11_check_11 : decode cX11_check 11 = .ok (.aload_n 0, 1) := by decide +kernel
theorem dX11_check_12 : decode cX11_check 12 = .ok (.getfield 43, 3) := by decide +kernel
theorem dX11_check_15 : decode cX11_check 15 = .ok (.aload_n 0, 1) := by decide +kernel
theorem dX11_check_16 : decode cX11_check 16 = .ok (.getfield 39, 3) := by decide +kernel
theorem dX11_check_19 : decode cX11_check 19 = .ok (.getfield 297, 3) := by decide +kernel
theorem dX11_check_22 : decode cX11_check 22 = .ok (.aload_n 0, 1) := by decide +kernel
theorem dX11_check_23 : decode cX11_check 23 = .ok (.getfield 39, 3) := by decide +kernel
theorem dX11_check_26 : decode cX11_check 26 = .ok (.getfield 294, 3) := by decide +kernel
theorem dX11_check_29 : decode cX11_check 29 = .ok (.invokevirtual 217, 3) := by decide +kernel
theorem dX11_check_32 : decode cX11_check 32 = .ok (.istore_n 1, 1) := by decide +kernel
theorem dX11_check_33 : decode cX11_check 33 = .ok (.aload_n 0, 1) := by decide +kernel
theorem dX11_check_34 : decode cX11_check 34 = .ok (.getfield 39, 3) := by decide +kernel
theorem dX11_check_37 : decode cX11_check 37 = .ok (.iconst 0, 1) := by decide +kernel
theorem dX11_check_38 : decode cX11_check 38 = .ok (.putfield 294, 3) := by decide +kernel
theorem dX11_check_41 : decode cX11_check 41 = .ok (.iload_n 1, 1) := by decide +kernel
theorem dX11_check_42 : decode cX11_check 42 = .ok (.iconst 1, 1) := by decide +kernel
theorem dX11_check_43 : decode cX11_check 43 = .ok (.iadd, 1) := by decide +kernel
theorem dX11_check_44 : decode cX11_check 44 = .ok (.ireturn, 1) := by decide +kernel
set_option maxRecDepth 20000 in
theorem ggX11_count_J6_bitCount_0f7a4 : GoodIn wsX11_count wsJ6_bitCount_0f7a4 := goodIn_r _ [14, 15, 16, 17] rfl (by decide +kernel)
set_option maxRecDepth 20000 in
theorem gX11_count_J6_bitCount_0f7a4 : GoodIn wsX11_count (va_wsS RX11 196 yJ6_bitCount_0f7a4 wsJ6_bitCount_0f7a4) := goodIn_app (goodIn_r _ [11, 12, 13] rfl (by decide +kernel)) ggX11_count_J6_bitCount_0f7a4
set_option maxRecDepth 20000 in
theorem ggX11_count_X3_allSilver : GoodIn wsX11_count wsX3_allSilver := goodIn_r _ [22, 23, 24, 61, 62, 63, 64, 65, 66, 67, 68, 69, 70, 71, 72, 73, 74, 75, 76, 77, 78] rfl (by decide +kernel)
set_option maxRecDepth 20000 in
theorem gX11_count_X3_allSilver : GoodIn wsX11_count (wsV RX11 300 RX3 yX3_allSilver wsX3_allSilver) := goodIn_app (goodIn_r _ [18, 19, 20, 21] rfl (by decide +kernel)) ggX11_count_X3_allSilver
set_option maxRecDepth 20000 in
theorem ggX11_count_X3_weightOf : GoodIn wsX11_count wsX3_weightOf := goodIn_r _ [28, 29, 61, 62, 63, 64, 65, 66, 67, 68, 69, 70, 71, 72, 73, 74, 75, 76, 77, 78] rfl (by decide +kernel)
set_option maxRecDepth 20000 in
theorem gX11_count_X3_weightOf : GoodIn wsX11_count (wsV RX11 227 RX3 yX3_weightOf wsX3_weightOf) := goodIn_app (goodIn_r _ [25, 26, 27, 21] rfl (by decide +kernel)) ggX11_count_X3_weightOf
set_option maxRecDepth 20000 in
theorem ggX11_count_X3_wordsOnAny : GoodIn wsX11_count wsX3_wordsOnAny := goodIn_r _ [33, 23, 34, 35, 36, 21, 37, 38, 39, 40, 41, 42, 43, 44, 61, 62, 63, 64, 65, 66, 67, 68, 69, 70, 71, 72, 73, 74, 75, 76, 77, 78] rfl (by decide +kernel)
set_option maxRecDepth 20000 in
theorem gX11_count_X3_wordsOnAny : GoodIn wsX11_count (wsV RX11 224 RX3 yX3_wordsOnAny wsX3_wordsOnAny) := goodIn_app (goodIn_r _ [30, 31, 32, 21] rfl (by decide +kernel)) ggX11_count_X3_wordsOnAny
set_option maxRecDepth 20000 in
theorem ggX11_count_X11_refused : GoodIn wsX11_count wsX11_refused := goodIn_r _ [49, 50, 51, 52, 53, 54, 55, 56, 57, 58, 59, 60] rfl (by decide +kernel)
set_option maxRecDepth 20000 in
theorem gX11_count_X11_refused : GoodIn wsX11_count (wsV RX11 79 RX11 yX11_refused wsX11_refused) := goodIn_app (goodIn_r _ [45, 46, 47, 48] rfl (by decide +kernel)) ggX11_count_X11_refused
theorem dX11_count_0 : decode cX11_count 0 = .ok (.iload_n 1, 1) := by decide +kernel
theorem dX11_count_1 : decode cX11_count 1 = .ok (.tableswitch 164 0 10 #[59, 67, 75, 86, 94, 102, 113, 132, 140, 148, 156], 59) := by decide +kernel
theorem dX11_count_60 : decode cX11_count 60 = .ok (.aload_n 0, 1) := by decide +kernel
theorem dX11_count_61 : decode cX11_count 61 = .ok (.getfield 39, 3) := by decide +kernel
theorem dX11_count_64 : decode cX11_count 64 = .ok (.getfield 111, 3) := by decide +kernel
theorem dX11_count_67 : decode cX11_count 67 = .ok (.ireturn, 1) := by decide +kernel
theorem dX11_count_68 : decode cX11_count 68 = .ok (.aload_n 0, 1) := by decide +kernel
theorem dX11_count_69 : decode cX11_count 69 = .ok (.getfield 39, 3) := by decide +kernel
theorem dX11_count_72 : decode cX11_count 72 = .ok (.getfield 178, 3) := by decide +kernel
theorem dX11_count_75 : decode cX11_count 75 = .ok (.ireturn, 1) := by decide +kernel
theorem dX11_count_76 : decode cX11_count 76 = .ok (.aload_n 0, 1) := by decide +kernel
theorem dX11_count_77 : decode cX11_count 77 = .ok (.getfield 39, 3) := by decide +kernel
theorem dX11_count_80 : decode cX11_count 80 = .ok (.getfield 86, 3) := by decide +kernel
theorem dX11_count_83 : decode cX11_count 83 = .ok (.invokestatic 196, 3) := by decide +kernel
theorem dX11_count_86 : decode cX11_count 86 = .ok (.ireturn, 1) := by decide +kernel
theorem dX11_count_87 : decode cX11_count 87 = .ok (.aload_n 0, 1) := by decide +kernel
theorem dX11_count_88 : decode cX11_count 88 = .ok (.getfield 39, 3) := by decide +kernel
theorem dX11_count_91 : decode cX11_count 91 = .ok (.getfield 86, 3) := by decide +kernel
theorem dX11_count_94 : decode cX11_count 94 = .ok (.ireturn, 1) := by decide +kernel
theorem dX11_count_95 : decode cX11_count 95 = .ok (.aload_n 0, 1) := by decide +kernel
theorem dX11_count_96 : decode cX11_count 96 = .ok (.getfield 39, 3) := by decide +kernel
theorem dX11_count_99 : decode cX11_count 99 = .ok (.invokevirtual 300, 3) := by decide +kernel
theorem dX11_count_102 : decode cX11_count 102 = .ok (.ireturn, 1) := by decide +kernel
theorem dX11_count_103 : decode cX11_count 103 = .ok (.aload_n 0, 1) := by decide +kernel
theorem dX11_count_104 : decode cX11_count 104 = .ok (.getfield 39, 3) := by decide +kernel
theorem dX11_count_107 : decode cX11_count 107 = .ok (.sipush 4095, 3) := by decide +kernel
theorem dX11_count_110 : decode cX11_count 110 = .ok (.invokevirtual 227, 3) := by decide +kernel
theorem dX11_count_113 : decode cX11_count 113 = .ok (.ireturn, 1) := by decide +kernel
theorem dX11_count_114 : decode cX11_count 114 = .ok (.aload_n 0, 1) := by decide +kernel
theorem dX11_count_115 : decode cX11_count 115 = .ok (.getfield 39, 3) := by decide +kernel
theorem dX11_count_118 : decode cX11_count 118 = .ok (.iconst 1, 1) := by decide +kernel
theorem dX11_count_119 : decode cX11_count 119 = .ok (.aload_n 0, 1) := by decide +kernel
theorem dX11_count_120 : decode cX11_count 120 = .ok (.getfield 39, 3) := by decide +kernel
theorem dX11_count_123 : decode cX11_count 123 = .ok (.getfield 111, 3) := by decide +kernel
theorem dX11_count_126 : decode cX11_count 126 = .ok (.ishl, 1) := by decide +kernel
theorem dX11_count_127 : decode cX11_count 127 = .ok (.iconst 1, 1) := by decide +kernel
theorem dX11_count_128 : decode cX11_count 128 = .ok (.isub, 1) := by decide +kernel
theorem dX11_count_129 : decode cX11_count 129 = .ok (.invokevirtual 224, 3) := by decide +kernel
theorem dX11_count_132 : decode cX11_count 132 = .ok (.ireturn, 1) := by decide +kernel
theorem dX11_count_133 : decode cX11_count 133 = .ok (.aload_n 0, 1) := by decide +kernel
theorem dX11_count_134 : decode cX11_count 134 = .ok (.getfield 39, 3) := by decide +kernel
theorem dX11_count_137 : decode cX11_count 137 = .ok (.getfield 149, 3) := by decide +kernel
theorem dX11_count_140 : decode cX11_count 140 = .ok (.ireturn, 1) := by decide +kernel
theorem dX11_count_141 : decode cX11_count 141 = .ok (.aload_n 0, 1) := by decide +kernel
theorem dX11_count_142 : decode cX11_count 142 = .ok (.getfield 39, 3) := by decide +kernel
theorem dX11_count_145 : decode cX11_count 145 = .ok (.getfield 294, 3) := by decide +kernel
theorem dX11_count_148 : decode cX11_count 148 = .ok (.ireturn, 1) := by decide +kernel
theorem dX11_count_149 : decode cX11_count 149 = .ok (.aload_n 0, 1) := by decide +kernel
theorem dX11_count_150 : decode cX11_count 150 = .ok (.getfield 52, 3) := by decide +kernel
theorem dX11_count_153 : decode cX11_count 153 = .ok (.getfield 263, 3) := by decide +kernel
theorem dX11_count_156 : decode cX11_count 156 = .ok (.ireturn, 1) := by decide +kernel
theorem dX11_count_157 : decode cX11_count 157 = .ok (.aload_n 0, 1) := by decide +kernel
theorem dX11_count_158 : decode cX11_count 158 = .ok (.getfield 39, 3) := by decide +kernel
theorem dX11_count_161 : decode cX11_count 161 = .ok (.getfield 243, 3) := by decide +kernel
theorem dX11_count_164 : decode cX11_count 164 = .ok (.ireturn, 1) := by decide +kernel
theorem dX11_count_165 : decode cX11_count 165 = .ok (.aload_n 0, 1) := by decide +kernel
theorem dX11_count_166 : decode cX11_count 166 = .ok (.ldc 78, 2) := by decide +kernel
theorem dX11_count_168 : decode cX11_count 168 = .ok (.invokevirtual 79, 3) := by decide +kernel
theorem dX11_count_171 : decode cX11_count 171 = .ok (.ireturn, 1) := by decide +kernel
set_option maxRecDepth 20000 in
theorem ggX11_told_X11_within : GoodIn wsX11_told wsX11_within := goodIn_r _ [6] rfl (by decide +kernel)
set_option maxRecDepth 20000 in
theorem gX11_told_X11_within : GoodIn wsX11_told (va_wsS RX11 74 yX11_within wsX11_within) := goodIn_app (goodIn_r _ [3, 4, 5] rfl (by decide +kernel)) ggX11_told_X11_within
set_option maxRecDepth 20000 in
theorem ggX11_told_X11_refused : GoodIn wsX11_told wsX11_refused := goodIn_r _ [10, 1, 11, 12, 13, 14, 15, 16, 17, 18, 19, 20] rfl (by decide +kernel)
set_option maxRecDepth 20000 in
theorem gX11_told_X11_refused : GoodIn wsX11_told (wsV RX11 79 RX11 yX11_refused wsX11_refused) := goodIn_app (goodIn_r _ [7, 8, 9, 5] rfl (by decide +kernel)) ggX11_told_X11_refused
theorem dX11_told_0 : decode cX11_told 0 = .ok (.iload_n 1, 1) := by decide +kernel
theorem dX11_told_1 : decode cX11_told 1 = .ok (.iconst 1, 1) := by decide +kernel
theorem dX11_told_2 : decode cX11_told 2 = .ok (.iconst 5, 1) := by decide +kernel
theorem dX11_told_3 : decode cX11_told 3 = .ok (.invokestatic 74, 3) := by decide +kernel
theorem dX11_told_6 : decode cX11_told 6 = .ok (.ifCond .eq 12, 3) := by decide +kernel
theorem dX11_told_9 : decode cX11_told 9 = .ok (.aload_n 0, 1) := by decide +kernel
theorem dX11_told_10 : decode cX11_told 10 = .ok (.getfield 63, 3) := by decide +kernel
theorem dX11_told_13 : decode cX11_told 13 = .ok (.iload_n 1, 1) := by decide +kernel
theorem dX11_told_14 : decode cX11_told 14 = .ok (.iaload, 1) := by decide +kernel
theorem dX11_told_15 : decode cX11_told 15 = .ok (.goto 9, 3) := by decide +kernel
theorem dX11_told_18 : decode cX11_told 18 = .ok (.aload_n 0, 1) := by decide +kernel
theorem dX11_told_19 : decode cX11_told 19 = .ok (.ldc 78, 2) := by decide +kernel
theorem dX11_told_21 : decode cX11_told 21 = .ok (.invokevirtual 79, 3) := by decide +kernel
theorem dX11_told_24 : decode cX11_told 24 = .ok (.ireturn, 1) := by decide +kernel
theorem dX11_refused_0 : decode cX11_refused 0 = .ok (.aload_n 0, 1) := by decide +kernel
theorem dX11_refused_1 : decode cX11_refused 1 = .ok (.getfield 63, 3) := by decide +kernel
theorem dX11_refused_4 : decode cX11_refused 4 = .ok (.ldc_w 303, 3) := by decide +kernel
theorem dX11_refused_7 : decode cX11_refused 7 = .ok (.iload_n 1, 1) := by decide +kernel
theorem dX11_refused_8 : decode cX11_refused 8 = .ok (.isub, 1) := by decide +kernel
theorem dX11_refused_9 : decode cX11_refused 9 = .ok (.dup2, 1) := by decide +kernel
theorem dX11_refused_10 : decode cX11_refused 10 = .ok (.iaload, 1) := by decide +kernel
theorem dX11_refused_11 : decode cX11_refused 11 = .ok (.iconst 1, 1) := by decide +kernel
theorem dX11_refused_12 : decode cX11_refused 12 = .ok (.iadd, 1) := by decide +kernel
theorem dX11_refused_13 : decode cX11_refused 13 = .ok (.iastore, 1) := by decide +kernel
theorem dX11_refused_14 : decode cX11_refused 14 = .ok (.iload_n 1, 1) := by decide +kernel
theorem dX11_refused_15 : decode cX11_refused 15 = .ok (.ireturn, 1) := by decide +kernel
theorem dX11_within_0 : decode cX11_within 0 = .ok (.iload_n 0, 1) := by decide +kernel
theorem dX11_within_1 : decode cX11_within 1 = .ok (.iload_n 1, 1) := by decide +kernel
theorem dX11_within_2 : decode cX11_within 2 = .ok (.if_icmp .lt 12, 3) := by decide +kernel
theorem dX11_within_5 : decode cX11_within 5 = .ok (.iload_n 0, 1) := by decide +kernel
theorem dX11_within_6 : decode cX11_within 6 = .ok (.iload_n 2, 1) := by decide +kernel
theorem dX11_within_7 : decode cX11_within 7 = .ok (.if_icmp .gt 7, 3) := by decide +kernel
theorem dX11_within_10 : decode cX11_within 10 = .ok (.iconst 1, 1) := by decide +kernel
theorem dX11_within_11 : decode cX11_within 11 = .ok (.goto 4, 3) := by decide +kernel
theorem dX11_within_14 : decode cX11_within 14 = .ok (.iconst 0, 1) := by decide +kernel
theorem dX11_within_15 : decode cX11_within 15 = .ok (.ireturn, 1) := by decide +kernel
set_option maxRecDepth 20000 in
theorem ggX11_isWord_X11_within : GoodIn wsX11_isWord wsX11_within := goodIn_r _ [4] rfl (by decide +kernel)
set_option maxRecDepth 20000 in
theorem gX11_isWord_X11_within : GoodIn wsX11_isWord (va_wsS RX11 74 yX11_within wsX11_within) := goodIn_app (goodIn_r _ [1, 2, 3] rfl (by decide +kernel)) ggX11_isWord_X11_within
theorem dX11_isWord_0 : decode cX11_isWord 0 = .ok (.iload_n 0, 1) := by decide +kernel
theorem dX11_isWord_1 : decode cX11_isWord 1 = .ok (.iconst 0, 1) := by decide +kernel
theorem dX11_isWord_2 : decode cX11_isWord 2 = .ok (.bipush 11, 2) := by decide +kernel
theorem dX11_isWord_4 : decode cX11_isWord 4 = .ok (.invokestatic 74, 3) := by decide +kernel
theorem dX11_isWord_7 : decode cX11_isWord 7 = .ok (.ireturn, 1) := by decide +kernel
set_option maxRecDepth 20000 in
theorem ggX11_isSetOfWords_X11_within : GoodIn wsX11_isSetOfWords wsX11_within := goodIn_r _ [4] rfl (by decide +kernel)
set_option maxRecDepth 20000 in
theorem gX11_isSetOfWords_X11_within : GoodIn wsX11_isSetOfWords (va_wsS RX11 74 yX11_within wsX11_within) := goodIn_app (goodIn_r _ [1, 2, 3] rfl (by decide +kernel)) ggX11_isSetOfWords_X11_within
theorem dX11_isSetOfWords_0 : decode cX11_isSetOfWords 0 = .ok (.iload_n 0, 1) := by decide +kernel
theorem dX11_isSetOfWords_1 : decode cX11_isSetOfWords 1 = .ok (.iconst 0, 1) := by decide +kernel
theorem dX11_isSetOfWords_2 : decode cX11_isSetOfWords 2 = .ok (.sipush 4095, 3) := by decide +kernel
theorem dX11_isSetOfWords_5 : decode cX11_isSetOfWords 5 = .ok (.invokestatic 74, 3) := by decide +kernel
theorem dX11_isSetOfWords_8 : decode cX11_isSetOfWords 8 = .ok (.ireturn, 1) := by decide +kernel
set_option maxRecDepth 20000 in
theorem ggX11_isUse_X11_within : GoodIn wsX11_isUse wsX11_within := goodIn_r _ [4] rfl (by decide +kernel)
set_option maxRecDepth 20000 in
theorem gX11_isUse_X11_within : GoodIn wsX11_isUse (va_wsS RX11 74 yX11_within wsX11_within) := goodIn_app (goodIn_r _ [1, 2, 3] rfl (by decide +kernel)) ggX11_isUse_X11_within
theorem dX11_isUse_0 : decode cX11_isUse 0 = .ok (.iload_n 0, 1) := by decide +kernel
theorem dX11_isUse_1 : decode cX11_isUse 1 = .ok (.iconst 0, 1) := by decide +kernel
theorem dX11_isUse_2 : decode cX11_isUse 2 = .ok (.iconst 1, 1) := by decide +kernel
theorem dX11_isUse_3 : decode cX11_isUse 3 = .ok (.invokestatic 74, 3) := by decide +kernel
theorem dX11_isUse_6 : decode cX11_isUse 6 = .ok (.ireturn, 1) := by decide +kernel
set_option maxRecDepth 20000 in
theorem ggX11_isSheet_X11_within : GoodIn wsX11_isSheet wsX11_within := goodIn_r _ [4] rfl (by decide +kernel)
set_option maxRecDepth 20000 in
theorem gX11_isSheet_X11_within : GoodIn wsX11_isSheet (va_wsS RX11 74 yX11_within wsX11_within) := goodIn_app (goodIn_r _ [1, 2, 3] rfl (by decide +kernel)) ggX11_isSheet_X11_within
theorem dX11_isSheet_0 : decode cX11_isSheet 0 = .ok (.iload_n 0, 1) := by decide +kernel
theorem dX11_isSheet_1 : decode cX11_isSheet 1 = .ok (.iconst 0, 1) := by decide +kernel
theorem dX11_isSheet_2 : decode cX11_isSheet 2 = .ok (.iconst 3, 1) := by decide +kernel
theorem dX11_isSheet_3 : decode cX11_isSheet 3 = .ok (.invokestatic 74, 3) := by decide +kernel
theorem dX11_isSheet_6 : decode cX11_isSheet 6 = .ok (.ireturn, 1) := by decide +kernel
set_option maxRecDepth 20000 in
theorem ggX11_isBehind_X11_within : GoodIn wsX11_isBehind wsX11_within := goodIn_r _ [4] rfl (by decide +kernel)
set_option maxRecDepth 20000 in
theorem gX11_isBehind_X11_within : GoodIn wsX11_isBehind (va_wsS RX11 74 yX11_within wsX11_within) := goodIn_app (goodIn_r _ [1, 2, 3] rfl (by decide +kernel)) ggX11_isBehind_X11_within
theorem dX11_isBehind_0 : decode cX11_isBehind 0 = .ok (.iload_n 0, 1) := by decide +kernel
theorem dX11_isBehind_1 : decode cX11_isBehind 1 = .ok (.iconst 0, 1) := by decide +kernel
theorem dX11_isBehind_2 : decode cX11_isBehind 2 = .ok (.bipush 60, 2) := by decide +kernel
theorem dX11_isBehind_4 : decode cX11_isBehind 4 = .ok (.invokestatic 74, 3) := by decide +kernel
theorem dX11_isBehind_7 : decode cX11_isBehind 7 = .ok (.ireturn, 1) := by decide +kernel
set_option maxRecDepth 20000 in
theorem ggX11_mayBeListed_X11_within : GoodIn wsX11_mayBeListed wsX11_within := goodIn_r _ [4] rfl (by decide +kernel)
set_option maxRecDepth 20000 in
theorem gX11_mayBeListed_X11_within : GoodIn wsX11_mayBeListed (va_wsS RX11 74 yX11_within wsX11_within) := goodIn_app (goodIn_r _ [1, 2, 3] rfl (by decide +kernel)) ggX11_mayBeListed_X11_within
theorem dX11_mayBeListed_0 : decode cX11_mayBeListed 0 = .ok (.iload_n 0, 1) := by decide +kernel
theorem dX11_mayBeListed_1 : decode cX11_mayBeListed 1 = .ok (.iconst (-1), 1) := by decide +kernel
theorem dX11_mayBeListed_2 : decode cX11_mayBeListed 2 = .ok (.bipush 7, 2) := by decide +kernel
theorem dX11_mayBeListed_4 : decode cX11_mayBeListed 4 = .ok (.invokestatic 74, 3) := by decide +kernel
theorem dX11_mayBeListed_7 : decode cX11_mayBeListed 7 = .ok (.ireturn, 1) := by decide +kernel
set_option maxRecDepth 20000 in
theorem ggX11_isSpoon_X11_within : GoodIn wsX11_isSpoon wsX11_within := goodIn_r _ [6] rfl (by decide +kernel)
set_option maxRecDepth 20000 in
theorem gX11_isSpoon_X11_within : GoodIn wsX11_isSpoon (va_wsS RX11 74 yX11_within wsX11_within) := goodIn_app (goodIn_r _ [3, 4, 5] rfl (by decide +kernel)) ggX11_isSpoon_X11_within
theorem dX11_isSpoon_0 : decode cX11_isSpoon 0 = .ok (.iload_n 1, 1) := by decide +kernel
theorem dX11_isSpoon_1 : decode cX11_isSpoon 1 = .ok (.iconst 0, 1) := by decide +kernel
theorem dX11_isSpoon_2 : decode cX11_isSpoon 2 = .ok (.aload_n 0, 1) := by decide +kernel
theorem dX11_isSpoon_3 : decode cX11_isSpoon 3 = .ok (.getfield 39, 3) := by decide +kernel
theorem dX11_isSpoon_6 : decode cX11_isSpoon 6 = .ok (.getfield 111, 3) := by decide +kernel
theorem dX11_isSpoon_9 : decode cX11_isSpoon 9 = .ok (.iconst 1, 1) := by decide +kernel
theorem dX11_isSpoon_10 : decode cX11_isSpoon 10 = .ok (.isub, 1) := by decide +kernel
theorem dX11_isSpoon_11 : decode cX11_isSpoon 11 = .ok (.invokestatic 74, 3) := by decide +kernel
theorem dX11_isSpoon_14 : decode cX11_isSpoon 14 = .ok (.ireturn, 1) := by decide +kernel
set_option maxRecDepth 20000 in
theorem ggX11_fewestSetsOf_X3_clashes : GoodIn wsX11_fewestSetsOf wsX3_clashes := goodIn_r _ [11, 12, 13, 14, 15, 10, 16, 17, 18, 19, 20, 21, 22, 23, 33, 34, 35, 36, 37, 38, 39, 40, 41, 42, 43, 44, 45, 46, 47, 48, 49, 50] rfl (by decide +kernel)
set_option maxRecDepth 20000 in
theorem gX11_fewestSetsOf_X3_clashes : GoodIn wsX11_fewestSetsOf (wsV RX11 304 RX3 yX3_clashes wsX3_clashes) := goodIn_app (goodIn_r _ [7, 8, 9, 10] rfl (by decide +kernel)) ggX11_fewestSetsOf_X3_clashes
theorem dX11_fewestSetsOf_0 : decode cX11_fewestSetsOf 0 = .ok (.aload_n 0, 1) := by decide +kernel
theorem dX11_fewestSetsOf_1 : decode cX11_fewestSetsOf 1 = .ok (.getfield 39, 3) := by decide +kernel
theorem dX11_fewestSetsOf_4 : decode cX11_fewestSetsOf 4 = .ok (.iload_n 1, 1) := by decide +kernel
theorem dX11_fewestSetsOf_5 : decode cX11_fewestSetsOf 5 = .ok (.invokevirtual 304, 3) := by decide +kernel
theorem dX11_fewestSetsOf_8 : decode cX11_fewestSetsOf 8 = .ok (.ifCond .ne 5, 3) := by decide +kernel
theorem dX11_fewestSetsOf_11 : decode cX11_fewestSetsOf 11 = .ok (.iconst 1, 1) := by decide +kernel
theorem dX11_fewestSetsOf_12 : decode cX11_fewestSetsOf 12 = .ok (.ireturn, 1) := by decide +kernel
theorem dX11_fewestSetsOf_13 : decode cX11_fewestSetsOf 13 = .ok (.bipush 8, 2) := by decide +kernel
theorem dX11_fewestSetsOf_15 : decode cX11_fewestSetsOf 15 = .ok (.istore_n 2, 1) := by decide +kernel
theorem dX11_fewestSetsOf_16 : decode cX11_fewestSetsOf 16 = .ok (.iconst 1, 1) := by decide +kernel
theorem dX11_fewestSetsOf_17 : decode cX11_fewestSetsOf 17 = .ok (.istore_n 3, 1) := by decide +kernel
theorem dX11_fewestSetsOf_18 : decode cX11_fewestSetsOf 18 = .ok (.iload_n 3, 1) := by decide +kernel
theorem dX11_fewestSetsOf_19 : decode cX11_fewestSetsOf 19 = .ok (.iload_n 1, 1) := by decide +kernel
theorem dX11_fewestSetsOf_20 : decode cX11_fewestSetsOf 20 = .ok (.if_icmp .ge 37, 3) := by decide +kernel
theorem dX11_fewestSetsOf_23 : decode cX11_fewestSetsOf 23 = .ok (.iload_n 3, 1) := by decide +kernel
theorem dX11_fewestSetsOf_24 : decode cX11_fewestSetsOf 24 = .ok (.iload_n 1, 1) := by decide +kernel
theorem dX11_fewestSetsOf_25 : decode cX11_fewestSetsOf 25 = .ok (.iconst (-1), 1) := by decide +kernel
theorem dX11_fewestSetsOf_26 : decode cX11_fewestSetsOf 26 = .ok (.ixor, 1) := by decide +kernel
theorem dX11_fewestSetsOf_27 : decode cX11_fewestSetsOf 27 = .ok (.iand, 1) := by decide +kernel
theorem dX11_fewestSetsOf_28 : decode cX11_fewestSetsOf 28 = .ok (.ifCond .ne 23, 3) := by decide +kernel
theorem dX11_fewestSetsOf_31 : decode cX11_fewestSetsOf 31 = .ok (.iload_n 2, 1) := by decide +kernel
theorem dX11_fewestSetsOf_32 : decode cX11_fewestSetsOf 32 = .ok (.aload_n 0, 1) := by decide +kernel
theorem dX11_fewestSetsOf_33 : decode cX11_fewestSetsOf 33 = .ok (.getfield 67, 3) := by decide +kernel
theorem dX11_fewestSetsOf_36 : decode cX11_fewestSetsOf 36 = .ok (.iload_n 3, 1) := by decide +kernel
theorem dX11_fewestSetsOf_37 : decode cX11_fewestSetsOf 37 = .ok (.iaload, 1) := by decide +kernel
theorem dX11_fewestSetsOf_38 : decode cX11_fewestSetsOf 38 = .ok (.aload_n 0, 1) := by decide +kernel
theorem dX11_fewestSetsOf_39 : decode cX11_fewestSetsOf 39 = .ok (.getfield 67, 3) := by decide +kernel
theorem dX11_fewestSetsOf_42 : decode cX11_fewestSetsOf 42 = .ok (.iload_n 1, 1) := by decide +kernel
theorem dX11_fewestSetsOf_43 : decode cX11_fewestSetsOf 43 = .ok (.iload_n 3, 1) := by decide +kernel
theorem dX11_fewestSetsOf_44 : decode cX11_fewestSetsOf 44 = .ok (.ixor, 1) := by decide +kernel
theorem dX11_fewestSetsOf_45 : decode cX11_fewestSetsOf 45 = .ok (.iaload, 1) := by decide +kernel
theorem dX11_fewestSetsOf_46 : decode cX11_fewestSetsOf 46 = .ok (.iadd, 1) := by decide +kernel
theorem dX11_fewestSetsOf_47 : decode cX11_fewestSetsOf 47 = .ok (.invokestatic 285, 3) := by decide +kernel
theorem dX11_fewestSetsOf_50 : decode cX11_fewestSetsOf 50 = .ok (.istore_n 2, 1) := by decide +kernel
theorem dX11_fewestSetsOf_51 : decode cX11_fewestSetsOf 51 = .ok (.iinc 3 1, 3) := by decide +kernel
theorem dX11_fewestSetsOf_54 : decode cX11_fewestSetsOf 54 = .ok (.goto (-36), 3) := by decide +kernel
theorem dX11_fewestSetsOf_57 : decode cX11_fewestSetsOf 57 = .ok (.iload_n 2, 1) := by decide +kernel
theorem dX11_fewestSetsOf_58 : decode cX11_fewestSetsOf 58 = .ok (.ireturn, 1) := by decide +kernel
theorem dX11_commonPart_0 : decode cX11_commonPart 0 = .ok (.iload_n 1, 1) := by decide +kernel
theorem dX11_commonPart_1 : decode cX11_commonPart 1 = .ok (.istore_n 2, 1) := by decide +kernel
theorem dX11_commonPart_2 : decode cX11_commonPart 2 = .ok (.iload_n 2, 1) := by decide +kernel
theorem dX11_commonPart_3 : decode cX11_commonPart 3 = .ok (.iconst 1, 1) := by decide +kernel
theorem dX11_commonPart_4 : decode cX11_commonPart 4 = .ok (.if_icmp .le 23, 3) := by decide +kernel
theorem dX11_commonPart_7 : decode cX11_commonPart 7 = .ok (.iload_n 0, 1) := by decide +kernel
theorem dX11_commonPart_8 : decode cX11_commonPart 8 = .ok (.iload_n 2, 1) := by decide +kernel
theorem dX11_commonPart_9 : decode cX11_commonPart 9 = .ok (.irem, 1) := by decide +kernel
theorem dX11_commonPart_10 : decode cX11_commonPart 10 = .ok (.ifCond .ne 11, 3) := by decide +kernel
theorem dX11_commonPart_13 : decode cX11_commonPart 13 = .ok (.iload_n 1, 1) := by decide +kernel
theorem dX11_commonPart_14 : decode cX11_commonPart 14 = .ok (.iload_n 2, 1) := by decide +kernel
theorem dX11_commonPart_15 : decode cX11_commonPart 15 = .ok (.irem, 1) := by decide +kernel
theorem dX11_commonPart_16 : decode cX11_commonPart 16 = .ok (.ifCond .ne 5, 3) := by decide +kernel
theorem dX11_commonPart_19 : decode cX11_commonPart 19 = .ok (.iload_n 2, 1) := by decide +kernel
theorem dX11_commonPart_20 : decode cX11_commonPart 20 = .ok (.ireturn, 1) := by decide +kernel
theorem dX11_commonPart_21 : decode cX11_commonPart 21 = .ok (.iinc 2 (-1), 3) := by decide +kernel
theorem dX11_commonPart_24 : decode cX11_commonPart 24 = .ok (.goto (-22), 3) := by decide +kernel
theorem dX11_commonPart_27 : decode cX11_commonPart 27 = .ok (.iconst 1, 1) := by decide +kernel
theorem dX11_commonPart_28 : decode cX11_commonPart 28 = .ok (.ireturn, 1) := by decide +kernel
theorem dX12_init_0 : decode cX12_init 0 = .ok (.aload_n 0, 1) := by decide +kernel
theorem dX12_init_1 : decode cX12_init 1 = .ok (.invokespecial 1, 3) := by decide +kernel
theorem dX12_init_4 : decode cX12_init 4 = .ok (.aload_n 0, 1) := by decide +kernel
theorem dX12_init_5 : decode cX12_init 5 = .ok (.sipush 326, 3) := by decide +kernel
theorem dX12_init_8 : decode cX12_init 8 = .ok (.newarray .int, 2) := by decide +kernel
theorem dX12_init_10 : decode cX12_init 10 = .ok (.putfield 7, 3) := by decide +kernel
theorem dX12_init_13 : decode cX12_init 13 = .ok (.aload_n 0, 1) := by decide +kernel
theorem dX12_init_14 : decode cX12_init 14 = .ok (.sipush 326, 3) := by decide +kernel
theorem dX12_init_17 : decode cX12_init 17 = .ok (.newarray .int, 2) := by decide +kernel
theorem dX12_init_19 : decode cX12_init 19 = .ok (.putfield 13, 3) := by decide +kernel
theorem dX12_init_22 : decode cX12_init 22 = .ok (.aload_n 0, 1) := by decide +kernel
theorem dX12_init_23 : decode cX12_init 23 = .ok (.sipush 154, 3) := by decide +kernel
theorem dX12_init_26 : decode cX12_init 26 = .ok (.newarray .int, 2) := by decide +kernel
theorem dX12_init_28 : decode cX12_init 28 = .ok (.putfield 16, 3) := by decide +kernel
theorem dX12_init_31 : decode cX12_init 31 = .ok (.aload_n 0, 1) := by decide +kernel
theorem dX12_init_32 : decode cX12_init 32 = .ok (.bipush 6, 2) := by decide +kernel
theorem dX12_init_34 : decode cX12_init 34 = .ok (.newarray .int, 2) := by decide +kernel
theorem dX12_init_36 : decode cX12_init 36 = .ok (.putfield 19, 3) := by decide +kernel
theorem dX12_init_39 : decode cX12_init 39 = .ok (.aload_n 0, 1) := by decide +kernel
theorem dX12_init_40 : decode cX12_init 40 = .ok (.iconst 3, 1) := by decide +kernel
theorem dX12_init_41 : decode cX12_init 41 = .ok (.newarray .int, 2) := by decide +kernel
theorem dX12_init_43 : decode cX12_init 43 = .ok (.putfield 22, 3) := by decide +kernel
theorem dX12_init_46 : decode cX12_init 46 = .ok (.aload_n 0, 1) := by decide +kernel
theorem dX12_init_47 : decode cX12_init 47 = .ok (.bipush 60, 2) := by decide +kernel
theorem dX12_init_49 : decode cX12_init 49 = .ok (.newarray .int, 2) := by decide +kernel
theorem dX12_init_51 : decode cX12_init 51 = .ok (.putfield 25, 3) := by decide +kernel
theorem dX12_init_54 : decode cX12_init 54 = .ok (.aload_n 0, 1) := by decide +kernel
theorem dX12_init_55 : decode cX12_init 55 = .ok (.bipush 60, 2) := by decide +kernel
theorem dX12_init_57 : decode cX12_init 57 = .ok (.newarray .int, 2) := by decide +kernel
theorem dX12_init_59 : decode cX12_init 59 = .ok (.putfield 28, 3) := by decide +kernel
theorem dX12_init_62 : decode cX12_init 62 = .ok (.aload_n 0, 1) := by decide +kernel
theorem dX12_init_63 : decode cX12_init 63 = .ok (.sipush 256, 3) := by decide +kernel
theorem dX12_init_66 : decode cX12_init 66 = .ok (.newarray .int, 2) := by decide +kernel
theorem dX12_init_68 : decode cX12_init 68 = .ok (.putfield 31, 3) := by decide +kernel
theorem dX12_init_71 : decode cX12_init 71 = .ok (.aload_n 0, 1) := by decide +kernel
theorem dX12_init_72 : decode cX12_init 72 = .ok (.bipush 40, 2) := by decide +kernel
theorem dX12_init_74 : decode cX12_init 74 = .ok (.newarray .int, 2) := by decide +kernel
theorem dX12_init_76 : decode cX12_init 76 = .ok (.putfield 34, 3) := by decide +kernel
theorem dX12_init_79 : decode cX12_init 79 = .ok (.aload_n 0, 1) := by decide +kernel
theorem dX12_init_80 : decode cX12_init 80 = .ok (.iconst 4, 1) := by decide +kernel
theorem dX12_init_81 : decode cX12_init 81 = .ok (.newarray .int, 2) := by decide +kernel
theorem dX12_init_83 : decode cX12_init 83 = .ok (.putfield 37, 3) := by decide +kernel
theorem dX12_init_86 : decode cX12_init 86 = .ok (.aload_n 0, 1) := by decide +kernel
theorem dX12_init_87 : decode cX12_init 87 = .ok (.iconst 4, 1) := by decide +kernel
theorem dX12_init_88 : decode cX12_init 88 = .ok (.newarray .int, 2) := by decide +kernel
theorem dX12_init_90 : decode cX12_init 90 = .ok (.putfield 40, 3) := by decide +kernel
theorem dX12_init_93 : decode cX12_init 93 = .ok (.aload_n 0, 1) := by decide +kernel
theorem dX12_init_94 : decode cX12_init 94 = .ok (.sipush 160, 3) := by decide +kernel
theorem dX12_init_97 : decode cX12_init 97 = .ok (.newarray .int, 2) := by decide +kernel
theorem dX12_init_99 : decode cX12_init 99 = .ok (.putfield 43, 3) := by decide +kernel
theorem dX12_init_102 : decode cX12_init 102 = .ok (.aload_n 0, 1) := by decide +kernel
theorem dX12_init_103 : decode cX12_init 103 = .ok (.bipush 40, 2) := by decide +kernel
theorem dX12_init_105 : decode cX12_init 105 = .ok (.newarray .int, 2) := by decide +kernel
theorem dX12_init_107 : decode cX12_init 107 = .ok (.putfield 46, 3) := by decide +kernel
theorem dX12_init_110 : decode cX12_init 110 = .ok (.aload_n 0, 1) := by decide +kernel
theorem dX12_init_111 : decode cX12_init 111 = .ok (.getfield 7, 3) := by decide +kernel
theorem dX12_init_114 : decode cX12_init 114 = .ok (.iconst 3, 1) := by decide +kernel
theorem dX12_init_115 : decode cX12_init 115 = .ok (.iconst 1, 1) := by decide +kernel
theorem dX12_init_116 : decode cX12_init 116 = .ok (.iastore, 1) := by decide +kernel
theorem dX12_init_117 : decode cX12_init 117 = .ok (.iconst 0, 1) := by decide +kernel
theorem dX12_init_118 : decode cX12_init 118 = .ok (.istore_n 1, 1) := by decide +kernel
theorem dX12_init_119 : decode cX12_init 119 = .ok (.iload_n 1, 1) := by decide +kernel
theorem dX12_init_120 : decode cX12_init 120 = .ok (.bipush 12, 2) := by decide +kernel
theorem dX12_init_122 : decode cX12_init 122 = .ok (.if_icmp .ge 22, 3) := by decide +kernel
theorem dX12_init_125 : decode cX12_init 125 = .ok (.aload_n 0, 1) := by decide +kernel
theorem dX12_init_126 : decode cX12_init 126 = .ok (.getfield 7, 3) := by decide +kernel
theorem dX12_init_129 : decode cX12_init 129 = .ok (.bipush 6, 2) := by decide +kernel
theorem dX12_init_131 : decode cX12_init 131 = .ok (.iload_n 1, 1) := by decide +kernel
theorem dX12_init_132 : decode cX12_init 132 = .ok (.iadd, 1) := by decide +kernel
theorem dX12_init_133 : decode cX12_init 133 = .ok (.iload_n 1, 1) := by decide +kernel
theorem dX12_init_134 : decode cX12_init 134 = .ok (.bipush 10, 2) := by decide +kernel
theorem dX12_init_136 : decode cX12_init 136 = .ok (.irem, 1) := by decide +kernel
theorem dX12_init_137 : decode cX12_init 137 = .ok (.iastore, 1) := by decide +kernel
theorem dX12_init_138 : decode cX12_init 138 = .ok (.iinc 1 1, 3) := by decide +kernel
theorem dX12_init_141 : decode cX12_init 141 = .ok (.goto (-22), 3) := by decide +kernel
theorem dX12_init_144 : decode cX12_init 144 = .ok (.iconst 0, 1) := by decide +kernel
theorem dX12_init_145 : decode cX12_init 145 = .ok (.istore_n 1, 1) := by decide +kernel
theorem dX12_init_146 : decode cX12_init 146 = .ok (.iload_n 1, 1) := by decide +kernel
theorem dX12_init_147 : decode cX12_init 147 = .ok (.bipush 6, 2) := by decide +kernel
theorem dX12_init_149 : decode cX12_init 149 = .ok (.if_icmp .ge 19, 3) := by decide +kernel
theorem dX12_init_152 : decode cX12_init 152 = .ok (.aload_n 0, 1) := by decide +kernel
theorem dX12_init_153 : decode cX12_init 153 = .ok (.getfield 7, 3) := by decide +kernel
theorem dX12_init_156 : decode cX12_init 156 = .ok (.bipush 18, 2) := by decide +kernel
theorem dX12_init_158 : decode cX12_init 158 = .ok (.iload_n 1, 1) := by decide +kernel
theorem dX12_init_159 : decode cX12_init 159 = .ok (.iadd, 1) := by decide +kernel
theorem dX12_init_160 : decode cX12_init 160 = .ok (.iconst (-1), 1) := by decide +kernel
theorem dX12_init_161 : decode cX12_init 161 = .ok (.iastore, 1) := by decide +kernel
theorem dX12_init_162 : decode cX12_init 162 = .ok (.iinc 1 1, 3) := by decide +kernel
theorem dX12_init_165 : decode cX12_init 165 = .ok (.goto (-19), 3) := by decide +kernel
theorem dX12_init_168 : decode cX12_init 168 = .ok (.iconst 0, 1) := by decide +kernel
theorem dX12_init_169 : decode cX12_init 169 = .ok (.istore_n 1, 1) := by decide +kernel
theorem dX12_init_170 : decode cX12_init 170 = .ok (.iload_n 1, 1) := by decide +kernel
theorem dX12_init_171 : decode cX12_init 171 = .ok (.iconst 4, 1) := by decide +kernel
theorem dX12_init_172 : decode cX12_init 172 = .ok (.if_icmp .ge 19, 3) := by decide +kernel
theorem dX12_init_175 : decode cX12_init 175 = .ok (.aload_n 0, 1) := by decide +kernel
theorem dX12_init_176 : decode cX12_init 176 = .ok (.getfield 7, 3) := by decide +kernel
theorem dX12_init_179 : decode cX12_init 179 = .ok (.bipush 30, 2) := by decide +kernel
theorem dX12_init_181 : decode cX12_init 181 = .ok (.iload_n 1, 1) := by decide +kernel
theorem dX12_init_182 : decode cX12_init 182 = .ok (.iadd, 1) := by decide +kernel
theorem dX12_init_183 : decode cX12_init 183 = .ok (.iconst (-1), 1) := by decide +kernel
theorem dX12_init_184 : decode cX12_init 184 = .ok (.iastore, 1) := by decide +kernel
theorem dX12_init_185 : decode cX12_init 185 = .ok (.iinc 1 1, 3) := by decide +kernel
theorem dX12_init_188 : decode cX12_init 188 = .ok (.goto (-18), 3) := by decide +kernel
theorem dX12_init_191 : decode cX12_init 191 = .ok (.return_, 1) := by decide +kernel
theorem dX12_finds_0 : decode cX12_finds 0 = .ok (.aload_n 0, 1) := by decide +kernel
theorem dX12_finds_1 : decode cX12_finds 1 = .ok (.getfield 19, 3) := by decide +kernel
theorem dX12_finds_4 : decode cX12_finds 4 = .ok (.iload_n 1, 1) := by decide +kernel
theorem dX12_finds_5 : decode cX12_finds 5 = .ok (.dup2, 1) := by decide +kernel
theorem dX12_finds_6 : decode cX12_finds 6 = .ok (.iaload, 1) := by decide +kernel
theorem dX12_finds_7 : decode cX12_finds 7 = .ok (.iconst 1, 1) := by decide +kernel
theorem dX12_finds_8 : decode cX12_finds 8 = .ok (.iadd, 1) := by decide +kernel
theorem dX12_finds_9 : decode cX12_finds 9 = .ok (.iastore, 1) := by decide +kernel
theorem dX12_finds_10 : decode cX12_finds 10 = .ok (.ldc 49, 2) := by decide +kernel
theorem dX12_finds_12 : decode cX12_finds 12 = .ok (.iload_n 1, 1) := by decide +kernel
theorem dX12_finds_13 : decode cX12_finds 13 = .ok (.isub, 1) := by decide +kernel
theorem dX12_finds_14 : decode cX12_finds 14 = .ok (.ireturn, 1) := by decide +kernel
theorem dX12_in_0 : decode cX12_in 0 = .ok (.lload_n 0, 1) := by decide +kernel
theorem dX12_in_1 : decode cX12_in 1 = .ok (.lload_n 2, 1) := by decide +kernel
theorem dX12_in_2 : decode cX12_in 2 = .ok (.lcmp, 1) := by decide +kernel
theorem dX12_in_3 : decode cX12_in 3 = .ok (.ifCond .lt 14, 3) := by decide +kernel
theorem dX12_in_6 : decode cX12_in 6 = .ok (.lload_n 0, 1) := by decide +kernel
theorem dX12_in_7 : decode cX12_in 7 = .ok (.lload 4, 2) := by decide +kernel
theorem dX12_in_9 : decode cX12_in 9 = .ok (.lcmp, 1) := by decide +kernel
theorem dX12_in_10 : decode cX12_in 10 = .ok (.ifCond .gt 7, 3) := by decide +kernel
theorem dX12_in_13 : decode cX12_in 13 = .ok (.iconst 1, 1) := by decide +kernel
theorem dX12_in_14 : decode cX12_in 14 = .ok (.goto 4, 3) := by decide +kernel
theorem dX12_in_17 : decode cX12_in 17 = .ok (.iconst 0, 1) := by decide +kernel
theorem dX12_in_18 : decode cX12_in 18 = .ok (.ireturn, 1) := by decide +kernel
theorem dX12_held_0 : decode cX12_held 0 = .ok (.iload_n 0, 1) := by decide +kernel
theorem dX12_held_1 : decode cX12_held 1 = .ok (.iload_n 1, 1) := by decide +kernel
theorem dX12_held_2 : decode cX12_held 2 = .ok (.if_icmp .ge 7, 3) := by decide +kernel
theorem dX12_held_5 : decode cX12_held 5 = .ok (.iload_n 1, 1) := by decide +kernel
theorem dX12_held_6 : decode cX12_held 6 = .ok (.goto 13, 3) := by decide +kernel
theorem dX12_held_9 : decode cX12_held 9 = .ok (.iload_n 0, 1) := by decide +kernel
theorem dX12_held_10 : decode cX12_held 10 = .ok (.iload_n 2, 1) := by decide +kernel
theorem dX12_held_11 : decode cX12_held 11 = .ok (.if_icmp .le 7, 3) := by decide +kernel
theorem dX12_held_14 : decode cX12_held 14 = .ok (.iload_n 2, 1) := by decide +kernel
theorem dX12_held_15 : decode cX12_held 15 = .ok (.goto 4, 3) := by decide +kernel
theorem dX12_held_18 : decode cX12_held 18 = .ok (.iload_n 0, 1) := by decide +kernel
theorem dX12_held_19 : decode cX12_held 19 = .ok (.ireturn, 1) := by decide +kernel
set_option maxRecDepth 20000 in
theorem ggX12_isSpoon_X12_in : GoodIn wsX12_isSpoon wsX12_in := goodIn_r _ [5] rfl (by decide +kernel)
set_option maxRecDepth 20000 in
theorem gX12_isSpoon_X12_in : GoodIn wsX12_isSpoon (va_wsS RX12 50 yX12_in wsX12_in) := goodIn_app (goodIn_r _ [2, 3, 4] rfl (by decide +kernel)) ggX12_isSpoon_X12_in
theorem dX12_isSpoon_0 : decode cX12_isSpoon 0 = .ok (.iload_n 1, 1) := by decide +kernel
theorem dX12_isSpoon_1 : decode cX12_isSpoon 1 = .ok (.i2l, 1) := by decide +kernel
theorem dX12_isSpoon_2 : decode cX12_isSpoon 2 = .ok (.lconst 0, 1) := by decide +kernel
theorem dX12_isSpoon_3 : decode cX12_isSpoon 3 = .ok (.aload_n 0, 1) := by decide +kernel
theorem dX12_isSpoon_4 : decode cX12_isSpoon 4 = .ok (.getfield 7, 3) := by decide +kernel
theorem dX12_isSpoon_7 : decode cX12_isSpoon 7 = .ok (.iconst 0, 1) := by decide +kernel
theorem dX12_isSpoon_8 : decode cX12_isSpoon 8 = .ok (.iaload, 1) := by decide +kernel
theorem dX12_isSpoon_9 : decode cX12_isSpoon 9 = .ok (.iconst 1, 1) := by decide +kernel
theorem dX12_isSpoon_10 : decode cX12_isSpoon 10 = .ok (.isub, 1) := by decide +kernel
theorem dX12_isSpoon_11 : decode cX12_isSpoon 11 = .ok (.i2l, 1) := by decide +kernel
theorem dX12_isSpoon_12 : decode cX12_isSpoon 12 = .ok (.invokestatic 50, 3) := by decide +kernel
theorem dX12_isSpoon_15 : decode cX12_isSpoon 15 = .ok (.ireturn, 1) := by decide +kernel
set_option maxRecDepth 20000 in
theorem ggX12_isWord_X12_in : GoodIn wsX12_isWord wsX12_in := goodIn_r _ [5] rfl (by decide +kernel)
set_option maxRecDepth 20000 in
theorem gX12_isWord_X12_in : GoodIn wsX12_isWord (va_wsS RX12 50 yX12_in wsX12_in) := goodIn_app (goodIn_r _ [2, 3, 4] rfl (by decide +kernel)) ggX12_isWord_X12_in
theorem dX12_isWord_0 : decode cX12_isWord 0 = .ok (.iload_n 0, 1) := by decide +kernel
theorem dX12_isWord_1 : decode cX12_isWord 1 = .ok (.i2l, 1) := by decide +kernel
theorem dX12_isWord_2 : decode cX12_isWord 2 = .ok (.lconst 0, 1) := by decide +kernel
theorem dX12_isWord_3 : decode cX12_isWord 3 = .ok (.ldc2_w 54, 3) := by decide +kernel
theorem dX12_isWord_6 : decode cX12_isWord 6 = .ok (.invokestatic 50, 3) := by decide +kernel
theorem dX12_isWord_9 : decode cX12_isWord 9 = .ok (.ireturn, 1) := by decide +kernel
set_option maxRecDepth 20000 in
theorem ggX12_areWords_X12_in : GoodIn wsX12_areWords wsX12_in := goodIn_r _ [5] rfl (by decide +kernel)
set_option maxRecDepth 20000 in
theorem gX12_areWords_X12_in : GoodIn wsX12_areWords (va_wsS RX12 50 yX12_in wsX12_in) := goodIn_app (goodIn_r _ [2, 3, 4] rfl (by decide +kernel)) ggX12_areWords_X12_in
theorem dX12_areWords_0 : decode cX12_areWords 0 = .ok (.iload_n 0, 1) := by decide +kernel
theorem dX12_areWords_1 : decode cX12_areWords 1 = .ok (.i2l, 1) := by decide +kernel
theorem dX12_areWords_2 : decode cX12_areWords 2 = .ok (.lconst 0, 1) := by decide +kernel
theorem dX12_areWords_3 : decode cX12_areWords 3 = .ok (.ldc2_w 56, 3) := by decide +kernel
theorem dX12_areWords_6 : decode cX12_areWords 6 = .ok (.invokestatic 50, 3) := by decide +kernel
theorem dX12_areWords_9 : decode cX12_areWords 9 = .ok (.ireturn, 1) := by decide +kernel
theorem dX12_of_0 : decode cX12_of 0 = .ok (.aload_n 0, 1) := by decide +kernel
theorem dX12_of_1 : decode cX12_of 1 = .ok (.getfield 7, 3) := by decide +kernel
theorem dX12_of_4 : decode cX12_of 4 = .ok (.bipush 34, 2) := by decide +kernel
theorem dX12_of_6 : decode cX12_of 6 = .ok (.bipush 15, 2) := by decide +kernel
theorem dX12_of_8 : decode cX12_of 8 = .ok (.iload_n 1, 1) := by decide +kernel
theorem dX12_of_9 : decode cX12_of 9 = .ok (.imul, 1) := by decide +kernel
theorem dX12_of_10 : decode cX12_of 10 = .ok (.iadd, 1) := by decide +kernel
theorem dX12_of_11 : decode cX12_of 11 = .ok (.iload_n 2, 1) := by decide +kernel
theorem dX12_of_12 : decode cX12_of 12 = .ok (.iadd, 1) := by decide +kernel
theorem dX12_of_13 : decode cX12_of 13 = .ok (.iaload, 1) := by decide +kernel
theorem dX12_of_14 : decode cX12_of 14 = .ok (.ireturn, 1) := by decide +kernel
theorem dX12_sets_0 : decode cX12_sets 0 = .ok (.aload_n 0, 1) := by decide +kernel
theorem dX12_sets_1 : decode cX12_sets 1 = .ok (.getfield 7, 3) := by decide +kernel
theorem dX12_sets_4 : decode cX12_sets 4 = .ok (.bipush 34, 2) := by decide +kernel
theorem dX12_sets_6 : decode cX12_sets 6 = .ok (.bipush 15, 2) := by decide +kernel
theorem dX12_sets_8 : decode cX12_sets 8 = .ok (.iload_n 1, 1) := by decide +kernel
theorem dX12_sets_9 : decode cX12_sets 9 = .ok (.imul, 1) := by decide +kernel
theorem dX12_sets_10 : decode cX12_sets 10 = .ok (.iadd, 1) := by decide +kernel
theorem dX12_sets_11 : decode cX12_sets 11 = .ok (.iload_n 2, 1) := by decide +kernel
theorem dX12_sets_12 : decode cX12_sets 12 = .ok (.iadd, 1) := by decide +kernel
theorem dX12_sets_13 : decode cX12_sets 13 = .ok (.iload_n 3, 1) := by decide +kernel
theorem dX12_sets_14 : decode cX12_sets 14 = .ok (.iastore, 1) := by decide +kernel
theorem dX12_sets_15 : decode cX12_sets 15 = .ok (.return_, 1) := by decide +kernel
theorem dX12_above_0 : decode cX12_above 0 = .ok (.iload_n 0, 1) := by decide +kernel
