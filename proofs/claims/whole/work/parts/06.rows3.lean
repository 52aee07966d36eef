theorem dX12_feed_59 : decode cX12_feed 59 = .ok (.iadd, 1) := by decide +kernel
theorem dX12_feed_60 : decode cX12_feed 60 = .ok (.lload_n 1, 1) := by decide +kernel
theorem dX12_feed_61 : decode cX12_feed 61 = .ok (.bipush 8, 2) := by decide +kernel
theorem dX12_feed_63 : decode cX12_feed 63 = .ok (.iload 4, 2) := by decide +kernel
theorem dX12_feed_65 : decode cX12_feed 65 = .ok (.imul, 1) := by decide +kernel
theorem dX12_feed_66 : decode cX12_feed 66 = .ok (.lshr, 1) := by decide +kernel
theorem dX12_feed_67 : decode cX12_feed 67 = .ok (.ldc2_w 134, 3) := by decide +kernel
theorem dX12_feed_70 : decode cX12_feed 70 = .ok (.land, 1) := by decide +kernel
theorem dX12_feed_71 : decode cX12_feed 71 = .ok (.l2i, 1) := by decide +kernel
theorem dX12_feed_72 : decode cX12_feed 72 = .ok (.iastore, 1) := by decide +kernel
theorem dX12_feed_73 : decode cX12_feed 73 = .ok (.aload_n 0, 1) := by decide +kernel
theorem dX12_feed_74 : decode cX12_feed 74 = .ok (.getfield 7, 3) := by decide +kernel
theorem dX12_feed_77 : decode cX12_feed 77 = .ok (.iconst 4, 1) := by decide +kernel
theorem dX12_feed_78 : decode cX12_feed 78 = .ok (.dup2, 1) := by decide +kernel
theorem dX12_feed_79 : decode cX12_feed 79 = .ok (.iaload, 1) := by decide +kernel
theorem dX12_feed_80 : decode cX12_feed 80 = .ok (.iconst 1, 1) := by decide +kernel
theorem dX12_feed_81 : decode cX12_feed 81 = .ok (.iadd, 1) := by decide +kernel
theorem dX12_feed_82 : decode cX12_feed 82 = .ok (.iastore, 1) := by decide +kernel
theorem dX12_feed_83 : decode cX12_feed 83 = .ok (.iinc 4 1, 3) := by decide +kernel
theorem dX12_feed_86 : decode cX12_feed 86 = .ok (.goto (-46), 3) := by decide +kernel
theorem dX12_feed_89 : decode cX12_feed 89 = .ok (.aload_n 0, 1) := by decide +kernel
theorem dX12_feed_90 : decode cX12_feed 90 = .ok (.getfield 7, 3) := by decide +kernel
theorem dX12_feed_93 : decode cX12_feed 93 = .ok (.iconst 4, 1) := by decide +kernel
theorem dX12_feed_94 : decode cX12_feed 94 = .ok (.iaload, 1) := by decide +kernel
theorem dX12_feed_95 : decode cX12_feed 95 = .ok (.ireturn, 1) := by decide +kernel
set_option maxRecDepth 20000 in
theorem ggX12_text_X12_in : GoodIn wsX12_text wsX12_in := goodIn_r _ [8] (by decide +kernel) (by decide +kernel)
set_option maxRecDepth 20000 in
theorem gX12_text_X12_in : GoodIn wsX12_text (va_wsS RX12 50 yX12_in wsX12_in) := goodIn_app (goodIn_of _ (by decide +kernel)) ggX12_text_X12_in
set_option maxRecDepth 20000 in
theorem ggX12_text_X12_finds : GoodIn wsX12_text wsX12_finds := goodIn_r _ [12, 13, 14, 74, 75, 76, 77, 78, 79, 80, 81, 82, 83, 84, 85, 86, 87, 88, 89, 90, 91, 92, 93, 94, 95, 96] (by decide +kernel) (by decide +kernel)
set_option maxRecDepth 20000 in
theorem gX12_text_X12_finds : GoodIn wsX12_text (wsV RX12 131 RX12 yX12_finds wsX12_finds) := goodIn_app (goodIn_of _ (by decide +kernel)) ggX12_text_X12_finds
set_option maxRecDepth 20000 in
theorem ggX12_text_X12_reads : GoodIn wsX12_text wsX12_reads := goodIn_r _ [18, 19, 20, 21, 2, 22, 3, 23, 24, 25, 26, 7, 27, 28, 29, 30, 31, 32, 33, 34, 35, 36, 37, 38, 1, 39, 40, 41, 42, 4, 43, 44, 45, 46, 47, 48, 49, 50, 51, 52, 53, 54, 55, 56, 57, 58, 59, 60, 61, 62, 63, 64, 65, 66, 67, 68, 69, 70, 71, 72, 73, 5, 6, 8, 74, 75, 76, 77, 78, 79, 80, 81, 82, 83, 84, 85, 86, 87, 88, 89, 90, 91, 92, 93, 94, 95, 96] (by decide +kernel) (by decide +kernel)
set_option maxRecDepth 20000 in
theorem gX12_text_X12_reads : GoodIn wsX12_text (wsV RX12 136 RX12 yX12_reads wsX12_reads) := goodIn_app (goodIn_of _ (by decide +kernel)) ggX12_text_X12_reads
theorem dX12_text_0 : decode cX12_text 0 = .ok (.iload_n 1, 1) := by decide +kernel
theorem dX12_text_1 : decode cX12_text 1 = .ok (.i2l, 1) := by decide +kernel
theorem dX12_text_2 : decode cX12_text 2 = .ok (.lconst 0, 1) := by decide +kernel
theorem dX12_text_3 : decode cX12_text 3 = .ok (.lconst 1, 1) := by decide +kernel
theorem dX12_text_4 : decode cX12_text 4 = .ok (.invokestatic 50, 3) := by decide +kernel
theorem dX12_text_7 : decode cX12_text 7 = .ok (.ifCond .ne 9, 3) := by decide +kernel
theorem dX12_text_10 : decode cX12_text 10 = .ok (.aload_n 0, 1) := by decide +kernel
theorem dX12_text_11 : decode cX12_text 11 = .ok (.iconst 1, 1) := by decide +kernel
theorem dX12_text_12 : decode cX12_text 12 = .ok (.invokevirtual 131, 3) := by decide +kernel
theorem dX12_text_15 : decode cX12_text 15 = .ok (.ireturn, 1) := by decide +kernel
theorem dX12_text_16 : decode cX12_text 16 = .ok (.aload_n 0, 1) := by decide +kernel
theorem dX12_text_17 : decode cX12_text 17 = .ok (.getfield 7, 3) := by decide +kernel
theorem dX12_text_20 : decode cX12_text 20 = .ok (.iconst 4, 1) := by decide +kernel
theorem dX12_text_21 : decode cX12_text 21 = .ok (.iaload, 1) := by decide +kernel
theorem dX12_text_22 : decode cX12_text 22 = .ok (.istore_n 2, 1) := by decide +kernel
theorem dX12_text_23 : decode cX12_text 23 = .ok (.aload_n 0, 1) := by decide +kernel
theorem dX12_text_24 : decode cX12_text 24 = .ok (.getfield 7, 3) := by decide +kernel
theorem dX12_text_27 : decode cX12_text 27 = .ok (.iconst 4, 1) := by decide +kernel
theorem dX12_text_28 : decode cX12_text 28 = .ok (.iconst 0, 1) := by decide +kernel
theorem dX12_text_29 : decode cX12_text 29 = .ok (.iastore, 1) := by decide +kernel
theorem dX12_text_30 : decode cX12_text 30 = .ok (.aload_n 0, 1) := by decide +kernel
theorem dX12_text_31 : decode cX12_text 31 = .ok (.sipush 276, 3) := by decide +kernel
theorem dX12_text_34 : decode cX12_text 34 = .ok (.iload_n 2, 1) := by decide +kernel
theorem dX12_text_35 : decode cX12_text 35 = .ok (.iload_n 1, 1) := by decide +kernel
theorem dX12_text_36 : decode cX12_text 36 = .ok (.invokevirtual 136, 3) := by decide +kernel
theorem dX12_text_39 : decode cX12_text 39 = .ok (.aload_n 0, 1) := by decide +kernel
theorem dX12_text_40 : decode cX12_text 40 = .ok (.getfield 65, 3) := by decide +kernel
theorem dX12_text_43 : decode cX12_text 43 = .ok (.ifCond .lt 11, 3) := by decide +kernel
theorem dX12_text_46 : decode cX12_text 46 = .ok (.bipush (-10), 2) := by decide +kernel
theorem dX12_text_48 : decode cX12_text 48 = .ok (.aload_n 0, 1) := by decide +kernel
theorem dX12_text_49 : decode cX12_text 49 = .ok (.getfield 65, 3) := by decide +kernel
theorem dX12_text_52 : decode cX12_text 52 = .ok (.isub, 1) := by decide +kernel
theorem dX12_text_53 : decode cX12_text 53 = .ok (.ireturn, 1) := by decide +kernel
theorem dX12_text_54 : decode cX12_text 54 = .ok (.aload_n 0, 1) := by decide +kernel
theorem dX12_text_55 : decode cX12_text 55 = .ok (.getfield 7, 3) := by decide +kernel
theorem dX12_text_58 : decode cX12_text 58 = .ok (.sipush 154, 3) := by decide +kernel
theorem dX12_text_61 : decode cX12_text 61 = .ok (.iload_n 1, 1) := by decide +kernel
theorem dX12_text_62 : decode cX12_text 62 = .ok (.iadd, 1) := by decide +kernel
theorem dX12_text_63 : decode cX12_text 63 = .ok (.aload_n 0, 1) := by decide +kernel
theorem dX12_text_64 : decode cX12_text 64 = .ok (.getfield 79, 3) := by decide +kernel
theorem dX12_text_67 : decode cX12_text 67 = .ok (.iastore, 1) := by decide +kernel
theorem dX12_text_68 : decode cX12_text 68 = .ok (.iconst 0, 1) := by decide +kernel
theorem dX12_text_69 : decode cX12_text 69 = .ok (.istore_n 3, 1) := by decide +kernel
theorem dX12_text_70 : decode cX12_text 70 = .ok (.iload_n 3, 1) := by decide +kernel
theorem dX12_text_71 : decode cX12_text 71 = .ok (.aload_n 0, 1) := by decide +kernel
theorem dX12_text_72 : decode cX12_text 72 = .ok (.getfield 79, 3) := by decide +kernel
theorem dX12_text_75 : decode cX12_text 75 = .ok (.if_icmp .ge 30, 3) := by decide +kernel
theorem dX12_text_78 : decode cX12_text 78 = .ok (.aload_n 0, 1) := by decide +kernel
theorem dX12_text_79 : decode cX12_text 79 = .ok (.getfield 7, 3) := by decide +kernel
theorem dX12_text_82 : decode cX12_text 82 = .ok (.sipush 176, 3) := by decide +kernel
theorem dX12_text_85 : decode cX12_text 85 = .ok (.bipush 50, 2) := by decide +kernel
theorem dX12_text_87 : decode cX12_text 87 = .ok (.iload_n 1, 1) := by decide +kernel
theorem dX12_text_88 : decode cX12_text 88 = .ok (.imul, 1) := by decide +kernel
theorem dX12_text_89 : decode cX12_text 89 = .ok (.iadd, 1) := by decide +kernel
theorem dX12_text_90 : decode cX12_text 90 = .ok (.iload_n 3, 1) := by decide +kernel
theorem dX12_text_91 : decode cX12_text 91 = .ok (.iadd, 1) := by decide +kernel
theorem dX12_text_92 : decode cX12_text 92 = .ok (.aload_n 0, 1) := by decide +kernel
theorem dX12_text_93 : decode cX12_text 93 = .ok (.getfield 25, 3) := by decide +kernel
theorem dX12_text_96 : decode cX12_text 96 = .ok (.iload_n 3, 1) := by decide +kernel
theorem dX12_text_97 : decode cX12_text 97 = .ok (.iaload, 1) := by decide +kernel
theorem dX12_text_98 : decode cX12_text 98 = .ok (.iastore, 1) := by decide +kernel
theorem dX12_text_99 : decode cX12_text 99 = .ok (.iinc 3 1, 3) := by decide +kernel
theorem dX12_text_102 : decode cX12_text 102 = .ok (.goto (-32), 3) := by decide +kernel
theorem dX12_text_105 : decode cX12_text 105 = .ok (.iconst 1, 1) := by decide +kernel
theorem dX12_text_106 : decode cX12_text 106 = .ok (.ireturn, 1) := by decide +kernel
set_option maxRecDepth 20000 in
theorem ggX12_textGives_X12_worked : GoodIn wsX12_textGives wsX12_worked := goodIn_r _ [7, 1, 8, 2, 9, 10, 6, 11, 15, 16, 17, 18, 19, 20, 21, 22, 23, 24, 25, 26, 27, 28, 29, 30, 31, 32, 33, 34, 35, 36, 37] (by decide +kernel) (by decide +kernel)
set_option maxRecDepth 20000 in
theorem gX12_textGives_X12_worked : GoodIn wsX12_textGives (wsV RX12 140 RX12 yX12_worked wsX12_worked) := goodIn_app (goodIn_of _ (by decide +kernel)) ggX12_textGives_X12_worked
set_option maxRecDepth 20000 in
theorem ggX12_textGives_X12_held : GoodIn wsX12_textGives wsX12_held := goodIn_r _ [14] (by decide +kernel) (by decide +kernel)
set_option maxRecDepth 20000 in
theorem gX12_textGives_X12_held : GoodIn wsX12_textGives (va_wsS RX12 144 yX12_held wsX12_held) := goodIn_app (goodIn_of _ (by decide +kernel)) ggX12_textGives_X12_held
theorem dX12_textGives_0 : decode cX12_textGives 0 = .ok (.iload_n 2, 1) := by decide +kernel
theorem dX12_textGives_1 : decode cX12_textGives 1 = .ok (.istore 5, 2) := by decide +kernel
theorem dX12_textGives_3 : decode cX12_textGives 3 = .ok (.aload_n 0, 1) := by decide +kernel
theorem dX12_textGives_4 : decode cX12_textGives 4 = .ok (.getfield 7, 3) := by decide +kernel
theorem dX12_textGives_7 : decode cX12_textGives 7 = .ok (.sipush 154, 3) := by decide +kernel
theorem dX12_textGives_10 : decode cX12_textGives 10 = .ok (.iload_n 1, 1) := by decide +kernel
theorem dX12_textGives_11 : decode cX12_textGives 11 = .ok (.iadd, 1) := by decide +kernel
theorem dX12_textGives_12 : decode cX12_textGives 12 = .ok (.iaload, 1) := by decide +kernel
theorem dX12_textGives_13 : decode cX12_textGives 13 = .ok (.ifCond .le 49, 3) := by decide +kernel
theorem dX12_textGives_16 : decode cX12_textGives 16 = .ok (.aload_n 0, 1) := by decide +kernel
theorem dX12_textGives_17 : decode cX12_textGives 17 = .ok (.getfield 22, 3) := by decide +kernel
theorem dX12_textGives_20 : decode cX12_textGives 20 = .ok (.iconst 0, 1) := by decide +kernel
theorem dX12_textGives_21 : decode cX12_textGives 21 = .ok (.iload_n 2, 1) := by decide +kernel
theorem dX12_textGives_22 : decode cX12_textGives 22 = .ok (.iastore, 1) := by decide +kernel
theorem dX12_textGives_23 : decode cX12_textGives 23 = .ok (.aload_n 0, 1) := by decide +kernel
theorem dX12_textGives_24 : decode cX12_textGives 24 = .ok (.getfield 22, 3) := by decide +kernel
theorem dX12_textGives_27 : decode cX12_textGives 27 = .ok (.iconst 1, 1) := by decide +kernel
theorem dX12_textGives_28 : decode cX12_textGives 28 = .ok (.iload_n 3, 1) := by decide +kernel
theorem dX12_textGives_29 : decode cX12_textGives 29 = .ok (.iastore, 1) := by decide +kernel
theorem dX12_textGives_30 : decode cX12_textGives 30 = .ok (.aload_n 0, 1) := by decide +kernel
theorem dX12_textGives_31 : decode cX12_textGives 31 = .ok (.getfield 22, 3) := by decide +kernel
theorem dX12_textGives_34 : decode cX12_textGives 34 = .ok (.iconst 2, 1) := by decide +kernel
theorem dX12_textGives_35 : decode cX12_textGives 35 = .ok (.iload 4, 2) := by decide +kernel
theorem dX12_textGives_37 : decode cX12_textGives 37 = .ok (.iastore, 1) := by decide +kernel
theorem dX12_textGives_38 : decode cX12_textGives 38 = .ok (.aload_n 0, 1) := by decide +kernel
theorem dX12_textGives_39 : decode cX12_textGives 39 = .ok (.sipush 176, 3) := by decide +kernel
theorem dX12_textGives_42 : decode cX12_textGives 42 = .ok (.bipush 50, 2) := by decide +kernel
theorem dX12_textGives_44 : decode cX12_textGives 44 = .ok (.iload_n 1, 1) := by decide +kernel
theorem dX12_textGives_45 : decode cX12_textGives 45 = .ok (.imul, 1) := by decide +kernel
theorem dX12_textGives_46 : decode cX12_textGives 46 = .ok (.iadd, 1) := by decide +kernel
theorem dX12_textGives_47 : decode cX12_textGives 47 = .ok (.aload_n 0, 1) := by decide +kernel
theorem dX12_textGives_48 : decode cX12_textGives 48 = .ok (.getfield 7, 3) := by decide +kernel
theorem dX12_textGives_51 : decode cX12_textGives 51 = .ok (.sipush 154, 3) := by decide +kernel
theorem dX12_textGives_54 : decode cX12_textGives 54 = .ok (.iload_n 1, 1) := by decide +kernel
theorem dX12_textGives_55 : decode cX12_textGives 55 = .ok (.iadd, 1) := by decide +kernel
theorem dX12_textGives_56 : decode cX12_textGives 56 = .ok (.iaload, 1) := by decide +kernel
theorem dX12_textGives_57 : decode cX12_textGives 57 = .ok (.invokevirtual 140, 3) := by decide +kernel
theorem dX12_textGives_60 : decode cX12_textGives 60 = .ok (.istore 5, 2) := by decide +kernel
theorem dX12_textGives_62 : decode cX12_textGives 62 = .ok (.iload 5, 2) := by decide +kernel
theorem dX12_textGives_64 : decode cX12_textGives 64 = .ok (.iconst 0, 1) := by decide +kernel
theorem dX12_textGives_65 : decode cX12_textGives 65 = .ok (.iload_n 1, 1) := by decide +kernel
theorem dX12_textGives_66 : decode cX12_textGives 66 = .ok (.ifCond .ne 8, 3) := by decide +kernel
theorem dX12_textGives_69 : decode cX12_textGives 69 = .ok (.bipush 9, 2) := by decide +kernel
theorem dX12_textGives_71 : decode cX12_textGives 71 = .ok (.goto 5, 3) := by decide +kernel
theorem dX12_textGives_74 : decode cX12_textGives 74 = .ok (.bipush 20, 2) := by decide +kernel
theorem dX12_textGives_76 : decode cX12_textGives 76 = .ok (.invokestatic 144, 3) := by decide +kernel
theorem dX12_textGives_79 : decode cX12_textGives 79 = .ok (.ireturn, 1) := by decide +kernel
set_option maxRecDepth 20000 in
theorem ggX12_law_X12_in : GoodIn wsX12_law wsX12_in := goodIn_r _ [4] (by decide +kernel) (by decide +kernel)
set_option maxRecDepth 20000 in
theorem gX12_law_X12_in : GoodIn wsX12_law (va_wsS RX12 50 yX12_in wsX12_in) := goodIn_app (goodIn_of _ (by decide +kernel)) ggX12_law_X12_in
set_option maxRecDepth 20000 in
theorem ggX12_law_X12_textGives : GoodIn wsX12_law wsX12_textGives := goodIn_r _ [8, 9, 10, 11, 12, 13, 3, 14, 15, 16, 17, 18, 19, 20, 21, 28, 29, 30, 31, 32, 33, 34, 35, 36, 37, 38, 39, 40, 41, 42, 43, 44, 45, 46, 47, 48, 49, 50] (by decide +kernel) (by decide +kernel)
set_option maxRecDepth 20000 in
theorem gX12_law_X12_textGives : GoodIn wsX12_law (wsV RX12 147 RX12 yX12_textGives wsX12_textGives) := goodIn_app (goodIn_of _ (by decide +kernel)) ggX12_law_X12_textGives
set_option maxRecDepth 20000 in
theorem ggX12_law_X12_finds : GoodIn wsX12_law wsX12_finds := goodIn_r _ [25, 26, 27, 28, 29, 30, 31, 32, 33, 34, 35, 36, 37, 38, 39, 40, 41, 42, 43, 44, 45, 46, 47, 48, 49, 50] (by decide +kernel) (by decide +kernel)
set_option maxRecDepth 20000 in
theorem gX12_law_X12_finds : GoodIn wsX12_law (wsV RX12 131 RX12 yX12_finds wsX12_finds) := goodIn_app (goodIn_of _ (by decide +kernel)) ggX12_law_X12_finds
theorem dX12_law_0 : decode cX12_law 0 = .ok (.iload_n 1, 1) := by decide +kernel
theorem dX12_law_1 : decode cX12_law 1 = .ok (.i2l, 1) := by decide +kernel
theorem dX12_law_2 : decode cX12_law 2 = .ok (.lconst 0, 1) := by decide +kernel
theorem dX12_law_3 : decode cX12_law 3 = .ok (.lconst 1, 1) := by decide +kernel
theorem dX12_law_4 : decode cX12_law 4 = .ok (.invokestatic 50, 3) := by decide +kernel
theorem dX12_law_7 : decode cX12_law 7 = .ok (.ifCond .eq 15, 3) := by decide +kernel
theorem dX12_law_10 : decode cX12_law 10 = .ok (.aload_n 0, 1) := by decide +kernel
theorem dX12_law_11 : decode cX12_law 11 = .ok (.iload_n 1, 1) := by decide +kernel
theorem dX12_law_12 : decode cX12_law 12 = .ok (.iload_n 2, 1) := by decide +kernel
theorem dX12_law_13 : decode cX12_law 13 = .ok (.iload_n 3, 1) := by decide +kernel
theorem dX12_law_14 : decode cX12_law 14 = .ok (.iload 4, 2) := by decide +kernel
theorem dX12_law_16 : decode cX12_law 16 = .ok (.invokevirtual 147, 3) := by decide +kernel
theorem dX12_law_19 : decode cX12_law 19 = .ok (.goto 8, 3) := by decide +kernel
theorem dX12_law_22 : decode cX12_law 22 = .ok (.aload_n 0, 1) := by decide +kernel
theorem dX12_law_23 : decode cX12_law 23 = .ok (.iconst 1, 1) := by decide +kernel
theorem dX12_law_24 : decode cX12_law 24 = .ok (.invokevirtual 131, 3) := by decide +kernel
theorem dX12_law_27 : decode cX12_law 27 = .ok (.ireturn, 1) := by decide +kernel
set_option maxRecDepth 20000 in
theorem ggX12_on_X12_of : GoodIn wsX12_on wsX12_of := goodIn_r _ [5, 6, 7, 8, 9, 10, 11, 12, 13, 14, 15, 16, 17, 18, 19, 20, 21, 22, 23, 24, 25, 26, 27, 28, 29] (by decide +kernel) (by decide +kernel)
set_option maxRecDepth 20000 in
theorem gX12_on_X12_of : GoodIn wsX12_on (wsV RX12 151 RX12 yX12_of wsX12_of) := goodIn_app (goodIn_of _ (by decide +kernel)) ggX12_on_X12_of
theorem dX12_on_0 : decode cX12_on 0 = .ok (.iconst 0, 1) := by decide +kernel
theorem dX12_on_1 : decode cX12_on 1 = .ok (.istore_n 2, 1) := by decide +kernel
theorem dX12_on_2 : decode cX12_on 2 = .ok (.iconst 0, 1) := by decide +kernel
theorem dX12_on_3 : decode cX12_on 3 = .ok (.istore_n 3, 1) := by decide +kernel
theorem dX12_on_4 : decode cX12_on 4 = .ok (.iload_n 3, 1) := by decide +kernel
theorem dX12_on_5 : decode cX12_on 5 = .ok (.bipush 12, 2) := by decide +kernel
theorem dX12_on_7 : decode cX12_on 7 = .ok (.if_icmp .ge 30, 3) := by decide +kernel
theorem dX12_on_10 : decode cX12_on 10 = .ok (.iload_n 2, 1) := by decide +kernel
theorem dX12_on_11 : decode cX12_on 11 = .ok (.aload_n 0, 1) := by decide +kernel
theorem dX12_on_12 : decode cX12_on 12 = .ok (.iload_n 1, 1) := by decide +kernel
theorem dX12_on_13 : decode cX12_on 13 = .ok (.iconst 3, 1) := by decide +kernel
theorem dX12_on_14 : decode cX12_on 14 = .ok (.iload_n 3, 1) := by decide +kernel
theorem dX12_on_15 : decode cX12_on 15 = .ok (.iadd, 1) := by decide +kernel
theorem dX12_on_16 : decode cX12_on 16 = .ok (.invokevirtual 151, 3) := by decide +kernel
theorem dX12_on_19 : decode cX12_on 19 = .ok (.ifCond .le 9, 3) := by decide +kernel
theorem dX12_on_22 : decode cX12_on 22 = .ok (.iconst 1, 1) := by decide +kernel
theorem dX12_on_23 : decode cX12_on 23 = .ok (.iload_n 3, 1) := by decide +kernel
theorem dX12_on_24 : decode cX12_on 24 = .ok (.ishl, 1) := by decide +kernel
theorem dX12_on_25 : decode cX12_on 25 = .ok (.goto 4, 3) := by decide +kernel
theorem dX12_on_28 : decode cX12_on 28 = .ok (.iconst 0, 1) := by decide +kernel
theorem dX12_on_29 : decode cX12_on 29 = .ok (.ior, 1) := by decide +kernel
theorem dX12_on_30 : decode cX12_on 30 = .ok (.istore_n 2, 1) := by decide +kernel
theorem dX12_on_31 : decode cX12_on 31 = .ok (.iinc 3 1, 3) := by decide +kernel
theorem dX12_on_34 : decode cX12_on 34 = .ok (.goto (-30), 3) := by decide +kernel
theorem dX12_on_37 : decode cX12_on 37 = .ok (.iload_n 2, 1) := by decide +kernel
theorem dX12_on_38 : decode cX12_on 38 = .ok (.ireturn, 1) := by decide +kernel
set_option maxRecDepth 20000 in
theorem ggX12_isThrough_X12_of : GoodIn wsX12_isThrough wsX12_of := goodIn_r _ [5, 6, 7, 8, 9, 10, 11, 12, 13, 14, 15, 16, 17, 18, 19, 20, 21, 22, 23, 24, 25, 26, 27, 28, 29] (by decide +kernel) (by decide +kernel)
set_option maxRecDepth 20000 in
theorem gX12_isThrough_X12_of : GoodIn wsX12_isThrough (wsV RX12 151 RX12 yX12_of wsX12_of) := goodIn_app (goodIn_of _ (by decide +kernel)) ggX12_isThrough_X12_of
theorem dX12_isThrough_0 : decode cX12_isThrough 0 = .ok (.aload_n 0, 1) := by decide +kernel
theorem dX12_isThrough_1 : decode cX12_isThrough 1 = .ok (.iload_n 1, 1) := by decide +kernel
theorem dX12_isThrough_2 : decode cX12_isThrough 2 = .ok (.iconst 2, 1) := by decide +kernel
theorem dX12_isThrough_3 : decode cX12_isThrough 3 = .ok (.invokevirtual 151, 3) := by decide +kernel
theorem dX12_isThrough_6 : decode cX12_isThrough 6 = .ok (.ifCond .ne 7, 3) := by decide +kernel
theorem dX12_isThrough_9 : decode cX12_isThrough 9 = .ok (.iconst 1, 1) := by decide +kernel
theorem dX12_isThrough_10 : decode cX12_isThrough 10 = .ok (.goto 4, 3) := by decide +kernel
theorem dX12_isThrough_13 : decode cX12_isThrough 13 = .ok (.iconst 0, 1) := by decide +kernel
theorem dX12_isThrough_14 : decode cX12_isThrough 14 = .ok (.ireturn, 1) := by decide +kernel
set_option maxRecDepth 20000 in
theorem ggX12_stays_X12_of : GoodIn wsX12_stays wsX12_of := goodIn_r _ [6, 1, 7, 8, 9, 10, 11, 12, 13, 14, 15, 16, 17, 18, 19, 20, 21, 22, 23, 24, 25, 26, 27, 28, 29] (by decide +kernel) (by decide +kernel)
set_option maxRecDepth 20000 in
theorem gX12_stays_X12_of : GoodIn wsX12_stays (wsV RX12 151 RX12 yX12_of wsX12_of) := goodIn_app (goodIn_of _ (by decide +kernel)) ggX12_stays_X12_of
theorem dX12_stays_0 : decode cX12_stays 0 = .ok (.aload_n 0, 1) := by decide +kernel
theorem dX12_stays_1 : decode cX12_stays 1 = .ok (.getfield 7, 3) := by decide +kernel
theorem dX12_stays_4 : decode cX12_stays 4 = .ok (.bipush 6, 2) := by decide +kernel
theorem dX12_stays_6 : decode cX12_stays 6 = .ok (.iload_n 2, 1) := by decide +kernel
theorem dX12_stays_7 : decode cX12_stays 7 = .ok (.iadd, 1) := by decide +kernel
theorem dX12_stays_8 : decode cX12_stays 8 = .ok (.iaload, 1) := by decide +kernel
theorem dX12_stays_9 : decode cX12_stays 9 = .ok (.istore_n 3, 1) := by decide +kernel
theorem dX12_stays_10 : decode cX12_stays 10 = .ok (.aload_n 0, 1) := by decide +kernel
theorem dX12_stays_11 : decode cX12_stays 11 = .ok (.iload_n 1, 1) := by decide +kernel
theorem dX12_stays_12 : decode cX12_stays 12 = .ok (.iconst 0, 1) := by decide +kernel
theorem dX12_stays_13 : decode cX12_stays 13 = .ok (.invokevirtual 151, 3) := by decide +kernel
theorem dX12_stays_16 : decode cX12_stays 16 = .ok (.tableswitch 85 1 6 #[40, 85, 46, 48, 56, 67], 40) := by decide +kernel
theorem dX12_stays_56 : decode cX12_stays 56 = .ok (.iconst 3, 1) := by decide +kernel
theorem dX12_stays_57 : decode cX12_stays 57 = .ok (.iload_n 3, 1) := by decide +kernel
theorem dX12_stays_58 : decode cX12_stays 58 = .ok (.iconst 2, 1) := by decide +kernel
theorem dX12_stays_59 : decode cX12_stays 59 = .ok (.idiv, 1) := by decide +kernel
theorem dX12_stays_60 : decode cX12_stays 60 = .ok (.iadd, 1) := by decide +kernel
theorem dX12_stays_61 : decode cX12_stays 61 = .ok (.ireturn, 1) := by decide +kernel
theorem dX12_stays_62 : decode cX12_stays 62 = .ok (.iload_n 3, 1) := by decide +kernel
theorem dX12_stays_63 : decode cX12_stays 63 = .ok (.ireturn, 1) := by decide +kernel
theorem dX12_stays_64 : decode cX12_stays 64 = .ok (.iconst 2, 1) := by decide +kernel
theorem dX12_stays_65 : decode cX12_stays 65 = .ok (.iconst 3, 1) := by decide +kernel
theorem dX12_stays_66 : decode cX12_stays 66 = .ok (.iload_n 3, 1) := by decide +kernel
theorem dX12_stays_67 : decode cX12_stays 67 = .ok (.iconst 2, 1) := by decide +kernel
theorem dX12_stays_68 : decode cX12_stays 68 = .ok (.idiv, 1) := by decide +kernel
theorem dX12_stays_69 : decode cX12_stays 69 = .ok (.iadd, 1) := by decide +kernel
theorem dX12_stays_70 : decode cX12_stays 70 = .ok (.imul, 1) := by decide +kernel
theorem dX12_stays_71 : decode cX12_stays 71 = .ok (.ireturn, 1) := by decide +kernel
theorem dX12_stays_72 : decode cX12_stays 72 = .ok (.iconst 3, 1) := by decide +kernel
theorem dX12_stays_73 : decode cX12_stays 73 = .ok (.aload_n 0, 1) := by decide +kernel
theorem dX12_stays_74 : decode cX12_stays 74 = .ok (.iload_n 1, 1) := by decide +kernel
theorem dX12_stays_75 : decode cX12_stays 75 = .ok (.iconst 1, 1) := by decide +kernel
theorem dX12_stays_76 : decode cX12_stays 76 = .ok (.invokevirtual 151, 3) := by decide +kernel
theorem dX12_stays_79 : decode cX12_stays 79 = .ok (.iconst 3, 1) := by decide +kernel
theorem dX12_stays_80 : decode cX12_stays 80 = .ok (.idiv, 1) := by decide +kernel
theorem dX12_stays_81 : decode cX12_stays 81 = .ok (.iadd, 1) := by decide +kernel
theorem dX12_stays_82 : decode cX12_stays 82 = .ok (.ireturn, 1) := by decide +kernel
theorem dX12_stays_83 : decode cX12_stays 83 = .ok (.aload_n 0, 1) := by decide +kernel
theorem dX12_stays_84 : decode cX12_stays 84 = .ok (.iload_n 1, 1) := by decide +kernel
theorem dX12_stays_85 : decode cX12_stays 85 = .ok (.iconst 2, 1) := by decide +kernel
theorem dX12_stays_86 : decode cX12_stays 86 = .ok (.invokevirtual 151, 3) := by decide +kernel
theorem dX12_stays_89 : decode cX12_stays 89 = .ok (.bipush 10, 2) := by decide +kernel
theorem dX12_stays_91 : decode cX12_stays 91 = .ok (.if_icmp .ge 8, 3) := by decide +kernel
theorem dX12_stays_94 : decode cX12_stays 94 = .ok (.bipush 9, 2) := by decide +kernel
theorem dX12_stays_96 : decode cX12_stays 96 = .ok (.goto 4, 3) := by decide +kernel
theorem dX12_stays_99 : decode cX12_stays 99 = .ok (.iload_n 3, 1) := by decide +kernel
theorem dX12_stays_100 : decode cX12_stays 100 = .ok (.ireturn, 1) := by decide +kernel
theorem dX12_stays_101 : decode cX12_stays 101 = .ok (.iconst 3, 1) := by decide +kernel
theorem dX12_stays_102 : decode cX12_stays 102 = .ok (.ireturn, 1) := by decide +kernel
set_option maxRecDepth 20000 in
theorem ggX12_reads0_X12_of : GoodIn wsX12_reads0 wsX12_of := goodIn_r _ [5, 6, 7, 8, 9, 10, 11, 12, 13, 14, 15, 16, 17, 18, 19, 20, 21, 22, 23, 24, 25, 26, 27, 28, 29] (by decide +kernel) (by decide +kernel)
set_option maxRecDepth 20000 in
theorem gX12_reads0_X12_of : GoodIn wsX12_reads0 (wsV RX12 151 RX12 yX12_of wsX12_of) := goodIn_app (goodIn_of _ (by decide +kernel)) ggX12_reads0_X12_of
theorem dX12_reads0_0 : decode cX12_reads0 0 = .ok (.aload_n 0, 1) := by decide +kernel
theorem dX12_reads0_1 : decode cX12_reads0 1 = .ok (.iload_n 1, 1) := by decide +kernel
theorem dX12_reads0_2 : decode cX12_reads0 2 = .ok (.iconst 0, 1) := by decide +kernel
theorem dX12_reads0_3 : decode cX12_reads0 3 = .ok (.invokevirtual 151, 3) := by decide +kernel
theorem dX12_reads0_6 : decode cX12_reads0 6 = .ok (.tableswitch 61 1 6 #[38, 56, 61, 40, 56, 58], 38) := by decide +kernel
theorem dX12_reads0_44 : decode cX12_reads0 44 = .ok (.iconst 2, 1) := by decide +kernel
theorem dX12_reads0_45 : decode cX12_reads0 45 = .ok (.ireturn, 1) := by decide +kernel
theorem dX12_reads0_46 : decode cX12_reads0 46 = .ok (.aload_n 0, 1) := by decide +kernel
theorem dX12_reads0_47 : decode cX12_reads0 47 = .ok (.iload_n 1, 1) := by decide +kernel
theorem dX12_reads0_48 : decode cX12_reads0 48 = .ok (.iconst 1, 1) := by decide +kernel
theorem dX12_reads0_49 : decode cX12_reads0 49 = .ok (.invokevirtual 151, 3) := by decide +kernel
theorem dX12_reads0_52 : decode cX12_reads0 52 = .ok (.iconst 4, 1) := by decide +kernel
theorem dX12_reads0_53 : decode cX12_reads0 53 = .ok (.if_icmp .le 7, 3) := by decide +kernel
theorem dX12_reads0_56 : decode cX12_reads0 56 = .ok (.iconst 1, 1) := by decide +kernel
theorem dX12_reads0_57 : decode cX12_reads0 57 = .ok (.goto 4, 3) := by decide +kernel
theorem dX12_reads0_60 : decode cX12_reads0 60 = .ok (.iconst 2, 1) := by decide +kernel
theorem dX12_reads0_61 : decode cX12_reads0 61 = .ok (.ireturn, 1) := by decide +kernel
theorem dX12_reads0_62 : decode cX12_reads0 62 = .ok (.iconst 5, 1) := by decide +kernel
theorem dX12_reads0_63 : decode cX12_reads0 63 = .ok (.ireturn, 1) := by decide +kernel
theorem dX12_reads0_64 : decode cX12_reads0 64 = .ok (.bipush 9, 2) := by decide +kernel
theorem dX12_reads0_66 : decode cX12_reads0 66 = .ok (.ireturn, 1) := by decide +kernel
theorem dX12_reads0_67 : decode cX12_reads0 67 = .ok (.iconst 3, 1) := by decide +kernel
theorem dX12_reads0_68 : decode cX12_reads0 68 = .ok (.ireturn, 1) := by decide +kernel
set_option maxRecDepth 20000 in
theorem ggX12_wears_X12_on : GoodIn wsX12_wears wsX12_on := goodIn_r _ [5, 6, 7, 8, 4, 9, 10, 14, 15, 16, 17, 18, 19, 20, 21, 22, 23, 24, 25, 26, 27, 28, 29, 30, 31, 32, 33, 34, 35, 36] (by decide +kernel) (by decide +kernel)
set_option maxRecDepth 20000 in
theorem gX12_wears_X12_on : GoodIn wsX12_wears (wsV RX12 154 RX12 yX12_on wsX12_on) := goodIn_app (goodIn_of _ (by decide +kernel)) ggX12_wears_X12_on
set_option maxRecDepth 20000 in
theorem ggX12_wears_X12_ones : GoodIn wsX12_wears wsX12_ones := goodIn_r _ [13] (by decide +kernel) (by decide +kernel)
set_option maxRecDepth 20000 in
theorem gX12_wears_X12_ones : GoodIn wsX12_wears (va_wsS RX12 157 yX12_ones wsX12_ones) := goodIn_app (goodIn_of _ (by decide +kernel)) ggX12_wears_X12_ones
set_option maxRecDepth 20000 in
theorem ggX12_wears_X12_of : GoodIn wsX12_wears wsX12_of := goodIn_r _ [9, 10, 14, 15, 16, 17, 18, 19, 20, 21, 22, 23, 24, 25, 26, 27, 28, 29, 30, 31, 32, 33, 34, 35, 36] (by decide +kernel) (by decide +kernel)
set_option maxRecDepth 20000 in
theorem gX12_wears_X12_of : GoodIn wsX12_wears (wsV RX12 151 RX12 yX12_of wsX12_of) := goodIn_app (goodIn_of _ (by decide +kernel)) ggX12_wears_X12_of
theorem dX12_wears_0 : decode cX12_wears 0 = .ok (.aload_n 0, 1) := by decide +kernel
theorem dX12_wears_1 : decode cX12_wears 1 = .ok (.iload_n 1, 1) := by decide +kernel
theorem dX12_wears_2 : decode cX12_wears 2 = .ok (.invokevirtual 154, 3) := by decide +kernel
theorem dX12_wears_5 : decode cX12_wears 5 = .ok (.invokestatic 157, 3) := by decide +kernel
theorem dX12_wears_8 : decode cX12_wears 8 = .ok (.istore_n 2, 1) := by decide +kernel
theorem dX12_wears_9 : decode cX12_wears 9 = .ok (.aload_n 0, 1) := by decide +kernel
theorem dX12_wears_10 : decode cX12_wears 10 = .ok (.iload_n 1, 1) := by decide +kernel
theorem dX12_wears_11 : decode cX12_wears 11 = .ok (.iconst 0, 1) := by decide +kernel
theorem dX12_wears_12 : decode cX12_wears 12 = .ok (.invokevirtual 151, 3) := by decide +kernel
theorem dX12_wears_15 : decode cX12_wears 15 = .ok (.tableswitch 55 1 6 #[37, 55, 39, 37, 41, 51], 37) := by decide +kernel
theorem dX12_wears_52 : decode cX12_wears 52 = .ok (.iconst 2, 1) := by decide +kernel
theorem dX12_wears_53 : decode cX12_wears 53 = .ok (.ireturn, 1) := by decide +kernel
theorem dX12_wears_54 : decode cX12_wears 54 = .ok (.iconst 3, 1) := by decide +kernel
theorem dX12_wears_55 : decode cX12_wears 55 = .ok (.ireturn, 1) := by decide +kernel
theorem dX12_wears_56 : decode cX12_wears 56 = .ok (.iload_n 2, 1) := by decide +kernel
theorem dX12_wears_57 : decode cX12_wears 57 = .ok (.ifCond .ne 7, 3) := by decide +kernel
theorem dX12_wears_60 : decode cX12_wears 60 = .ok (.iconst 0, 1) := by decide +kernel
theorem dX12_wears_61 : decode cX12_wears 61 = .ok (.goto 4, 3) := by decide +kernel
theorem dX12_wears_64 : decode cX12_wears 64 = .ok (.iconst 1, 1) := by decide +kernel
theorem dX12_wears_65 : decode cX12_wears 65 = .ok (.ireturn, 1) := by decide +kernel
theorem dX12_wears_66 : decode cX12_wears 66 = .ok (.iconst 3, 1) := by decide +kernel
theorem dX12_wears_67 : decode cX12_wears 67 = .ok (.iload_n 2, 1) := by decide +kernel
theorem dX12_wears_68 : decode cX12_wears 68 = .ok (.iadd, 1) := by decide +kernel
theorem dX12_wears_69 : decode cX12_wears 69 = .ok (.ireturn, 1) := by decide +kernel
theorem dX12_wears_70 : decode cX12_wears 70 = .ok (.iconst 1, 1) := by decide +kernel
theorem dX12_wears_71 : decode cX12_wears 71 = .ok (.ireturn, 1) := by decide +kernel
set_option maxRecDepth 20000 in
theorem ggX12_rubs_X12_wears : GoodIn wsX12_rubs wsX12_wears := goodIn_r _ [5, 6, 7, 8, 4, 9, 10, 11, 12, 13, 14, 15, 16, 17, 34, 35, 36, 37, 38, 39, 40, 41, 42, 43, 44, 45, 46, 47, 48, 49, 50, 51, 52, 53, 54, 55, 56] (by decide +kernel) (by decide +kernel)
set_option maxRecDepth 20000 in
theorem gX12_rubs_X12_wears : GoodIn wsX12_rubs (wsV RX12 160 RX12 yX12_wears wsX12_wears) := goodIn_app (goodIn_of _ (by decide +kernel)) ggX12_rubs_X12_wears
set_option maxRecDepth 20000 in
theorem ggX12_rubs_X12_of : GoodIn wsX12_rubs wsX12_of := goodIn_r _ [13, 14, 34, 35, 36, 37, 38, 39, 40, 41, 42, 43, 44, 45, 46, 47, 48, 49, 50, 51, 52, 53, 54, 55, 56] (by decide +kernel) (by decide +kernel)
set_option maxRecDepth 20000 in
theorem gX12_rubs_X12_of : GoodIn wsX12_rubs (wsV RX12 151 RX12 yX12_of wsX12_of) := goodIn_app (goodIn_of _ (by decide +kernel)) ggX12_rubs_X12_of
set_option maxRecDepth 20000 in
theorem ggX12_rubs_X12_on : GoodIn wsX12_rubs wsX12_on := goodIn_r _ [9, 10, 11, 12, 4, 13, 14, 34, 35, 36, 37, 38, 39, 40, 41, 42, 43, 44, 45, 46, 47, 48, 49, 50, 51, 52, 53, 54, 55, 56] (by decide +kernel) (by decide +kernel)
set_option maxRecDepth 20000 in
theorem gX12_rubs_X12_on : GoodIn wsX12_rubs (wsV RX12 154 RX12 yX12_on wsX12_on) := goodIn_app (goodIn_of _ (by decide +kernel)) ggX12_rubs_X12_on
set_option maxRecDepth 20000 in
theorem ggX12_rubs_X12_ones : GoodIn wsX12_rubs wsX12_ones := goodIn_r _ [17] (by decide +kernel) (by decide +kernel)
set_option maxRecDepth 20000 in
theorem gX12_rubs_X12_ones : GoodIn wsX12_rubs (va_wsS RX12 157 yX12_ones wsX12_ones) := goodIn_app (goodIn_of _ (by decide +kernel)) ggX12_rubs_X12_ones
set_option maxRecDepth 20000 in
theorem ggX12_rubs_X12_textGives : GoodIn wsX12_rubs wsX12_textGives := goodIn_r _ [21, 14, 22, 23, 24, 25, 4, 26, 27, 28, 29, 30, 31, 32, 33, 34, 35, 36, 37, 38, 39, 40, 41, 42, 43, 44, 45, 46, 47, 48, 49, 50, 51, 52, 53, 54, 55, 56] (by decide +kernel) (by decide +kernel)
set_option maxRecDepth 20000 in
theorem gX12_rubs_X12_textGives : GoodIn wsX12_rubs (wsV RX12 147 RX12 yX12_textGives wsX12_textGives) := goodIn_app (goodIn_of _ (by decide +kernel)) ggX12_rubs_X12_textGives
theorem dX12_rubs_0 : decode cX12_rubs 0 = .ok (.aload_n 0, 1) := by decide +kernel
theorem dX12_rubs_1 : decode cX12_rubs 1 = .ok (.iconst 1, 1) := by decide +kernel
theorem dX12_rubs_2 : decode cX12_rubs 2 = .ok (.aload_n 0, 1) := by decide +kernel
theorem dX12_rubs_3 : decode cX12_rubs 3 = .ok (.iload_n 1, 1) := by decide +kernel
theorem dX12_rubs_4 : decode cX12_rubs 4 = .ok (.invokevirtual 160, 3) := by decide +kernel
theorem dX12_rubs_7 : decode cX12_rubs 7 = .ok (.aload_n 0, 1) := by decide +kernel
theorem dX12_rubs_8 : decode cX12_rubs 8 = .ok (.iload_n 1, 1) := by decide +kernel
theorem dX12_rubs_9 : decode cX12_rubs 9 = .ok (.iconst 2, 1) := by decide +kernel
theorem dX12_rubs_10 : decode cX12_rubs 10 = .ok (.invokevirtual 151, 3) := by decide +kernel
theorem dX12_rubs_13 : decode cX12_rubs 13 = .ok (.aload_n 0, 1) := by decide +kernel
theorem dX12_rubs_14 : decode cX12_rubs 14 = .ok (.iload_n 1, 1) := by decide +kernel
theorem dX12_rubs_15 : decode cX12_rubs 15 = .ok (.invokevirtual 154, 3) := by decide +kernel
theorem dX12_rubs_18 : decode cX12_rubs 18 = .ok (.invokestatic 157, 3) := by decide +kernel
theorem dX12_rubs_21 : decode cX12_rubs 21 = .ok (.invokevirtual 147, 3) := by decide +kernel
theorem dX12_rubs_24 : decode cX12_rubs 24 = .ok (.ireturn, 1) := by decide +kernel
set_option maxRecDepth 20000 in
theorem ggX12_swallows_X12_stays : GoodIn wsX12_swallows wsX12_stays := goodIn_r _ [6, 1, 7, 8, 9, 5, 10, 31, 32, 33, 34, 35, 36, 37, 38, 39, 40, 41, 42, 43, 44, 45, 46, 47, 48, 49, 50, 51, 52, 53] (by decide +kernel) (by decide +kernel)
set_option maxRecDepth 20000 in
theorem gX12_swallows_X12_stays : GoodIn wsX12_swallows (wsV RX12 163 RX12 yX12_stays wsX12_stays) := goodIn_app (goodIn_of _ (by decide +kernel)) ggX12_swallows_X12_stays
set_option maxRecDepth 20000 in
theorem ggX12_swallows_X12_of : GoodIn wsX12_swallows wsX12_of := goodIn_r _ [10, 1, 31, 32, 33, 34, 35, 36, 37, 38, 39, 40, 41, 42, 43, 44, 45, 46, 47, 48, 49, 50, 51, 52, 53] (by decide +kernel) (by decide +kernel)
set_option maxRecDepth 20000 in
theorem gX12_swallows_X12_of : GoodIn wsX12_swallows (wsV RX12 151 RX12 yX12_of wsX12_of) := goodIn_app (goodIn_of _ (by decide +kernel)) ggX12_swallows_X12_of
set_option maxRecDepth 20000 in
theorem ggX12_swallows_X12_textGives : GoodIn wsX12_swallows wsX12_textGives := goodIn_r _ [14, 1, 15, 16, 17, 18, 5, 19, 20, 21, 22, 23, 24, 25, 26, 31, 32, 33, 34, 35, 36, 37, 38, 39, 40, 41, 42, 43, 44, 45, 46, 47, 48, 49, 50, 51, 52, 53] (by decide +kernel) (by decide +kernel)
set_option maxRecDepth 20000 in
theorem gX12_swallows_X12_textGives : GoodIn wsX12_swallows (wsV RX12 147 RX12 yX12_textGives wsX12_textGives) := goodIn_app (goodIn_of _ (by decide +kernel)) ggX12_swallows_X12_textGives
set_option maxRecDepth 20000 in
theorem ggX12_swallows_X12_sets : GoodIn wsX12_swallows wsX12_sets := goodIn_r _ [30, 1, 31, 32, 33, 34, 35, 36, 37, 38, 39, 40, 41, 42, 43, 44, 45, 46, 47, 48, 49, 50, 51, 52, 53] (by decide +kernel) (by decide +kernel)
set_option maxRecDepth 20000 in
theorem gX12_swallows_X12_sets : GoodIn wsX12_swallows (wsV RX12 166 RX12 yX12_sets wsX12_sets) := goodIn_app (goodIn_of _ (by decide +kernel)) ggX12_swallows_X12_sets
theorem dX12_swallows_0 : decode cX12_swallows 0 = .ok (.aload_n 0, 1) := by decide +kernel
theorem dX12_swallows_1 : decode cX12_swallows 1 = .ok (.iconst 0, 1) := by decide +kernel
theorem dX12_swallows_2 : decode cX12_swallows 2 = .ok (.aload_n 0, 1) := by decide +kernel
theorem dX12_swallows_3 : decode cX12_swallows 3 = .ok (.iload_n 1, 1) := by decide +kernel
theorem dX12_swallows_4 : decode cX12_swallows 4 = .ok (.iload_n 2, 1) := by decide +kernel
theorem dX12_swallows_5 : decode cX12_swallows 5 = .ok (.invokevirtual 163, 3) := by decide +kernel
theorem dX12_swallows_8 : decode cX12_swallows 8 = .ok (.aload_n 0, 1) := by decide +kernel
theorem dX12_swallows_9 : decode cX12_swallows 9 = .ok (.getfield 7, 3) := by decide +kernel
theorem dX12_swallows_12 : decode cX12_swallows 12 = .ok (.bipush 6, 2) := by decide +kernel
theorem dX12_swallows_14 : decode cX12_swallows 14 = .ok (.iload_n 2, 1) := by decide +kernel
theorem dX12_swallows_15 : decode cX12_swallows 15 = .ok (.iadd, 1) := by decide +kernel
theorem dX12_swallows_16 : decode cX12_swallows 16 = .ok (.iaload, 1) := by decide +kernel
theorem dX12_swallows_17 : decode cX12_swallows 17 = .ok (.aload_n 0, 1) := by decide +kernel
theorem dX12_swallows_18 : decode cX12_swallows 18 = .ok (.iload_n 1, 1) := by decide +kernel
theorem dX12_swallows_19 : decode cX12_swallows 19 = .ok (.iconst 2, 1) := by decide +kernel
theorem dX12_swallows_20 : decode cX12_swallows 20 = .ok (.invokevirtual 151, 3) := by decide +kernel
theorem dX12_swallows_23 : decode cX12_swallows 23 = .ok (.invokevirtual 147, 3) := by decide +kernel
theorem dX12_swallows_26 : decode cX12_swallows 26 = .ok (.istore_n 3, 1) := by decide +kernel
theorem dX12_swallows_27 : decode cX12_swallows 27 = .ok (.aload_n 0, 1) := by decide +kernel
theorem dX12_swallows_28 : decode cX12_swallows 28 = .ok (.iload_n 1, 1) := by decide +kernel
theorem dX12_swallows_29 : decode cX12_swallows 29 = .ok (.iconst 3, 1) := by decide +kernel
theorem dX12_swallows_30 : decode cX12_swallows 30 = .ok (.iload_n 2, 1) := by decide +kernel
theorem dX12_swallows_31 : decode cX12_swallows 31 = .ok (.iadd, 1) := by decide +kernel
theorem dX12_swallows_32 : decode cX12_swallows 32 = .ok (.iload_n 3, 1) := by decide +kernel
theorem dX12_swallows_33 : decode cX12_swallows 33 = .ok (.aload_n 0, 1) := by decide +kernel
theorem dX12_swallows_34 : decode cX12_swallows 34 = .ok (.iload_n 1, 1) := by decide +kernel
theorem dX12_swallows_35 : decode cX12_swallows 35 = .ok (.iconst 3, 1) := by decide +kernel
theorem dX12_swallows_36 : decode cX12_swallows 36 = .ok (.iload_n 2, 1) := by decide +kernel
theorem dX12_swallows_37 : decode cX12_swallows 37 = .ok (.iadd, 1) := by decide +kernel
theorem dX12_swallows_38 : decode cX12_swallows 38 = .ok (.invokevirtual 151, 3) := by decide +kernel
theorem dX12_swallows_41 : decode cX12_swallows 41 = .ok (.if_icmp .le 7, 3) := by decide +kernel
theorem dX12_swallows_44 : decode cX12_swallows 44 = .ok (.iload_n 3, 1) := by decide +kernel
theorem dX12_swallows_45 : decode cX12_swallows 45 = .ok (.goto 11, 3) := by decide +kernel
theorem dX12_swallows_48 : decode cX12_swallows 48 = .ok (.aload_n 0, 1) := by decide +kernel
theorem dX12_swallows_49 : decode cX12_swallows 49 = .ok (.iload_n 1, 1) := by decide +kernel
theorem dX12_swallows_50 : decode cX12_swallows 50 = .ok (.iconst 3, 1) := by decide +kernel
theorem dX12_swallows_51 : decode cX12_swallows 51 = .ok (.iload_n 2, 1) := by decide +kernel
theorem dX12_swallows_52 : decode cX12_swallows 52 = .ok (.iadd, 1) := by decide +kernel
theorem dX12_swallows_53 : decode cX12_swallows 53 = .ok (.invokevirtual 151, 3) := by decide +kernel
theorem dX12_swallows_56 : decode cX12_swallows 56 = .ok (.invokevirtual 166, 3) := by decide +kernel
theorem dX12_swallows_59 : decode cX12_swallows 59 = .ok (.return_, 1) := by decide +kernel
set_option maxRecDepth 20000 in
theorem ggX12_washes_X12_on : GoodIn wsX12_washes wsX12_on := goodIn_r _ [6, 7, 8, 9, 5, 10, 1, 50, 51, 52, 53, 54, 55, 56, 57, 58, 59, 60, 61, 62, 63, 64, 65, 66, 67, 68, 69, 70, 71, 72] (by decide +kernel) (by decide +kernel)
set_option maxRecDepth 20000 in
theorem gX12_washes_X12_on : GoodIn wsX12_washes (wsV RX12 154 RX12 yX12_on wsX12_on) := goodIn_app (goodIn_of _ (by decide +kernel)) ggX12_washes_X12_on
set_option maxRecDepth 20000 in
theorem ggX12_washes_X12_rubs : GoodIn wsX12_washes wsX12_rubs := goodIn_r _ [14, 15, 16, 17, 5, 18, 2, 3, 4, 6, 7, 8, 9, 10, 1, 19, 20, 21, 22, 23, 24, 25, 26, 27, 28, 29, 30, 31, 32, 33, 34, 35, 36, 37, 50, 51, 52, 53, 54, 55, 56, 57, 58, 59, 60, 61, 62, 63, 64, 65, 66, 67, 68, 69, 70, 71, 72] (by decide +kernel) (by decide +kernel)
set_option maxRecDepth 20000 in
theorem gX12_washes_X12_rubs : GoodIn wsX12_washes (wsV RX12 169 RX12 yX12_rubs wsX12_rubs) := goodIn_app (goodIn_of _ (by decide +kernel)) ggX12_washes_X12_rubs
set_option maxRecDepth 20000 in
theorem ggX12_washes_X12_of : GoodIn wsX12_washes wsX12_of := goodIn_r _ [10, 1, 50, 51, 52, 53, 54, 55, 56, 57, 58, 59, 60, 61, 62, 63, 64, 65, 66, 67, 68, 69, 70, 71, 72] (by decide +kernel) (by decide +kernel)
set_option maxRecDepth 20000 in
theorem gX12_washes_X12_of : GoodIn wsX12_washes (wsV RX12 151 RX12 yX12_of wsX12_of) := goodIn_app (goodIn_of _ (by decide +kernel)) ggX12_washes_X12_of
set_option maxRecDepth 20000 in
theorem ggX12_washes_X12_reads0 : GoodIn wsX12_washes wsX12_reads0 := goodIn_r _ [41, 7, 8, 9, 5, 10, 1, 50, 51, 52, 53, 54, 55, 56, 57, 58, 59, 60, 61, 62, 63, 64, 65, 66, 67, 68, 69, 70, 71, 72] (by decide +kernel) (by decide +kernel)
set_option maxRecDepth 20000 in
theorem gX12_washes_X12_reads0 : GoodIn wsX12_washes (wsV RX12 172 RX12 yX12_reads0 wsX12_reads0) := goodIn_app (goodIn_of _ (by decide +kernel)) ggX12_washes_X12_reads0
set_option maxRecDepth 20000 in
theorem ggX12_washes_X12_held : GoodIn wsX12_washes wsX12_held := goodIn_r _ [37] (by decide +kernel) (by decide +kernel)
set_option maxRecDepth 20000 in
theorem gX12_washes_X12_held : GoodIn wsX12_washes (va_wsS RX12 144 yX12_held wsX12_held) := goodIn_app (goodIn_of _ (by decide +kernel)) ggX12_washes_X12_held
set_option maxRecDepth 20000 in
theorem ggX12_washes_X12_sets : GoodIn wsX12_washes wsX12_sets := goodIn_r _ [45, 1, 50, 51, 52, 53, 54, 55, 56, 57, 58, 59, 60, 61, 62, 63, 64, 65, 66, 67, 68, 69, 70, 71, 72] (by decide +kernel) (by decide +kernel)
set_option maxRecDepth 20000 in
theorem gX12_washes_X12_sets : GoodIn wsX12_washes (wsV RX12 166 RX12 yX12_sets wsX12_sets) := goodIn_app (goodIn_of _ (by decide +kernel)) ggX12_washes_X12_sets
set_option maxRecDepth 20000 in
theorem ggX12_washes_X12_isThrough : GoodIn wsX12_washes wsX12_isThrough := goodIn_r _ [49, 7, 8, 9, 5, 10, 1, 50, 51, 52, 53, 54, 55, 56, 57, 58, 59, 60, 61, 62, 63, 64, 65, 66, 67, 68, 69, 70, 71, 72] (by decide +kernel) (by decide +kernel)
set_option maxRecDepth 20000 in
theorem gX12_washes_X12_isThrough : GoodIn wsX12_washes (wsV RX12 175 RX12 yX12_isThrough wsX12_isThrough) := goodIn_app (goodIn_of _ (by decide +kernel)) ggX12_washes_X12_isThrough
theorem dX12_washes_0 : decode cX12_washes 0 = .ok (.aload_n 0, 1) := by decide +kernel
theorem dX12_washes_1 : decode cX12_washes 1 = .ok (.iload_n 1, 1) := by decide +kernel
theorem dX12_washes_2 : decode cX12_washes 2 = .ok (.invokevirtual 154, 3) := by decide +kernel
theorem dX12_washes_5 : decode cX12_washes 5 = .ok (.istore_n 2, 1) := by decide +kernel
theorem dX12_washes_6 : decode cX12_washes 6 = .ok (.aload_n 0, 1) := by decide +kernel
theorem dX12_washes_7 : decode cX12_washes 7 = .ok (.iload_n 1, 1) := by decide +kernel
theorem dX12_washes_8 : decode cX12_washes 8 = .ok (.invokevirtual 169, 3) := by decide +kernel
theorem dX12_washes_11 : decode cX12_washes 11 = .ok (.istore_n 3, 1) := by decide +kernel
theorem dX12_washes_12 : decode cX12_washes 12 = .ok (.iconst 0, 1) := by decide +kernel
theorem dX12_washes_13 : decode cX12_washes 13 = .ok (.istore 4, 2) := by decide +kernel
theorem dX12_washes_15 : decode cX12_washes 15 = .ok (.iload 4, 2) := by decide +kernel
theorem dX12_washes_17 : decode cX12_washes 17 = .ok (.bipush 12, 2) := by decide +kernel
theorem dX12_washes_19 : decode cX12_washes 19 = .ok (.if_icmp .ge 52, 3) := by decide +kernel
theorem dX12_washes_22 : decode cX12_washes 22 = .ok (.aload_n 0, 1) := by decide +kernel
theorem dX12_washes_23 : decode cX12_washes 23 = .ok (.iload_n 1, 1) := by decide +kernel
theorem dX12_washes_24 : decode cX12_washes 24 = .ok (.iconst 3, 1) := by decide +kernel
theorem dX12_washes_25 : decode cX12_washes 25 = .ok (.iload 4, 2) := by decide +kernel
theorem dX12_washes_27 : decode cX12_washes 27 = .ok (.iadd, 1) := by decide +kernel
theorem dX12_washes_28 : decode cX12_washes 28 = .ok (.invokevirtual 151, 3) := by decide +kernel
theorem dX12_washes_31 : decode cX12_washes 31 = .ok (.istore 5, 2) := by decide +kernel
theorem dX12_washes_33 : decode cX12_washes 33 = .ok (.aload_n 0, 1) := by decide +kernel
theorem dX12_washes_34 : decode cX12_washes 34 = .ok (.getfield 7, 3) := by decide +kernel
theorem dX12_washes_37 : decode cX12_washes 37 = .ok (.iconst 2, 1) := by decide +kernel
theorem dX12_washes_38 : decode cX12_washes 38 = .ok (.dup2, 1) := by decide +kernel
theorem dX12_washes_39 : decode cX12_washes 39 = .ok (.iaload, 1) := by decide +kernel
theorem dX12_washes_40 : decode cX12_washes 40 = .ok (.iload 5, 2) := by decide +kernel
theorem dX12_washes_42 : decode cX12_washes 42 = .ok (.ifCond .le 20, 3) := by decide +kernel
theorem dX12_washes_45 : decode cX12_washes 45 = .ok (.iload 5, 2) := by decide +kernel
theorem dX12_washes_47 : decode cX12_washes 47 = .ok (.aload_n 0, 1) := by decide +kernel
theorem dX12_washes_48 : decode cX12_washes 48 = .ok (.iload_n 1, 1) := by decide +kernel
theorem dX12_washes_49 : decode cX12_washes 49 = .ok (.invokevirtual 172, 3) := by decide +kernel
theorem dX12_washes_52 : decode cX12_washes 52 = .ok (.if_icmp .lt 10, 3) := by decide +kernel
theorem dX12_washes_55 : decode cX12_washes 55 = .ok (.iconst 1, 1) := by decide +kernel
theorem dX12_washes_56 : decode cX12_washes 56 = .ok (.iload 4, 2) := by decide +kernel
theorem dX12_washes_58 : decode cX12_washes 58 = .ok (.ishl, 1) := by decide +kernel
theorem dX12_washes_59 : decode cX12_washes 59 = .ok (.goto 4, 3) := by decide +kernel
theorem dX12_washes_62 : decode cX12_washes 62 = .ok (.iconst 0, 1) := by decide +kernel
theorem dX12_washes_63 : decode cX12_washes 63 = .ok (.ior, 1) := by decide +kernel
theorem dX12_washes_64 : decode cX12_washes 64 = .ok (.iastore, 1) := by decide +kernel
theorem dX12_washes_65 : decode cX12_washes 65 = .ok (.iinc 4 1, 3) := by decide +kernel
theorem dX12_washes_68 : decode cX12_washes 68 = .ok (.goto (-53), 3) := by decide +kernel
theorem dX12_washes_71 : decode cX12_washes 71 = .ok (.aload_n 0, 1) := by decide +kernel
theorem dX12_washes_72 : decode cX12_washes 72 = .ok (.iload_n 1, 1) := by decide +kernel
theorem dX12_washes_73 : decode cX12_washes 73 = .ok (.iconst 2, 1) := by decide +kernel
theorem dX12_washes_74 : decode cX12_washes 74 = .ok (.aload_n 0, 1) := by decide +kernel
theorem dX12_washes_75 : decode cX12_washes 75 = .ok (.iload_n 1, 1) := by decide +kernel
theorem dX12_washes_76 : decode cX12_washes 76 = .ok (.iconst 2, 1) := by decide +kernel
theorem dX12_washes_77 : decode cX12_washes 77 = .ok (.invokevirtual 151, 3) := by decide +kernel
theorem dX12_washes_80 : decode cX12_washes 80 = .ok (.iload_n 3, 1) := by decide +kernel
theorem dX12_washes_81 : decode cX12_washes 81 = .ok (.isub, 1) := by decide +kernel
theorem dX12_washes_82 : decode cX12_washes 82 = .ok (.iconst 0, 1) := by decide +kernel
theorem dX12_washes_83 : decode cX12_washes 83 = .ok (.bipush 99, 2) := by decide +kernel
theorem dX12_washes_85 : decode cX12_washes 85 = .ok (.invokestatic 144, 3) := by decide +kernel
theorem dX12_washes_88 : decode cX12_washes 88 = .ok (.invokevirtual 166, 3) := by decide +kernel
theorem dX12_washes_91 : decode cX12_washes 91 = .ok (.aload_n 0, 1) := by decide +kernel
theorem dX12_washes_92 : decode cX12_washes 92 = .ok (.iload_n 1, 1) := by decide +kernel
theorem dX12_washes_93 : decode cX12_washes 93 = .ok (.invokevirtual 175, 3) := by decide +kernel
theorem dX12_washes_96 : decode cX12_washes 96 = .ok (.istore 4, 2) := by decide +kernel
theorem dX12_washes_98 : decode cX12_washes 98 = .ok (.aload_n 0, 1) := by decide +kernel
theorem dX12_washes_99 : decode cX12_washes 99 = .ok (.getfield 7, 3) := by decide +kernel
theorem dX12_washes_102 : decode cX12_washes 102 = .ok (.iconst 2, 1) := by decide +kernel
theorem dX12_washes_103 : decode cX12_washes 103 = .ok (.dup2, 1) := by decide +kernel
theorem dX12_washes_104 : decode cX12_washes 104 = .ok (.iaload, 1) := by decide +kernel
theorem dX12_washes_105 : decode cX12_washes 105 = .ok (.iload 4, 2) := by decide +kernel
theorem dX12_washes_107 : decode cX12_washes 107 = .ok (.ifCond .eq 7, 3) := by decide +kernel
theorem dX12_washes_110 : decode cX12_washes 110 = .ok (.iload_n 2, 1) := by decide +kernel
theorem dX12_washes_111 : decode cX12_washes 111 = .ok (.goto 4, 3) := by decide +kernel
theorem dX12_washes_114 : decode cX12_washes 114 = .ok (.iconst 0, 1) := by decide +kernel
theorem dX12_washes_115 : decode cX12_washes 115 = .ok (.ior, 1) := by decide +kernel
theorem dX12_washes_116 : decode cX12_washes 116 = .ok (.iastore, 1) := by decide +kernel
theorem dX12_washes_117 : decode cX12_washes 117 = .ok (.iconst 0, 1) := by decide +kernel
theorem dX12_washes_118 : decode cX12_washes 118 = .ok (.istore 5, 2) := by decide +kernel
theorem dX12_washes_120 : decode cX12_washes 120 = .ok (.iload 5, 2) := by decide +kernel
theorem dX12_washes_122 : decode cX12_washes 122 = .ok (.bipush 12, 2) := by decide +kernel
theorem dX12_washes_124 : decode cX12_washes 124 = .ok (.if_icmp .ge 38, 3) := by decide +kernel
theorem dX12_washes_127 : decode cX12_washes 127 = .ok (.aload_n 0, 1) := by decide +kernel
theorem dX12_washes_128 : decode cX12_washes 128 = .ok (.iload_n 1, 1) := by decide +kernel
theorem dX12_washes_129 : decode cX12_washes 129 = .ok (.iconst 3, 1) := by decide +kernel
theorem dX12_washes_130 : decode cX12_washes 130 = .ok (.iload 5, 2) := by decide +kernel
theorem dX12_washes_132 : decode cX12_washes 132 = .ok (.iadd, 1) := by decide +kernel
theorem dX12_washes_133 : decode cX12_washes 133 = .ok (.iload 4, 2) := by decide +kernel
theorem dX12_washes_135 : decode cX12_washes 135 = .ok (.ifCond .eq 7, 3) := by decide +kernel
theorem dX12_washes_138 : decode cX12_washes 138 = .ok (.iconst 0, 1) := by decide +kernel
theorem dX12_washes_139 : decode cX12_washes 139 = .ok (.goto 14, 3) := by decide +kernel
theorem dX12_washes_142 : decode cX12_washes 142 = .ok (.aload_n 0, 1) := by decide +kernel
theorem dX12_washes_143 : decode cX12_washes 143 = .ok (.iload_n 1, 1) := by decide +kernel
theorem dX12_washes_144 : decode cX12_washes 144 = .ok (.iconst 3, 1) := by decide +kernel
theorem dX12_washes_145 : decode cX12_washes 145 = .ok (.iload 5, 2) := by decide +kernel
theorem dX12_washes_147 : decode cX12_washes 147 = .ok (.iadd, 1) := by decide +kernel
theorem dX12_washes_148 : decode cX12_washes 148 = .ok (.invokevirtual 151, 3) := by decide +kernel
theorem dX12_washes_151 : decode cX12_washes 151 = .ok (.iconst 2, 1) := by decide +kernel
theorem dX12_washes_152 : decode cX12_washes 152 = .ok (.idiv, 1) := by decide +kernel
theorem dX12_washes_153 : decode cX12_washes 153 = .ok (.invokevirtual 166, 3) := by decide +kernel
theorem dX12_washes_156 : decode cX12_washes 156 = .ok (.iinc 5 1, 3) := by decide +kernel
theorem dX12_washes_159 : decode cX12_washes 159 = .ok (.goto (-39), 3) := by decide +kernel
theorem dX12_washes_162 : decode cX12_washes 162 = .ok (.return_, 1) := by decide +kernel
set_option maxRecDepth 20000 in
theorem ggX12_hourGoes_X12_isSpoon : GoodIn wsX12_hourGoes wsX12_isSpoon := goodIn_r _ [6, 1, 7, 8, 5, 9, 69, 70, 71, 72, 73, 74, 75, 76, 77, 78, 79, 80, 81, 82, 83, 84, 85, 86, 87, 88, 89, 90, 91] (by decide +kernel) (by decide +kernel)
set_option maxRecDepth 20000 in
theorem gX12_hourGoes_X12_isSpoon : GoodIn wsX12_hourGoes (wsV RX12 178 RX12 yX12_isSpoon wsX12_isSpoon) := goodIn_app (goodIn_of _ (by decide +kernel)) ggX12_hourGoes_X12_isSpoon
set_option maxRecDepth 20000 in
theorem ggX12_hourGoes_X12_isThrough : GoodIn wsX12_hourGoes wsX12_isThrough := goodIn_r _ [13, 14, 15, 16, 5, 17, 1, 69, 70, 71, 72, 73, 74, 75, 76, 77, 78, 79, 80, 81, 82, 83, 84, 85, 86, 87, 88, 89, 90, 91] (by decide +kernel) (by decide +kernel)
set_option maxRecDepth 20000 in
theorem gX12_hourGoes_X12_isThrough : GoodIn wsX12_hourGoes (wsV RX12 175 RX12 yX12_isThrough wsX12_isThrough) := goodIn_app (goodIn_of _ (by decide +kernel)) ggX12_hourGoes_X12_isThrough
set_option maxRecDepth 20000 in
theorem ggX12_hourGoes_X12_swallows : GoodIn wsX12_hourGoes wsX12_swallows := goodIn_r _ [21, 1, 22, 23, 24, 5, 25, 14, 15, 16, 17, 26, 27, 28, 29, 30, 31, 32, 33, 34, 35, 36, 37, 38, 39, 40, 41, 42, 43, 44, 45, 69, 70, 71, 72, 73, 74, 75, 76, 77, 78, 79, 80, 81, 82, 83, 84, 85, 86, 87, 88, 89, 90, 91] (by decide +kernel) (by decide +kernel)
set_option maxRecDepth 20000 in
theorem gX12_hourGoes_X12_swallows : GoodIn wsX12_hourGoes (wsV RX12 181 RX12 yX12_swallows wsX12_swallows) := goodIn_app (goodIn_of _ (by decide +kernel)) ggX12_hourGoes_X12_swallows
set_option maxRecDepth 20000 in
theorem ggX12_hourGoes_X12_washes : GoodIn wsX12_hourGoes wsX12_washes := goodIn_r _ [49, 1, 50, 51, 52, 5, 53, 14, 15, 16, 17, 54, 55, 56, 57, 58, 59, 60, 61, 62, 63, 64, 26, 27, 28, 29, 30, 31, 32, 33, 34, 35, 36, 37, 38, 39, 40, 41, 65, 66, 67, 68, 42, 43, 44, 45, 10, 11, 12, 13, 69, 70, 71, 72, 73, 74, 75, 76, 77, 78, 79, 80, 81, 82, 83, 84, 85, 86, 87, 88, 89, 90, 91] (by decide +kernel) (by decide +kernel)
set_option maxRecDepth 20000 in
theorem gX12_hourGoes_X12_washes : GoodIn wsX12_hourGoes (wsV RX12 185 RX12 yX12_washes wsX12_washes) := goodIn_app (goodIn_of _ (by decide +kernel)) ggX12_hourGoes_X12_washes
set_option maxRecDepth 20000 in
theorem ggX12_hourGoes_X12_of : GoodIn wsX12_hourGoes wsX12_of := goodIn_r _ [17, 1, 69, 70, 71, 72, 73, 74, 75, 76, 77, 78, 79, 80, 81, 82, 83, 84, 85, 86, 87, 88, 89, 90, 91] (by decide +kernel) (by decide +kernel)
set_option maxRecDepth 20000 in
theorem gX12_hourGoes_X12_of : GoodIn wsX12_hourGoes (wsV RX12 151 RX12 yX12_of wsX12_of) := goodIn_app (goodIn_of _ (by decide +kernel)) ggX12_hourGoes_X12_of
set_option maxRecDepth 20000 in
theorem ggX12_hourGoes_X12_held : GoodIn wsX12_hourGoes wsX12_held := goodIn_r _ [41] (by decide +kernel) (by decide +kernel)
set_option maxRecDepth 20000 in
theorem gX12_hourGoes_X12_held : GoodIn wsX12_hourGoes (va_wsS RX12 144 yX12_held wsX12_held) := goodIn_app (goodIn_of _ (by decide +kernel)) ggX12_hourGoes_X12_held
set_option maxRecDepth 20000 in
theorem ggX12_hourGoes_X12_sets : GoodIn wsX12_hourGoes wsX12_sets := goodIn_r _ [45, 1, 69, 70, 71, 72, 73, 74, 75, 76, 77, 78, 79, 80, 81, 82, 83, 84, 85, 86, 87, 88, 89, 90, 91] (by decide +kernel) (by decide +kernel)
set_option maxRecDepth 20000 in
theorem gX12_hourGoes_X12_sets : GoodIn wsX12_hourGoes (wsV RX12 166 RX12 yX12_sets wsX12_sets) := goodIn_app (goodIn_of _ (by decide +kernel)) ggX12_hourGoes_X12_sets
theorem dX12_hourGoes_0 : decode cX12_hourGoes 0 = .ok (.aload_n 0, 1) := by decide +kernel
theorem dX12_hourGoes_1 : decode cX12_hourGoes 1 = .ok (.getfield 7, 3) := by decide +kernel
theorem dX12_hourGoes_4 : decode cX12_hourGoes 4 = .ok (.bipush 18, 2) := by decide +kernel
theorem dX12_hourGoes_6 : decode cX12_hourGoes 6 = .ok (.aload_n 0, 1) := by decide +kernel
theorem dX12_hourGoes_7 : decode cX12_hourGoes 7 = .ok (.getfield 7, 3) := by decide +kernel
theorem dX12_hourGoes_10 : decode cX12_hourGoes 10 = .ok (.iconst 1, 1) := by decide +kernel
theorem dX12_hourGoes_11 : decode cX12_hourGoes 11 = .ok (.iaload, 1) := by decide +kernel
theorem dX12_hourGoes_12 : decode cX12_hourGoes 12 = .ok (.bipush 6, 2) := by decide +kernel
theorem dX12_hourGoes_14 : decode cX12_hourGoes 14 = .ok (.irem, 1) := by decide +kernel
theorem dX12_hourGoes_15 : decode cX12_hourGoes 15 = .ok (.iadd, 1) := by decide +kernel
theorem dX12_hourGoes_16 : decode cX12_hourGoes 16 = .ok (.iaload, 1) := by decide +kernel
theorem dX12_hourGoes_17 : decode cX12_hourGoes 17 = .ok (.istore_n 1, 1) := by decide +kernel
theorem dX12_hourGoes_18 : decode cX12_hourGoes 18 = .ok (.aload_n 0, 1) := by decide +kernel
theorem dX12_hourGoes_19 : decode cX12_hourGoes 19 = .ok (.iload_n 1, 1) := by decide +kernel
theorem dX12_hourGoes_20 : decode cX12_hourGoes 20 = .ok (.invokevirtual 178, 3) := by decide +kernel
theorem dX12_hourGoes_23 : decode cX12_hourGoes 23 = .ok (.ifCond .eq 33, 3) := by decide +kernel
theorem dX12_hourGoes_26 : decode cX12_hourGoes 26 = .ok (.aload_n 0, 1) := by decide +kernel
theorem dX12_hourGoes_27 : decode cX12_hourGoes 27 = .ok (.iload_n 1, 1) := by decide +kernel
theorem dX12_hourGoes_28 : decode cX12_hourGoes 28 = .ok (.invokevirtual 175, 3) := by decide +kernel
theorem dX12_hourGoes_31 : decode cX12_hourGoes 31 = .ok (.ifCond .ne 25, 3) := by decide +kernel
theorem dX12_hourGoes_34 : decode cX12_hourGoes 34 = .ok (.aload_n 0, 1) := by decide +kernel
theorem dX12_hourGoes_35 : decode cX12_hourGoes 35 = .ok (.iload_n 1, 1) := by decide +kernel
theorem dX12_hourGoes_36 : decode cX12_hourGoes 36 = .ok (.aload_n 0, 1) := by decide +kernel
theorem dX12_hourGoes_37 : decode cX12_hourGoes 37 = .ok (.getfield 7, 3) := by decide +kernel
theorem dX12_hourGoes_40 : decode cX12_hourGoes 40 = .ok (.bipush 24, 2) := by decide +kernel
theorem dX12_hourGoes_42 : decode cX12_hourGoes 42 = .ok (.aload_n 0, 1) := by decide +kernel
theorem dX12_hourGoes_43 : decode cX12_hourGoes 43 = .ok (.getfield 7, 3) := by decide +kernel
theorem dX12_hourGoes_46 : decode cX12_hourGoes 46 = .ok (.iconst 1, 1) := by decide +kernel
theorem dX12_hourGoes_47 : decode cX12_hourGoes 47 = .ok (.iaload, 1) := by decide +kernel
theorem dX12_hourGoes_48 : decode cX12_hourGoes 48 = .ok (.bipush 6, 2) := by decide +kernel
theorem dX12_hourGoes_50 : decode cX12_hourGoes 50 = .ok (.irem, 1) := by decide +kernel
theorem dX12_hourGoes_51 : decode cX12_hourGoes 51 = .ok (.iadd, 1) := by decide +kernel
theorem dX12_hourGoes_52 : decode cX12_hourGoes 52 = .ok (.iaload, 1) := by decide +kernel
theorem dX12_hourGoes_53 : decode cX12_hourGoes 53 = .ok (.invokevirtual 181, 3) := by decide +kernel
theorem dX12_hourGoes_56 : decode cX12_hourGoes 56 = .ok (.aload_n 0, 1) := by decide +kernel
theorem dX12_hourGoes_57 : decode cX12_hourGoes 57 = .ok (.getfield 7, 3) := by decide +kernel
theorem dX12_hourGoes_60 : decode cX12_hourGoes 60 = .ok (.bipush 30, 2) := by decide +kernel
theorem dX12_hourGoes_62 : decode cX12_hourGoes 62 = .ok (.aload_n 0, 1) := by decide +kernel
theorem dX12_hourGoes_63 : decode cX12_hourGoes 63 = .ok (.getfield 7, 3) := by decide +kernel
theorem dX12_hourGoes_66 : decode cX12_hourGoes 66 = .ok (.iconst 1, 1) := by decide +kernel
theorem dX12_hourGoes_67 : decode cX12_hourGoes 67 = .ok (.iaload, 1) := by decide +kernel
theorem dX12_hourGoes_68 : decode cX12_hourGoes 68 = .ok (.iconst 4, 1) := by decide +kernel
theorem dX12_hourGoes_69 : decode cX12_hourGoes 69 = .ok (.irem, 1) := by decide +kernel
theorem dX12_hourGoes_70 : decode cX12_hourGoes 70 = .ok (.iadd, 1) := by decide +kernel
theorem dX12_hourGoes_71 : decode cX12_hourGoes 71 = .ok (.iaload, 1) := by decide +kernel
theorem dX12_hourGoes_72 : decode cX12_hourGoes 72 = .ok (.istore_n 2, 1) := by decide +kernel
theorem dX12_hourGoes_73 : decode cX12_hourGoes 73 = .ok (.aload_n 0, 1) := by decide +kernel
theorem dX12_hourGoes_74 : decode cX12_hourGoes 74 = .ok (.iload_n 2, 1) := by decide +kernel
theorem dX12_hourGoes_75 : decode cX12_hourGoes 75 = .ok (.invokevirtual 178, 3) := by decide +kernel
theorem dX12_hourGoes_78 : decode cX12_hourGoes 78 = .ok (.ifCond .eq 16, 3) := by decide +kernel
theorem dX12_hourGoes_81 : decode cX12_hourGoes 81 = .ok (.aload_n 0, 1) := by decide +kernel
theorem dX12_hourGoes_82 : decode cX12_hourGoes 82 = .ok (.iload_n 2, 1) := by decide +kernel
theorem dX12_hourGoes_83 : decode cX12_hourGoes 83 = .ok (.invokevirtual 175, 3) := by decide +kernel
theorem dX12_hourGoes_86 : decode cX12_hourGoes 86 = .ok (.ifCond .ne 8, 3) := by decide +kernel
theorem dX12_hourGoes_89 : decode cX12_hourGoes 89 = .ok (.aload_n 0, 1) := by decide +kernel
theorem dX12_hourGoes_90 : decode cX12_hourGoes 90 = .ok (.iload_n 2, 1) := by decide +kernel
theorem dX12_hourGoes_91 : decode cX12_hourGoes 91 = .ok (.invokevirtual 185, 3) := by decide +kernel
theorem dX12_hourGoes_94 : decode cX12_hourGoes 94 = .ok (.iconst 0, 1) := by decide +kernel
theorem dX12_hourGoes_95 : decode cX12_hourGoes 95 = .ok (.istore_n 3, 1) := by decide +kernel
theorem dX12_hourGoes_96 : decode cX12_hourGoes 96 = .ok (.iload_n 3, 1) := by decide +kernel
theorem dX12_hourGoes_97 : decode cX12_hourGoes 97 = .ok (.aload_n 0, 1) := by decide +kernel
theorem dX12_hourGoes_98 : decode cX12_hourGoes 98 = .ok (.getfield 7, 3) := by decide +kernel
theorem dX12_hourGoes_101 : decode cX12_hourGoes 101 = .ok (.iconst 0, 1) := by decide +kernel
theorem dX12_hourGoes_102 : decode cX12_hourGoes 102 = .ok (.iaload, 1) := by decide +kernel
theorem dX12_hourGoes_103 : decode cX12_hourGoes 103 = .ok (.if_icmp .ge 51, 3) := by decide +kernel
theorem dX12_hourGoes_106 : decode cX12_hourGoes 106 = .ok (.iconst 0, 1) := by decide +kernel
theorem dX12_hourGoes_107 : decode cX12_hourGoes 107 = .ok (.istore 4, 2) := by decide +kernel
theorem dX12_hourGoes_109 : decode cX12_hourGoes 109 = .ok (.iload 4, 2) := by decide +kernel
theorem dX12_hourGoes_111 : decode cX12_hourGoes 111 = .ok (.bipush 12, 2) := by decide +kernel
theorem dX12_hourGoes_113 : decode cX12_hourGoes 113 = .ok (.if_icmp .ge 35, 3) := by decide +kernel
theorem dX12_hourGoes_116 : decode cX12_hourGoes 116 = .ok (.aload_n 0, 1) := by decide +kernel
theorem dX12_hourGoes_117 : decode cX12_hourGoes 117 = .ok (.iload_n 3, 1) := by decide +kernel
theorem dX12_hourGoes_118 : decode cX12_hourGoes 118 = .ok (.iconst 3, 1) := by decide +kernel
theorem dX12_hourGoes_119 : decode cX12_hourGoes 119 = .ok (.iload 4, 2) := by decide +kernel
theorem dX12_hourGoes_121 : decode cX12_hourGoes 121 = .ok (.iadd, 1) := by decide +kernel
theorem dX12_hourGoes_122 : decode cX12_hourGoes 122 = .ok (.aload_n 0, 1) := by decide +kernel
theorem dX12_hourGoes_123 : decode cX12_hourGoes 123 = .ok (.iload_n 3, 1) := by decide +kernel
theorem dX12_hourGoes_124 : decode cX12_hourGoes 124 = .ok (.iconst 3, 1) := by decide +kernel
theorem dX12_hourGoes_125 : decode cX12_hourGoes 125 = .ok (.iload 4, 2) := by decide +kernel
theorem dX12_hourGoes_127 : decode cX12_hourGoes 127 = .ok (.iadd, 1) := by decide +kernel
theorem dX12_hourGoes_128 : decode cX12_hourGoes 128 = .ok (.invokevirtual 151, 3) := by decide +kernel
theorem dX12_hourGoes_131 : decode cX12_hourGoes 131 = .ok (.iconst 1, 1) := by decide +kernel
theorem dX12_hourGoes_132 : decode cX12_hourGoes 132 = .ok (.isub, 1) := by decide +kernel
theorem dX12_hourGoes_133 : decode cX12_hourGoes 133 = .ok (.iconst 0, 1) := by decide +kernel
theorem dX12_hourGoes_134 : decode cX12_hourGoes 134 = .ok (.bipush 9, 2) := by decide +kernel
theorem dX12_hourGoes_136 : decode cX12_hourGoes 136 = .ok (.invokestatic 144, 3) := by decide +kernel
theorem dX12_hourGoes_139 : decode cX12_hourGoes 139 = .ok (.invokevirtual 166, 3) := by decide +kernel
theorem dX12_hourGoes_142 : decode cX12_hourGoes 142 = .ok (.iinc 4 1, 3) := by decide +kernel
theorem dX12_hourGoes_145 : decode cX12_hourGoes 145 = .ok (.goto (-36), 3) := by decide +kernel
theorem dX12_hourGoes_148 : decode cX12_hourGoes 148 = .ok (.iinc 3 1, 3) := by decide +kernel
theorem dX12_hourGoes_151 : decode cX12_hourGoes 151 = .ok (.goto (-55), 3) := by decide +kernel
theorem dX12_hourGoes_154 : decode cX12_hourGoes 154 = .ok (.aload_n 0, 1) := by decide +kernel
theorem dX12_hourGoes_155 : decode cX12_hourGoes 155 = .ok (.getfield 7, 3) := by decide +kernel
theorem dX12_hourGoes_158 : decode cX12_hourGoes 158 = .ok (.iconst 1, 1) := by decide +kernel
theorem dX12_hourGoes_159 : decode cX12_hourGoes 159 = .ok (.dup2, 1) := by decide +kernel
theorem dX12_hourGoes_160 : decode cX12_hourGoes 160 = .ok (.iaload, 1) := by decide +kernel
theorem dX12_hourGoes_161 : decode cX12_hourGoes 161 = .ok (.iconst 1, 1) := by decide +kernel
theorem dX12_hourGoes_162 : decode cX12_hourGoes 162 = .ok (.iadd, 1) := by decide +kernel
theorem dX12_hourGoes_163 : decode cX12_hourGoes 163 = .ok (.iastore, 1) := by decide +kernel
theorem dX12_hourGoes_164 : decode cX12_hourGoes 164 = .ok (.return_, 1) := by decide +kernel
set_option maxRecDepth 20000 in
theorem ggX12_hoursGo_X12_hourGoes : GoodIn wsX12_hoursGo wsX12_hourGoes := goodIn_r _ [5, 6, 7, 8, 9, 4, 10, 11, 12, 13, 14, 15, 16, 17, 18, 19, 20, 21, 22, 23, 24, 25, 26, 27, 28, 29, 30, 31, 32, 33, 34, 35, 36, 37, 38, 39, 40, 41, 42, 43, 44, 45, 46, 47, 48, 49, 50, 51, 52, 53, 54, 55, 56, 57, 58, 59, 60, 61, 62, 63, 64, 65, 66, 67, 68, 69, 70, 71, 72, 73, 74, 75, 76, 77, 78, 79, 80, 81, 82, 83, 84, 85, 86, 87, 88, 89, 90, 91, 92, 93, 94, 95] (by decide +kernel) (by decide +kernel)
set_option maxRecDepth 20000 in
theorem gX12_hoursGo_X12_hourGoes : GoodIn wsX12_hoursGo (wsV RX12 188 RX12 yX12_hourGoes wsX12_hourGoes) := goodIn_app (goodIn_of _ (by decide +kernel)) ggX12_hoursGo_X12_hourGoes
theorem dX12_hoursGo_0 : decode cX12_hoursGo 0 = .ok (.iconst 0, 1) := by decide +kernel
theorem dX12_hoursGo_1 : decode cX12_hoursGo 1 = .ok (.istore_n 2, 1) := by decide +kernel
theorem dX12_hoursGo_2 : decode cX12_hoursGo 2 = .ok (.iload_n 2, 1) := by decide +kernel
theorem dX12_hoursGo_3 : decode cX12_hoursGo 3 = .ok (.iload_n 1, 1) := by decide +kernel
theorem dX12_hoursGo_4 : decode cX12_hoursGo 4 = .ok (.if_icmp .ge 13, 3) := by decide +kernel
theorem dX12_hoursGo_7 : decode cX12_hoursGo 7 = .ok (.aload_n 0, 1) := by decide +kernel
theorem dX12_hoursGo_8 : decode cX12_hoursGo 8 = .ok (.invokevirtual 188, 3) := by decide +kernel
theorem dX12_hoursGo_11 : decode cX12_hoursGo 11 = .ok (.iinc 2 1, 3) := by decide +kernel
theorem dX12_hoursGo_14 : decode cX12_hoursGo 14 = .ok (.goto (-12), 3) := by decide +kernel
theorem dX12_hoursGo_17 : decode cX12_hoursGo 17 = .ok (.return_, 1) := by decide +kernel
set_option maxRecDepth 20000 in
theorem ggX12_word_X12_isWord : GoodIn wsX12_word wsX12_isWord := goodIn_r _ [5, 6, 7, 8, 4, 9] (by decide +kernel) (by decide +kernel)
set_option maxRecDepth 20000 in
theorem gX12_word_X12_isWord : GoodIn wsX12_word (va_wsS RX12 191 yX12_isWord wsX12_isWord) := goodIn_app (goodIn_of _ (by decide +kernel)) ggX12_word_X12_isWord
set_option maxRecDepth 20000 in
theorem ggX12_word_X12_in : GoodIn wsX12_word wsX12_in := goodIn_r _ [9] (by decide +kernel) (by decide +kernel)
set_option maxRecDepth 20000 in
theorem gX12_word_X12_in : GoodIn wsX12_word (va_wsS RX12 50 yX12_in wsX12_in) := goodIn_app (goodIn_of _ (by decide +kernel)) ggX12_word_X12_in
set_option maxRecDepth 20000 in
theorem ggX12_word_X12_becomes : GoodIn wsX12_word wsX12_becomes := goodIn_r _ [13, 14, 21, 22, 23, 24, 25, 26, 27, 28, 29, 30, 31, 32, 33, 34, 35, 36, 37, 38, 39, 40, 41, 42, 43] (by decide +kernel) (by decide +kernel)
set_option maxRecDepth 20000 in
theorem gX12_word_X12_becomes : GoodIn wsX12_word (wsV RX12 196 RX12 yX12_becomes wsX12_becomes) := goodIn_app (goodIn_of _ (by decide +kernel)) ggX12_word_X12_becomes
set_option maxRecDepth 20000 in
theorem ggX12_word_X12_finds : GoodIn wsX12_word wsX12_finds := goodIn_r _ [18, 19, 20, 21, 22, 23, 24, 25, 26, 27, 28, 29, 30, 31, 32, 33, 34, 35, 36, 37, 38, 39, 40, 41, 42, 43] (by decide +kernel) (by decide +kernel)
set_option maxRecDepth 20000 in
theorem gX12_word_X12_finds : GoodIn wsX12_word (wsV RX12 131 RX12 yX12_finds wsX12_finds) := goodIn_app (goodIn_of _ (by decide +kernel)) ggX12_word_X12_finds
theorem dX12_word_0 : decode cX12_word 0 = .ok (.iload_n 1, 1) := by decide +kernel
theorem dX12_word_1 : decode cX12_word 1 = .ok (.invokestatic 191, 3) := by decide +kernel
theorem dX12_word_4 : decode cX12_word 4 = .ok (.ifCond .eq 27, 3) := by decide +kernel
theorem dX12_word_7 : decode cX12_word 7 = .ok (.iload_n 2, 1) := by decide +kernel
theorem dX12_word_8 : decode cX12_word 8 = .ok (.i2l, 1) := by decide +kernel
theorem dX12_word_9 : decode cX12_word 9 = .ok (.lconst 0, 1) := by decide +kernel
theorem dX12_word_10 : decode cX12_word 10 = .ok (.ldc2_w 194, 3) := by decide +kernel
theorem dX12_word_13 : decode cX12_word 13 = .ok (.invokestatic 50, 3) := by decide +kernel
theorem dX12_word_16 : decode cX12_word 16 = .ok (.ifCond .eq 15, 3) := by decide +kernel
theorem dX12_word_19 : decode cX12_word 19 = .ok (.aload_n 0, 1) := by decide +kernel
theorem dX12_word_20 : decode cX12_word 20 = .ok (.bipush 6, 2) := by decide +kernel
theorem dX12_word_22 : decode cX12_word 22 = .ok (.iload_n 1, 1) := by decide +kernel
theorem dX12_word_23 : decode cX12_word 23 = .ok (.iadd, 1) := by decide +kernel
theorem dX12_word_24 : decode cX12_word 24 = .ok (.iload_n 2, 1) := by decide +kernel
theorem dX12_word_25 : decode cX12_word 25 = .ok (.invokevirtual 196, 3) := by decide +kernel
theorem dX12_word_28 : decode cX12_word 28 = .ok (.goto 8, 3) := by decide +kernel
theorem dX12_word_31 : decode cX12_word 31 = .ok (.aload_n 0, 1) := by decide +kernel
theorem dX12_word_32 : decode cX12_word 32 = .ok (.iconst 1, 1) := by decide +kernel
theorem dX12_word_33 : decode cX12_word 33 = .ok (.invokevirtual 131, 3) := by decide +kernel
theorem dX12_word_36 : decode cX12_word 36 = .ok (.ireturn, 1) := by decide +kernel
set_option maxRecDepth 20000 in
theorem ggX12_spoonsWith_X12_of : GoodIn wsX12_spoonsWith wsX12_of := goodIn_r _ [6, 1, 7, 8, 9, 10, 11, 12, 13, 14, 15, 16, 17, 18, 19, 20, 21, 22, 23, 24, 25, 26, 27, 28, 29] (by decide +kernel) (by decide +kernel)
set_option maxRecDepth 20000 in
theorem gX12_spoonsWith_X12_of : GoodIn wsX12_spoonsWith (wsV RX12 151 RX12 yX12_of wsX12_of) := goodIn_app (goodIn_of _ (by decide +kernel)) ggX12_spoonsWith_X12_of
theorem dX12_spoonsWith_0 : decode cX12_spoonsWith 0 = .ok (.iconst 0, 1) := by decide +kernel
theorem dX12_spoonsWith_1 : decode cX12_spoonsWith 1 = .ok (.istore_n 2, 1) := by decide +kernel
theorem dX12_spoonsWith_2 : decode cX12_spoonsWith 2 = .ok (.iconst 0, 1) := by decide +kernel
theorem dX12_spoonsWith_3 : decode cX12_spoonsWith 3 = .ok (.istore_n 3, 1) := by decide +kernel
theorem dX12_spoonsWith_4 : decode cX12_spoonsWith 4 = .ok (.iload_n 3, 1) := by decide +kernel
theorem dX12_spoonsWith_5 : decode cX12_spoonsWith 5 = .ok (.aload_n 0, 1) := by decide +kernel
theorem dX12_spoonsWith_6 : decode cX12_spoonsWith 6 = .ok (.getfield 7, 3) := by decide +kernel
theorem dX12_spoonsWith_9 : decode cX12_spoonsWith 9 = .ok (.iconst 0, 1) := by decide +kernel
theorem dX12_spoonsWith_10 : decode cX12_spoonsWith 10 = .ok (.iaload, 1) := by decide +kernel
theorem dX12_spoonsWith_11 : decode cX12_spoonsWith 11 = .ok (.if_icmp .ge 30, 3) := by decide +kernel
theorem dX12_spoonsWith_14 : decode cX12_spoonsWith 14 = .ok (.iload_n 2, 1) := by decide +kernel
theorem dX12_spoonsWith_15 : decode cX12_spoonsWith 15 = .ok (.aload_n 0, 1) := by decide +kernel
theorem dX12_spoonsWith_16 : decode cX12_spoonsWith 16 = .ok (.iload_n 3, 1) := by decide +kernel
theorem dX12_spoonsWith_17 : decode cX12_spoonsWith 17 = .ok (.iconst 3, 1) := by decide +kernel
theorem dX12_spoonsWith_18 : decode cX12_spoonsWith 18 = .ok (.iload_n 1, 1) := by decide +kernel
theorem dX12_spoonsWith_19 : decode cX12_spoonsWith 19 = .ok (.iadd, 1) := by decide +kernel
theorem dX12_spoonsWith_20 : decode cX12_spoonsWith 20 = .ok (.invokevirtual 151, 3) := by decide +kernel
theorem dX12_spoonsWith_23 : decode cX12_spoonsWith 23 = .ok (.ifCond .le 9, 3) := by decide +kernel
theorem dX12_spoonsWith_26 : decode cX12_spoonsWith 26 = .ok (.iconst 1, 1) := by decide +kernel
theorem dX12_spoonsWith_27 : decode cX12_spoonsWith 27 = .ok (.iload_n 3, 1) := by decide +kernel
theorem dX12_spoonsWith_28 : decode cX12_spoonsWith 28 = .ok (.ishl, 1) := by decide +kernel
theorem dX12_spoonsWith_29 : decode cX12_spoonsWith 29 = .ok (.goto 4, 3) := by decide +kernel
theorem dX12_spoonsWith_32 : decode cX12_spoonsWith 32 = .ok (.iconst 0, 1) := by decide +kernel
theorem dX12_spoonsWith_33 : decode cX12_spoonsWith 33 = .ok (.ior, 1) := by decide +kernel
theorem dX12_spoonsWith_34 : decode cX12_spoonsWith 34 = .ok (.istore_n 2, 1) := by decide +kernel
theorem dX12_spoonsWith_35 : decode cX12_spoonsWith 35 = .ok (.iinc 3 1, 3) := by decide +kernel
theorem dX12_spoonsWith_38 : decode cX12_spoonsWith 38 = .ok (.goto (-34), 3) := by decide +kernel
theorem dX12_spoonsWith_41 : decode cX12_spoonsWith 41 = .ok (.iload_n 2, 1) := by decide +kernel
theorem dX12_spoonsWith_42 : decode cX12_spoonsWith 42 = .ok (.ireturn, 1) := by decide +kernel
set_option maxRecDepth 20000 in
theorem ggX12_ofWord_X12_isWord : GoodIn wsX12_ofWord wsX12_isWord := goodIn_r _ [6, 7, 8, 9, 5, 10] (by decide +kernel) (by decide +kernel)
set_option maxRecDepth 20000 in
theorem gX12_ofWord_X12_isWord : GoodIn wsX12_ofWord (va_wsS RX12 191 yX12_isWord wsX12_isWord) := goodIn_app (goodIn_of _ (by decide +kernel)) ggX12_ofWord_X12_isWord
set_option maxRecDepth 20000 in
theorem ggX12_ofWord_X12_in : GoodIn wsX12_ofWord wsX12_in := goodIn_r _ [10] (by decide +kernel) (by decide +kernel)
set_option maxRecDepth 20000 in
theorem gX12_ofWord_X12_in : GoodIn wsX12_ofWord (va_wsS RX12 50 yX12_in wsX12_in) := goodIn_app (goodIn_of _ (by decide +kernel)) ggX12_ofWord_X12_in
set_option maxRecDepth 20000 in
theorem ggX12_ofWord_X12_finds : GoodIn wsX12_ofWord wsX12_finds := goodIn_r _ [14, 15, 16, 25, 26, 27, 28, 29, 30, 31, 32, 33, 34, 35, 36, 37, 38, 39, 40, 41, 42, 43, 44, 45, 46, 47] (by decide +kernel) (by decide +kernel)
set_option maxRecDepth 20000 in
theorem gX12_ofWord_X12_finds : GoodIn wsX12_ofWord (wsV RX12 131 RX12 yX12_finds wsX12_finds) := goodIn_app (goodIn_of _ (by decide +kernel)) ggX12_ofWord_X12_finds
set_option maxRecDepth 20000 in
theorem ggX12_ofWord_X12_spoonsWith : GoodIn wsX12_ofWord wsX12_spoonsWith := goodIn_r _ [20, 2, 21, 22, 23, 5, 24, 25, 26, 27, 28, 29, 30, 31, 32, 33, 34, 35, 36, 37, 38, 39, 40, 41, 42, 43, 44, 45, 46, 47] (by decide +kernel) (by decide +kernel)
set_option maxRecDepth 20000 in
theorem gX12_ofWord_X12_spoonsWith : GoodIn wsX12_ofWord (wsV RX12 201 RX12 yX12_spoonsWith wsX12_spoonsWith) := goodIn_app (goodIn_of _ (by decide +kernel)) ggX12_ofWord_X12_spoonsWith
theorem dX12_ofWord_0 : decode cX12_ofWord 0 = .ok (.iload_n 1, 1) := by decide +kernel
theorem dX12_ofWord_1 : decode cX12_ofWord 1 = .ok (.invokestatic 191, 3) := by decide +kernel
theorem dX12_ofWord_4 : decode cX12_ofWord 4 = .ok (.ifCond .eq 15, 3) := by decide +kernel
theorem dX12_ofWord_7 : decode cX12_ofWord 7 = .ok (.iload_n 2, 1) := by decide +kernel
theorem dX12_ofWord_8 : decode cX12_ofWord 8 = .ok (.i2l, 1) := by decide +kernel
theorem dX12_ofWord_9 : decode cX12_ofWord 9 = .ok (.lconst 0, 1) := by decide +kernel
theorem dX12_ofWord_10 : decode cX12_ofWord 10 = .ok (.ldc2_w 199, 3) := by decide +kernel
theorem dX12_ofWord_13 : decode cX12_ofWord 13 = .ok (.invokestatic 50, 3) := by decide +kernel
theorem dX12_ofWord_16 : decode cX12_ofWord 16 = .ok (.ifCond .ne 9, 3) := by decide +kernel
theorem dX12_ofWord_19 : decode cX12_ofWord 19 = .ok (.aload_n 0, 1) := by decide +kernel
theorem dX12_ofWord_20 : decode cX12_ofWord 20 = .ok (.iconst 1, 1) := by decide +kernel
theorem dX12_ofWord_21 : decode cX12_ofWord 21 = .ok (.invokevirtual 131, 3) := by decide +kernel
theorem dX12_ofWord_24 : decode cX12_ofWord 24 = .ok (.ireturn, 1) := by decide +kernel
theorem dX12_ofWord_25 : decode cX12_ofWord 25 = .ok (.iload_n 2, 1) := by decide +kernel
theorem dX12_ofWord_26 : decode cX12_ofWord 26 = .ok (.ifCond .ne 15, 3) := by decide +kernel
theorem dX12_ofWord_29 : decode cX12_ofWord 29 = .ok (.aload_n 0, 1) := by decide +kernel
theorem dX12_ofWord_30 : decode cX12_ofWord 30 = .ok (.getfield 7, 3) := by decide +kernel
theorem dX12_ofWord_33 : decode cX12_ofWord 33 = .ok (.bipush 6, 2) := by decide +kernel
theorem dX12_ofWord_35 : decode cX12_ofWord 35 = .ok (.iload_n 1, 1) := by decide +kernel
theorem dX12_ofWord_36 : decode cX12_ofWord 36 = .ok (.iadd, 1) := by decide +kernel
theorem dX12_ofWord_37 : decode cX12_ofWord 37 = .ok (.iaload, 1) := by decide +kernel
theorem dX12_ofWord_38 : decode cX12_ofWord 38 = .ok (.goto 26, 3) := by decide +kernel
theorem dX12_ofWord_41 : decode cX12_ofWord 41 = .ok (.iload_n 2, 1) := by decide +kernel
theorem dX12_ofWord_42 : decode cX12_ofWord 42 = .ok (.iconst 1, 1) := by decide +kernel
theorem dX12_ofWord_43 : decode cX12_ofWord 43 = .ok (.if_icmp .ne 16, 3) := by decide +kernel
theorem dX12_ofWord_46 : decode cX12_ofWord 46 = .ok (.aload_n 0, 1) := by decide +kernel
theorem dX12_ofWord_47 : decode cX12_ofWord 47 = .ok (.getfield 7, 3) := by decide +kernel
theorem dX12_ofWord_50 : decode cX12_ofWord 50 = .ok (.iconst 2, 1) := by decide +kernel
theorem dX12_ofWord_51 : decode cX12_ofWord 51 = .ok (.iaload, 1) := by decide +kernel
theorem dX12_ofWord_52 : decode cX12_ofWord 52 = .ok (.iload_n 1, 1) := by decide +kernel
theorem dX12_ofWord_53 : decode cX12_ofWord 53 = .ok (.ishr, 1) := by decide +kernel
theorem dX12_ofWord_54 : decode cX12_ofWord 54 = .ok (.iconst 1, 1) := by decide +kernel
theorem dX12_ofWord_55 : decode cX12_ofWord 55 = .ok (.iand, 1) := by decide +kernel
theorem dX12_ofWord_56 : decode cX12_ofWord 56 = .ok (.goto 8, 3) := by decide +kernel
theorem dX12_ofWord_59 : decode cX12_ofWord 59 = .ok (.aload_n 0, 1) := by decide +kernel
theorem dX12_ofWord_60 : decode cX12_ofWord 60 = .ok (.iload_n 1, 1) := by decide +kernel
theorem dX12_ofWord_61 : decode cX12_ofWord 61 = .ok (.invokevirtual 201, 3) := by decide +kernel
theorem dX12_ofWord_64 : decode cX12_ofWord 64 = .ok (.ireturn, 1) := by decide +kernel
set_option maxRecDepth 20000 in
theorem ggX12_known_X12_areWords : GoodIn wsX12_known wsX12_areWords := goodIn_r _ [4, 5, 6, 7, 3, 8] (by decide +kernel) (by decide +kernel)
set_option maxRecDepth 20000 in
theorem gX12_known_X12_areWords : GoodIn wsX12_known (va_wsS RX12 204 yX12_areWords wsX12_areWords) := goodIn_app (goodIn_of _ (by decide +kernel)) ggX12_known_X12_areWords
set_option maxRecDepth 20000 in
theorem ggX12_known_X12_becomes : GoodIn wsX12_known wsX12_becomes := goodIn_r _ [12, 13, 20, 21, 22, 23, 24, 25, 26, 27, 28, 29, 30, 31, 32, 33, 34, 35, 36, 37, 38, 39, 40, 41, 42] (by decide +kernel) (by decide +kernel)
set_option maxRecDepth 20000 in
theorem gX12_known_X12_becomes : GoodIn wsX12_known (wsV RX12 196 RX12 yX12_becomes wsX12_becomes) := goodIn_app (goodIn_of _ (by decide +kernel)) ggX12_known_X12_becomes
set_option maxRecDepth 20000 in
theorem ggX12_known_X12_finds : GoodIn wsX12_known wsX12_finds := goodIn_r _ [17, 18, 19, 20, 21, 22, 23, 24, 25, 26, 27, 28, 29, 30, 31, 32, 33, 34, 35, 36, 37, 38, 39, 40, 41, 42] (by decide +kernel) (by decide +kernel)
set_option maxRecDepth 20000 in
theorem gX12_known_X12_finds : GoodIn wsX12_known (wsV RX12 131 RX12 yX12_finds wsX12_finds) := goodIn_app (goodIn_of _ (by decide +kernel)) ggX12_known_X12_finds
theorem dX12_known_0 : decode cX12_known 0 = .ok (.iload_n 1, 1) := by decide +kernel
theorem dX12_known_1 : decode cX12_known 1 = .ok (.invokestatic 204, 3) := by decide +kernel
theorem dX12_known_4 : decode cX12_known 4 = .ok (.ifCond .eq 12, 3) := by decide +kernel
theorem dX12_known_7 : decode cX12_known 7 = .ok (.aload_n 0, 1) := by decide +kernel
theorem dX12_known_8 : decode cX12_known 8 = .ok (.iconst 2, 1) := by decide +kernel
theorem dX12_known_9 : decode cX12_known 9 = .ok (.iload_n 1, 1) := by decide +kernel
theorem dX12_known_10 : decode cX12_known 10 = .ok (.invokevirtual 196, 3) := by decide +kernel
theorem dX12_known_13 : decode cX12_known 13 = .ok (.goto 8, 3) := by decide +kernel
theorem dX12_known_16 : decode cX12_known 16 = .ok (.aload_n 0, 1) := by decide +kernel
theorem dX12_known_17 : decode cX12_known 17 = .ok (.iconst 1, 1) := by decide +kernel
theorem dX12_known_18 : decode cX12_known 18 = .ok (.invokevirtual 131, 3) := by decide +kernel
theorem dX12_known_21 : decode cX12_known 21 = .ok (.ireturn, 1) := by decide +kernel
theorem dX12_swallowOf_0 : decode cX12_swallowOf 0 = .ok (.bipush 12, 2) := by decide +kernel
theorem dX12_swallowOf_2 : decode cX12_swallowOf 2 = .ok (.aload_n 0, 1) := by decide +kernel
theorem dX12_swallowOf_3 : decode cX12_swallowOf 3 = .ok (.getfield 7, 3) := by decide +kernel
theorem dX12_swallowOf_6 : decode cX12_swallowOf 6 = .ok (.bipush 18, 2) := by decide +kernel
theorem dX12_swallowOf_8 : decode cX12_swallowOf 8 = .ok (.iload_n 1, 1) := by decide +kernel
theorem dX12_swallowOf_9 : decode cX12_swallowOf 9 = .ok (.iadd, 1) := by decide +kernel
theorem dX12_swallowOf_10 : decode cX12_swallowOf 10 = .ok (.iaload, 1) := by decide +kernel
theorem dX12_swallowOf_11 : decode cX12_swallowOf 11 = .ok (.iconst 1, 1) := by decide +kernel
theorem dX12_swallowOf_12 : decode cX12_swallowOf 12 = .ok (.iadd, 1) := by decide +kernel
theorem dX12_swallowOf_13 : decode cX12_swallowOf 13 = .ok (.imul, 1) := by decide +kernel
theorem dX12_swallowOf_14 : decode cX12_swallowOf 14 = .ok (.aload_n 0, 1) := by decide +kernel
theorem dX12_swallowOf_15 : decode cX12_swallowOf 15 = .ok (.getfield 7, 3) := by decide +kernel
theorem dX12_swallowOf_18 : decode cX12_swallowOf 18 = .ok (.bipush 24, 2) := by decide +kernel
theorem dX12_swallowOf_20 : decode cX12_swallowOf 20 = .ok (.iload_n 1, 1) := by decide +kernel
theorem dX12_swallowOf_21 : decode cX12_swallowOf 21 = .ok (.iadd, 1) := by decide +kernel
theorem dX12_swallowOf_22 : decode cX12_swallowOf 22 = .ok (.iaload, 1) := by decide +kernel
theorem dX12_swallowOf_23 : decode cX12_swallowOf 23 = .ok (.iadd, 1) := by decide +kernel
theorem dX12_swallowOf_24 : decode cX12_swallowOf 24 = .ok (.ireturn, 1) := by decide +kernel
set_option maxRecDepth 20000 in
theorem ggX12_swallow_X12_in : GoodIn wsX12_swallow wsX12_in := goodIn_r _ [8] (by decide +kernel) (by decide +kernel)
set_option maxRecDepth 20000 in
theorem gX12_swallow_X12_in : GoodIn wsX12_swallow (va_wsS RX12 50 yX12_in wsX12_in) := goodIn_app (goodIn_of _ (by decide +kernel)) ggX12_swallow_X12_in
set_option maxRecDepth 20000 in
theorem ggX12_swallow_X12_isWord : GoodIn wsX12_swallow wsX12_isWord := goodIn_r _ [11, 12, 5, 6, 7, 8] (by decide +kernel) (by decide +kernel)
set_option maxRecDepth 20000 in
theorem gX12_swallow_X12_isWord : GoodIn wsX12_swallow (va_wsS RX12 191 yX12_isWord wsX12_isWord) := goodIn_app (goodIn_of _ (by decide +kernel)) ggX12_swallow_X12_isWord
set_option maxRecDepth 20000 in
theorem ggX12_swallow_X12_finds : GoodIn wsX12_swallow wsX12_finds := goodIn_r _ [16, 17, 18, 23, 24, 25, 26, 27, 28, 29, 30, 31, 32, 33, 34, 35, 36, 37, 38, 39, 40, 41, 42, 43, 44, 45] (by decide +kernel) (by decide +kernel)
set_option maxRecDepth 20000 in
theorem gX12_swallow_X12_finds : GoodIn wsX12_swallow (wsV RX12 131 RX12 yX12_finds wsX12_finds) := goodIn_app (goodIn_of _ (by decide +kernel)) ggX12_swallow_X12_finds
set_option maxRecDepth 20000 in
theorem ggX12_swallow_X12_swallowOf : GoodIn wsX12_swallow wsX12_swallowOf := goodIn_r _ [22, 4, 23, 24, 25, 26, 27, 28, 29, 30, 31, 32, 33, 34, 35, 36, 37, 38, 39, 40, 41, 42, 43, 44, 45] (by decide +kernel) (by decide +kernel)
set_option maxRecDepth 20000 in
theorem gX12_swallow_X12_swallowOf : GoodIn wsX12_swallow (wsV RX12 213 RX12 yX12_swallowOf wsX12_swallowOf) := goodIn_app (goodIn_of _ (by decide +kernel)) ggX12_swallow_X12_swallowOf
theorem dX12_swallow_0 : decode cX12_swallow 0 = .ok (.iload_n 1, 1) := by decide +kernel
theorem dX12_swallow_1 : decode cX12_swallow 1 = .ok (.i2l, 1) := by decide +kernel
theorem dX12_swallow_2 : decode cX12_swallow 2 = .ok (.lconst 0, 1) := by decide +kernel
theorem dX12_swallow_3 : decode cX12_swallow 3 = .ok (.ldc2_w 207, 3) := by decide +kernel
theorem dX12_swallow_6 : decode cX12_swallow 6 = .ok (.invokestatic 50, 3) := by decide +kernel
theorem dX12_swallow_9 : decode cX12_swallow 9 = .ok (.ifCond .eq 24, 3) := by decide +kernel
theorem dX12_swallow_12 : decode cX12_swallow 12 = .ok (.iload_n 2, 1) := by decide +kernel
theorem dX12_swallow_13 : decode cX12_swallow 13 = .ok (.i2l, 1) := by decide +kernel
theorem dX12_swallow_14 : decode cX12_swallow 14 = .ok (.ldc2_w 209, 3) := by decide +kernel
theorem dX12_swallow_17 : decode cX12_swallow 17 = .ok (.ldc2_w 211, 3) := by decide +kernel
theorem dX12_swallow_20 : decode cX12_swallow 20 = .ok (.invokestatic 50, 3) := by decide +kernel
theorem dX12_swallow_23 : decode cX12_swallow 23 = .ok (.ifCond .eq 10, 3) := by decide +kernel
theorem dX12_swallow_26 : decode cX12_swallow 26 = .ok (.iload_n 3, 1) := by decide +kernel
theorem dX12_swallow_27 : decode cX12_swallow 27 = .ok (.invokestatic 191, 3) := by decide +kernel
theorem dX12_swallow_30 : decode cX12_swallow 30 = .ok (.ifCond .ne 9, 3) := by decide +kernel
theorem dX12_swallow_33 : decode cX12_swallow 33 = .ok (.aload_n 0, 1) := by decide +kernel
theorem dX12_swallow_34 : decode cX12_swallow 34 = .ok (.iconst 1, 1) := by decide +kernel
theorem dX12_swallow_35 : decode cX12_swallow 35 = .ok (.invokevirtual 131, 3) := by decide +kernel
theorem dX12_swallow_38 : decode cX12_swallow 38 = .ok (.ireturn, 1) := by decide +kernel
theorem dX12_swallow_39 : decode cX12_swallow 39 = .ok (.aload_n 0, 1) := by decide +kernel
theorem dX12_swallow_40 : decode cX12_swallow 40 = .ok (.iload_n 1, 1) := by decide +kernel
theorem dX12_swallow_41 : decode cX12_swallow 41 = .ok (.invokevirtual 213, 3) := by decide +kernel
theorem dX12_swallow_44 : decode cX12_swallow 44 = .ok (.istore 4, 2) := by decide +kernel
theorem dX12_swallow_46 : decode cX12_swallow 46 = .ok (.aload_n 0, 1) := by decide +kernel
theorem dX12_swallow_47 : decode cX12_swallow 47 = .ok (.getfield 7, 3) := by decide +kernel
theorem dX12_swallow_50 : decode cX12_swallow 50 = .ok (.bipush 18, 2) := by decide +kernel
theorem dX12_swallow_52 : decode cX12_swallow 52 = .ok (.iload_n 1, 1) := by decide +kernel
theorem dX12_swallow_53 : decode cX12_swallow 53 = .ok (.iadd, 1) := by decide +kernel
theorem dX12_swallow_54 : decode cX12_swallow 54 = .ok (.iload_n 2, 1) := by decide +kernel
theorem dX12_swallow_55 : decode cX12_swallow 55 = .ok (.iastore, 1) := by decide +kernel
theorem dX12_swallow_56 : decode cX12_swallow 56 = .ok (.aload_n 0, 1) := by decide +kernel
theorem dX12_swallow_57 : decode cX12_swallow 57 = .ok (.getfield 7, 3) := by decide +kernel
theorem dX12_swallow_60 : decode cX12_swallow 60 = .ok (.bipush 24, 2) := by decide +kernel
theorem dX12_swallow_62 : decode cX12_swallow 62 = .ok (.iload_n 1, 1) := by decide +kernel
theorem dX12_swallow_63 : decode cX12_swallow 63 = .ok (.iadd, 1) := by decide +kernel
theorem dX12_swallow_64 : decode cX12_swallow 64 = .ok (.iload_n 3, 1) := by decide +kernel
theorem dX12_swallow_65 : decode cX12_swallow 65 = .ok (.iastore, 1) := by decide +kernel
theorem dX12_swallow_66 : decode cX12_swallow 66 = .ok (.iload 4, 2) := by decide +kernel
theorem dX12_swallow_68 : decode cX12_swallow 68 = .ok (.ireturn, 1) := by decide +kernel
set_option maxRecDepth 20000 in
theorem ggX12_ofSwallow_X12_in : GoodIn wsX12_ofSwallow wsX12_in := goodIn_r _ [5] (by decide +kernel) (by decide +kernel)
set_option maxRecDepth 20000 in
theorem gX12_ofSwallow_X12_in : GoodIn wsX12_ofSwallow (va_wsS RX12 50 yX12_in wsX12_in) := goodIn_app (goodIn_of _ (by decide +kernel)) ggX12_ofSwallow_X12_in
set_option maxRecDepth 20000 in
theorem ggX12_ofSwallow_X12_swallowOf : GoodIn wsX12_ofSwallow wsX12_swallowOf := goodIn_r _ [9, 10, 17, 18, 19, 20, 21, 22, 23, 24, 25, 26, 27, 28, 29, 30, 31, 32, 33, 34, 35, 36, 37, 38, 39] (by decide +kernel) (by decide +kernel)
set_option maxRecDepth 20000 in
theorem gX12_ofSwallow_X12_swallowOf : GoodIn wsX12_ofSwallow (wsV RX12 213 RX12 yX12_swallowOf wsX12_swallowOf) := goodIn_app (goodIn_of _ (by decide +kernel)) ggX12_ofSwallow_X12_swallowOf
set_option maxRecDepth 20000 in
theorem ggX12_ofSwallow_X12_finds : GoodIn wsX12_ofSwallow wsX12_finds := goodIn_r _ [14, 15, 16, 17, 18, 19, 20, 21, 22, 23, 24, 25, 26, 27, 28, 29, 30, 31, 32, 33, 34, 35, 36, 37, 38, 39] (by decide +kernel) (by decide +kernel)
set_option maxRecDepth 20000 in
theorem gX12_ofSwallow_X12_finds : GoodIn wsX12_ofSwallow (wsV RX12 131 RX12 yX12_finds wsX12_finds) := goodIn_app (goodIn_of _ (by decide +kernel)) ggX12_ofSwallow_X12_finds
theorem dX12_ofSwallow_0 : decode cX12_ofSwallow 0 = .ok (.iload_n 1, 1) := by decide +kernel
theorem dX12_ofSwallow_1 : decode cX12_ofSwallow 1 = .ok (.i2l, 1) := by decide +kernel
theorem dX12_ofSwallow_2 : decode cX12_ofSwallow 2 = .ok (.lconst 0, 1) := by decide +kernel
theorem dX12_ofSwallow_3 : decode cX12_ofSwallow 3 = .ok (.ldc2_w 207, 3) := by decide +kernel
theorem dX12_ofSwallow_6 : decode cX12_ofSwallow 6 = .ok (.invokestatic 50, 3) := by decide +kernel
theorem dX12_ofSwallow_9 : decode cX12_ofSwallow 9 = .ok (.ifCond .eq 11, 3) := by decide +kernel
theorem dX12_ofSwallow_12 : decode cX12_ofSwallow 12 = .ok (.aload_n 0, 1) := by decide +kernel
theorem dX12_ofSwallow_13 : decode cX12_ofSwallow 13 = .ok (.iload_n 1, 1) := by decide +kernel
theorem dX12_ofSwallow_14 : decode cX12_ofSwallow 14 = .ok (.invokevirtual 213, 3) := by decide +kernel
theorem dX12_ofSwallow_17 : decode cX12_ofSwallow 17 = .ok (.goto 8, 3) := by decide +kernel
theorem dX12_ofSwallow_20 : decode cX12_ofSwallow 20 = .ok (.aload_n 0, 1) := by decide +kernel
theorem dX12_ofSwallow_21 : decode cX12_ofSwallow 21 = .ok (.iconst 1, 1) := by decide +kernel
theorem dX12_ofSwallow_22 : decode cX12_ofSwallow 22 = .ok (.invokevirtual 131, 3) := by decide +kernel
theorem dX12_ofSwallow_25 : decode cX12_ofSwallow 25 = .ok (.ireturn, 1) := by decide +kernel
set_option maxRecDepth 20000 in
theorem ggX12_wash_X12_in : GoodIn wsX12_wash wsX12_in := goodIn_r _ [7] (by decide +kernel) (by decide +kernel)
set_option maxRecDepth 20000 in
theorem gX12_wash_X12_in : GoodIn wsX12_wash (va_wsS RX12 50 yX12_in wsX12_in) := goodIn_app (goodIn_of _ (by decide +kernel)) ggX12_wash_X12_in
set_option maxRecDepth 20000 in
theorem ggX12_wash_X12_becomes : GoodIn wsX12_wash wsX12_becomes := goodIn_r _ [11, 12, 19, 20, 21, 22, 23, 24, 25, 26, 27, 28, 29, 30, 31, 32, 33, 34, 35, 36, 37, 38, 39, 40, 41] (by decide +kernel) (by decide +kernel)
set_option maxRecDepth 20000 in
theorem gX12_wash_X12_becomes : GoodIn wsX12_wash (wsV RX12 196 RX12 yX12_becomes wsX12_becomes) := goodIn_app (goodIn_of _ (by decide +kernel)) ggX12_wash_X12_becomes
set_option maxRecDepth 20000 in
theorem ggX12_wash_X12_finds : GoodIn wsX12_wash wsX12_finds := goodIn_r _ [16, 17, 18, 19, 20, 21, 22, 23, 24, 25, 26, 27, 28, 29, 30, 31, 32, 33, 34, 35, 36, 37, 38, 39, 40, 41] (by decide +kernel) (by decide +kernel)
set_option maxRecDepth 20000 in
theorem gX12_wash_X12_finds : GoodIn wsX12_wash (wsV RX12 131 RX12 yX12_finds wsX12_finds) := goodIn_app (goodIn_of _ (by decide +kernel)) ggX12_wash_X12_finds
theorem dX12_wash_0 : decode cX12_wash 0 = .ok (.iload_n 1, 1) := by decide +kernel
theorem dX12_wash_1 : decode cX12_wash 1 = .ok (.i2l, 1) := by decide +kernel
theorem dX12_wash_2 : decode cX12_wash 2 = .ok (.lconst 0, 1) := by decide +kernel
theorem dX12_wash_3 : decode cX12_wash 3 = .ok (.ldc2_w 216, 3) := by decide +kernel
theorem dX12_wash_6 : decode cX12_wash 6 = .ok (.invokestatic 50, 3) := by decide +kernel
theorem dX12_wash_9 : decode cX12_wash 9 = .ok (.ifCond .eq 31, 3) := by decide +kernel
theorem dX12_wash_12 : decode cX12_wash 12 = .ok (.iload_n 2, 1) := by decide +kernel
theorem dX12_wash_13 : decode cX12_wash 13 = .ok (.i2l, 1) := by decide +kernel
theorem dX12_wash_14 : decode cX12_wash 14 = .ok (.ldc2_w 209, 3) := by decide +kernel
theorem dX12_wash_17 : decode cX12_wash 17 = .ok (.ldc2_w 211, 3) := by decide +kernel
theorem dX12_wash_20 : decode cX12_wash 20 = .ok (.invokestatic 50, 3) := by decide +kernel
theorem dX12_wash_23 : decode cX12_wash 23 = .ok (.ifCond .eq 17, 3) := by decide +kernel
theorem dX12_wash_26 : decode cX12_wash 26 = .ok (.iconst 1, 1) := by decide +kernel
theorem dX12_wash_27 : decode cX12_wash 27 = .ok (.aload_n 0, 1) := by decide +kernel
theorem dX12_wash_28 : decode cX12_wash 28 = .ok (.bipush 30, 2) := by decide +kernel
theorem dX12_wash_30 : decode cX12_wash 30 = .ok (.iload_n 1, 1) := by decide +kernel
theorem dX12_wash_31 : decode cX12_wash 31 = .ok (.iadd, 1) := by decide +kernel
theorem dX12_wash_32 : decode cX12_wash 32 = .ok (.iload_n 2, 1) := by decide +kernel
theorem dX12_wash_33 : decode cX12_wash 33 = .ok (.invokevirtual 196, 3) := by decide +kernel
theorem dX12_wash_36 : decode cX12_wash 36 = .ok (.iadd, 1) := by decide +kernel
theorem dX12_wash_37 : decode cX12_wash 37 = .ok (.goto 8, 3) := by decide +kernel
theorem dX12_wash_40 : decode cX12_wash 40 = .ok (.aload_n 0, 1) := by decide +kernel
theorem dX12_wash_41 : decode cX12_wash 41 = .ok (.iconst 1, 1) := by decide +kernel
theorem dX12_wash_42 : decode cX12_wash 42 = .ok (.invokevirtual 131, 3) := by decide +kernel
theorem dX12_wash_45 : decode cX12_wash 45 = .ok (.ireturn, 1) := by decide +kernel
set_option maxRecDepth 20000 in
theorem ggX12_ofWash_X12_in : GoodIn wsX12_ofWash wsX12_in := goodIn_r _ [6] (by decide +kernel) (by decide +kernel)
set_option maxRecDepth 20000 in
theorem gX12_ofWash_X12_in : GoodIn wsX12_ofWash (va_wsS RX12 50 yX12_in wsX12_in) := goodIn_app (goodIn_of _ (by decide +kernel)) ggX12_ofWash_X12_in
set_option maxRecDepth 20000 in
theorem ggX12_ofWash_X12_finds : GoodIn wsX12_ofWash wsX12_finds := goodIn_r _ [10, 11, 12, 13, 14, 15, 16, 17, 18, 19, 20, 21, 22, 23, 24, 25, 26, 27, 28, 29, 30, 31, 32, 33, 34, 35] (by decide +kernel) (by decide +kernel)
set_option maxRecDepth 20000 in
theorem gX12_ofWash_X12_finds : GoodIn wsX12_ofWash (wsV RX12 131 RX12 yX12_finds wsX12_finds) := goodIn_app (goodIn_of _ (by decide +kernel)) ggX12_ofWash_X12_finds
theorem dX12_ofWash_0 : decode cX12_ofWash 0 = .ok (.iload_n 1, 1) := by decide +kernel
theorem dX12_ofWash_1 : decode cX12_ofWash 1 = .ok (.i2l, 1) := by decide +kernel
theorem dX12_ofWash_2 : decode cX12_ofWash 2 = .ok (.lconst 0, 1) := by decide +kernel
theorem dX12_ofWash_3 : decode cX12_ofWash 3 = .ok (.ldc2_w 216, 3) := by decide +kernel
theorem dX12_ofWash_6 : decode cX12_ofWash 6 = .ok (.invokestatic 50, 3) := by decide +kernel
theorem dX12_ofWash_9 : decode cX12_ofWash 9 = .ok (.ifCond .eq 17, 3) := by decide +kernel
theorem dX12_ofWash_12 : decode cX12_ofWash 12 = .ok (.iconst 1, 1) := by decide +kernel
theorem dX12_ofWash_13 : decode cX12_ofWash 13 = .ok (.aload_n 0, 1) := by decide +kernel
theorem dX12_ofWash_14 : decode cX12_ofWash 14 = .ok (.getfield 7, 3) := by decide +kernel
theorem dX12_ofWash_17 : decode cX12_ofWash 17 = .ok (.bipush 30, 2) := by decide +kernel
theorem dX12_ofWash_19 : decode cX12_ofWash 19 = .ok (.iload_n 1, 1) := by decide +kernel
theorem dX12_ofWash_20 : decode cX12_ofWash 20 = .ok (.iadd, 1) := by decide +kernel
theorem dX12_ofWash_21 : decode cX12_ofWash 21 = .ok (.iaload, 1) := by decide +kernel
theorem dX12_ofWash_22 : decode cX12_ofWash 22 = .ok (.iadd, 1) := by decide +kernel
theorem dX12_ofWash_23 : decode cX12_ofWash 23 = .ok (.goto 8, 3) := by decide +kernel
theorem dX12_ofWash_26 : decode cX12_ofWash 26 = .ok (.aload_n 0, 1) := by decide +kernel
theorem dX12_ofWash_27 : decode cX12_ofWash 27 = .ok (.iconst 1, 1) := by decide +kernel
theorem dX12_ofWash_28 : decode cX12_ofWash 28 = .ok (.invokevirtual 131, 3) := by decide +kernel
theorem dX12_ofWash_31 : decode cX12_ofWash 31 = .ok (.ireturn, 1) := by decide +kernel
set_option maxRecDepth 20000 in
theorem ggX12_isKm_X12_in : GoodIn wsX12_isKm wsX12_in := goodIn_r _ [5] (by decide +kernel) (by decide +kernel)
set_option maxRecDepth 20000 in
theorem gX12_isKm_X12_in : GoodIn wsX12_isKm (va_wsS RX12 50 yX12_in wsX12_in) := goodIn_app (goodIn_of _ (by decide +kernel)) ggX12_isKm_X12_in
theorem dX12_isKm_0 : decode cX12_isKm 0 = .ok (.iload_n 0, 1) := by decide +kernel
theorem dX12_isKm_1 : decode cX12_isKm 1 = .ok (.i2l, 1) := by decide +kernel
theorem dX12_isKm_2 : decode cX12_isKm 2 = .ok (.lconst 0, 1) := by decide +kernel
theorem dX12_isKm_3 : decode cX12_isKm 3 = .ok (.ldc2_w 218, 3) := by decide +kernel
theorem dX12_isKm_6 : decode cX12_isKm 6 = .ok (.invokestatic 50, 3) := by decide +kernel
theorem dX12_isKm_9 : decode cX12_isKm 9 = .ok (.ireturn, 1) := by decide +kernel
set_option maxRecDepth 20000 in
theorem ggX12_spoon_X12_isKm : GoodIn wsX12_spoon wsX12_isKm := goodIn_r _ [6, 7, 8, 9, 5, 10] (by decide +kernel) (by decide +kernel)
set_option maxRecDepth 20000 in
theorem gX12_spoon_X12_isKm : GoodIn wsX12_spoon (va_wsS RX12 220 yX12_isKm wsX12_isKm) := goodIn_app (goodIn_of _ (by decide +kernel)) ggX12_spoon_X12_isKm
set_option maxRecDepth 20000 in
theorem ggX12_spoon_X12_in : GoodIn wsX12_spoon wsX12_in := goodIn_r _ [10] (by decide +kernel) (by decide +kernel)
set_option maxRecDepth 20000 in
theorem gX12_spoon_X12_in : GoodIn wsX12_spoon (va_wsS RX12 50 yX12_in wsX12_in) := goodIn_app (goodIn_of _ (by decide +kernel)) ggX12_spoon_X12_in
set_option maxRecDepth 20000 in
theorem ggX12_spoon_X12_finds : GoodIn wsX12_spoon wsX12_finds := goodIn_r _ [14, 15, 16, 21, 22, 23, 24, 25, 26, 27, 28, 29, 30, 31, 32, 33, 34, 35, 36, 37, 38, 39, 40, 41, 42, 43] (by decide +kernel) (by decide +kernel)
set_option maxRecDepth 20000 in
theorem gX12_spoon_X12_finds : GoodIn wsX12_spoon (wsV RX12 131 RX12 yX12_finds wsX12_finds) := goodIn_app (goodIn_of _ (by decide +kernel)) ggX12_spoon_X12_finds
set_option maxRecDepth 20000 in
theorem ggX12_spoon_X12_sets : GoodIn wsX12_spoon wsX12_sets := goodIn_r _ [20, 2, 21, 22, 23, 24, 25, 26, 27, 28, 29, 30, 31, 32, 33, 34, 35, 36, 37, 38, 39, 40, 41, 42, 43] (by decide +kernel) (by decide +kernel)
set_option maxRecDepth 20000 in
theorem gX12_spoon_X12_sets : GoodIn wsX12_spoon (wsV RX12 166 RX12 yX12_sets wsX12_sets) := goodIn_app (goodIn_of _ (by decide +kernel)) ggX12_spoon_X12_sets
theorem dX12_spoon_0 : decode cX12_spoon 0 = .ok (.iload_n 1, 1) := by decide +kernel
theorem dX12_spoon_1 : decode cX12_spoon 1 = .ok (.invokestatic 220, 3) := by decide +kernel
theorem dX12_spoon_4 : decode cX12_spoon 4 = .ok (.ifCond .eq 15, 3) := by decide +kernel
theorem dX12_spoon_7 : decode cX12_spoon 7 = .ok (.iload_n 2, 1) := by decide +kernel
theorem dX12_spoon_8 : decode cX12_spoon 8 = .ok (.i2l, 1) := by decide +kernel
theorem dX12_spoon_9 : decode cX12_spoon 9 = .ok (.lconst 0, 1) := by decide +kernel
theorem dX12_spoon_10 : decode cX12_spoon 10 = .ok (.ldc2_w 223, 3) := by decide +kernel
theorem dX12_spoon_13 : decode cX12_spoon 13 = .ok (.invokestatic 50, 3) := by decide +kernel
theorem dX12_spoon_16 : decode cX12_spoon 16 = .ok (.ifCond .ne 9, 3) := by decide +kernel
theorem dX12_spoon_19 : decode cX12_spoon 19 = .ok (.aload_n 0, 1) := by decide +kernel
theorem dX12_spoon_20 : decode cX12_spoon 20 = .ok (.iconst 1, 1) := by decide +kernel
theorem dX12_spoon_21 : decode cX12_spoon 21 = .ok (.invokevirtual 131, 3) := by decide +kernel
theorem dX12_spoon_24 : decode cX12_spoon 24 = .ok (.ireturn, 1) := by decide +kernel
theorem dX12_spoon_25 : decode cX12_spoon 25 = .ok (.aload_n 0, 1) := by decide +kernel
theorem dX12_spoon_26 : decode cX12_spoon 26 = .ok (.getfield 7, 3) := by decide +kernel
theorem dX12_spoon_29 : decode cX12_spoon 29 = .ok (.iconst 0, 1) := by decide +kernel
theorem dX12_spoon_30 : decode cX12_spoon 30 = .ok (.iaload, 1) := by decide +kernel
theorem dX12_spoon_31 : decode cX12_spoon 31 = .ok (.bipush 8, 2) := by decide +kernel
theorem dX12_spoon_33 : decode cX12_spoon 33 = .ok (.if_icmp .ne 9, 3) := by decide +kernel
theorem dX12_spoon_36 : decode cX12_spoon 36 = .ok (.aload_n 0, 1) := by decide +kernel
theorem dX12_spoon_37 : decode cX12_spoon 37 = .ok (.iconst 4, 1) := by decide +kernel
theorem dX12_spoon_38 : decode cX12_spoon 38 = .ok (.invokevirtual 131, 3) := by decide +kernel
theorem dX12_spoon_41 : decode cX12_spoon 41 = .ok (.ireturn, 1) := by decide +kernel
theorem dX12_spoon_42 : decode cX12_spoon 42 = .ok (.aload_n 0, 1) := by decide +kernel
theorem dX12_spoon_43 : decode cX12_spoon 43 = .ok (.getfield 7, 3) := by decide +kernel
theorem dX12_spoon_46 : decode cX12_spoon 46 = .ok (.iconst 0, 1) := by decide +kernel
theorem dX12_spoon_47 : decode cX12_spoon 47 = .ok (.iaload, 1) := by decide +kernel
theorem dX12_spoon_48 : decode cX12_spoon 48 = .ok (.istore_n 3, 1) := by decide +kernel
theorem dX12_spoon_49 : decode cX12_spoon 49 = .ok (.aload_n 0, 1) := by decide +kernel
theorem dX12_spoon_50 : decode cX12_spoon 50 = .ok (.iload_n 3, 1) := by decide +kernel
theorem dX12_spoon_51 : decode cX12_spoon 51 = .ok (.iconst 0, 1) := by decide +kernel
theorem dX12_spoon_52 : decode cX12_spoon 52 = .ok (.iload_n 1, 1) := by decide +kernel
theorem dX12_spoon_53 : decode cX12_spoon 53 = .ok (.bipush 10, 2) := by decide +kernel
theorem dX12_spoon_55 : decode cX12_spoon 55 = .ok (.idiv, 1) := by decide +kernel
theorem dX12_spoon_56 : decode cX12_spoon 56 = .ok (.invokevirtual 166, 3) := by decide +kernel
theorem dX12_spoon_59 : decode cX12_spoon 59 = .ok (.aload_n 0, 1) := by decide +kernel
theorem dX12_spoon_60 : decode cX12_spoon 60 = .ok (.iload_n 3, 1) := by decide +kernel
theorem dX12_spoon_61 : decode cX12_spoon 61 = .ok (.iconst 1, 1) := by decide +kernel
theorem dX12_spoon_62 : decode cX12_spoon 62 = .ok (.iload_n 1, 1) := by decide +kernel
theorem dX12_spoon_63 : decode cX12_spoon 63 = .ok (.bipush 10, 2) := by decide +kernel
theorem dX12_spoon_65 : decode cX12_spoon 65 = .ok (.irem, 1) := by decide +kernel
theorem dX12_spoon_66 : decode cX12_spoon 66 = .ok (.invokevirtual 166, 3) := by decide +kernel
theorem dX12_spoon_69 : decode cX12_spoon 69 = .ok (.aload_n 0, 1) := by decide +kernel
theorem dX12_spoon_70 : decode cX12_spoon 70 = .ok (.iload_n 3, 1) := by decide +kernel
theorem dX12_spoon_71 : decode cX12_spoon 71 = .ok (.iconst 2, 1) := by decide +kernel
theorem dX12_spoon_72 : decode cX12_spoon 72 = .ok (.iload_n 2, 1) := by decide +kernel
theorem dX12_spoon_73 : decode cX12_spoon 73 = .ok (.invokevirtual 166, 3) := by decide +kernel
theorem dX12_spoon_76 : decode cX12_spoon 76 = .ok (.iconst 0, 1) := by decide +kernel
theorem dX12_spoon_77 : decode cX12_spoon 77 = .ok (.istore 4, 2) := by decide +kernel
theorem dX12_spoon_79 : decode cX12_spoon 79 = .ok (.iload 4, 2) := by decide +kernel
theorem dX12_spoon_81 : decode cX12_spoon 81 = .ok (.bipush 12, 2) := by decide +kernel
theorem dX12_spoon_83 : decode cX12_spoon 83 = .ok (.if_icmp .ge 19, 3) := by decide +kernel
theorem dX12_spoon_86 : decode cX12_spoon 86 = .ok (.aload_n 0, 1) := by decide +kernel
theorem dX12_spoon_87 : decode cX12_spoon 87 = .ok (.iload_n 3, 1) := by decide +kernel
theorem dX12_spoon_88 : decode cX12_spoon 88 = .ok (.iconst 3, 1) := by decide +kernel
theorem dX12_spoon_89 : decode cX12_spoon 89 = .ok (.iload 4, 2) := by decide +kernel
theorem dX12_spoon_91 : decode cX12_spoon 91 = .ok (.iadd, 1) := by decide +kernel
theorem dX12_spoon_92 : decode cX12_spoon 92 = .ok (.iconst 0, 1) := by decide +kernel
theorem dX12_spoon_93 : decode cX12_spoon 93 = .ok (.invokevirtual 166, 3) := by decide +kernel
theorem dX12_spoon_96 : decode cX12_spoon 96 = .ok (.iinc 4 1, 3) := by decide +kernel
theorem dX12_spoon_99 : decode cX12_spoon 99 = .ok (.goto (-20), 3) := by decide +kernel
theorem dX12_spoon_102 : decode cX12_spoon 102 = .ok (.aload_n 0, 1) := by decide +kernel
theorem dX12_spoon_103 : decode cX12_spoon 103 = .ok (.getfield 7, 3) := by decide +kernel
theorem dX12_spoon_106 : decode cX12_spoon 106 = .ok (.iconst 0, 1) := by decide +kernel
theorem dX12_spoon_107 : decode cX12_spoon 107 = .ok (.dup2, 1) := by decide +kernel
theorem dX12_spoon_108 : decode cX12_spoon 108 = .ok (.iaload, 1) := by decide +kernel
theorem dX12_spoon_109 : decode cX12_spoon 109 = .ok (.iconst 1, 1) := by decide +kernel
theorem dX12_spoon_110 : decode cX12_spoon 110 = .ok (.iadd, 1) := by decide +kernel
theorem dX12_spoon_111 : decode cX12_spoon 111 = .ok (.iastore, 1) := by decide +kernel
theorem dX12_spoon_112 : decode cX12_spoon 112 = .ok (.iload_n 3, 1) := by decide +kernel
theorem dX12_spoon_113 : decode cX12_spoon 113 = .ok (.ireturn, 1) := by decide +kernel
set_option maxRecDepth 20000 in
theorem ggX12_ofSpoon_X12_isSpoon : GoodIn wsX12_ofSpoon wsX12_isSpoon := goodIn_r _ [6, 7, 8, 9, 5, 10, 52, 53, 54, 55, 56, 57, 58, 59, 60, 61, 62, 63, 64, 65, 66, 67, 68, 69, 70, 71, 72, 73, 74] (by decide +kernel) (by decide +kernel)
set_option maxRecDepth 20000 in
theorem gX12_ofSpoon_X12_isSpoon : GoodIn wsX12_ofSpoon (wsV RX12 178 RX12 yX12_isSpoon wsX12_isSpoon) := goodIn_app (goodIn_of _ (by decide +kernel)) ggX12_ofSpoon_X12_isSpoon
set_option maxRecDepth 20000 in
theorem ggX12_ofSpoon_X12_in : GoodIn wsX12_ofSpoon wsX12_in := goodIn_r _ [10] (by decide +kernel) (by decide +kernel)
set_option maxRecDepth 20000 in
theorem gX12_ofSpoon_X12_in : GoodIn wsX12_ofSpoon (va_wsS RX12 50 yX12_in wsX12_in) := goodIn_app (goodIn_of _ (by decide +kernel)) ggX12_ofSpoon_X12_in
set_option maxRecDepth 20000 in
theorem ggX12_ofSpoon_X12_finds : GoodIn wsX12_ofSpoon wsX12_finds := goodIn_r _ [14, 15, 16, 52, 53, 54, 55, 56, 57, 58, 59, 60, 61, 62, 63, 64, 65, 66, 67, 68, 69, 70, 71, 72, 73, 74] (by decide +kernel) (by decide +kernel)
set_option maxRecDepth 20000 in
theorem gX12_ofSpoon_X12_finds : GoodIn wsX12_ofSpoon (wsV RX12 131 RX12 yX12_finds wsX12_finds) := goodIn_app (goodIn_of _ (by decide +kernel)) ggX12_ofSpoon_X12_finds
set_option maxRecDepth 20000 in
theorem ggX12_ofSpoon_X12_of : GoodIn wsX12_ofSpoon wsX12_of := goodIn_r _ [20, 7, 52, 53, 54, 55, 56, 57, 58, 59, 60, 61, 62, 63, 64, 65, 66, 67, 68, 69, 70, 71, 72, 73, 74] (by decide +kernel) (by decide +kernel)
set_option maxRecDepth 20000 in
theorem gX12_ofSpoon_X12_of : GoodIn wsX12_ofSpoon (wsV RX12 151 RX12 yX12_of wsX12_of) := goodIn_app (goodIn_of _ (by decide +kernel)) ggX12_ofSpoon_X12_of
set_option maxRecDepth 20000 in
theorem ggX12_ofSpoon_X12_on : GoodIn wsX12_ofSpoon wsX12_on := goodIn_r _ [24, 17, 18, 19, 5, 20, 7, 52, 53, 54, 55, 56, 57, 58, 59, 60, 61, 62, 63, 64, 65, 66, 67, 68, 69, 70, 71, 72, 73, 74] (by decide +kernel) (by decide +kernel)
set_option maxRecDepth 20000 in
theorem gX12_ofSpoon_X12_on : GoodIn wsX12_ofSpoon (wsV RX12 154 RX12 yX12_on wsX12_on) := goodIn_app (goodIn_of _ (by decide +kernel)) ggX12_ofSpoon_X12_on
set_option maxRecDepth 20000 in
theorem ggX12_ofSpoon_X12_rubs : GoodIn wsX12_ofSpoon wsX12_rubs := goodIn_r _ [28, 29, 30, 31, 5, 32, 21, 22, 23, 24, 17, 18, 19, 20, 7, 33, 34, 35, 36, 37, 38, 39, 40, 41, 42, 43, 44, 45, 46, 47, 48, 49, 50, 51, 52, 53, 54, 55, 56, 57, 58, 59, 60, 61, 62, 63, 64, 65, 66, 67, 68, 69, 70, 71, 72, 73, 74] (by decide +kernel) (by decide +kernel)
set_option maxRecDepth 20000 in
theorem gX12_ofSpoon_X12_rubs : GoodIn wsX12_ofSpoon (wsV RX12 169 RX12 yX12_rubs wsX12_rubs) := goodIn_app (goodIn_of _ (by decide +kernel)) ggX12_ofSpoon_X12_rubs
theorem dX12_ofSpoon_0 : decode cX12_ofSpoon 0 = .ok (.aload_n 0, 1) := by decide +kernel
theorem dX12_ofSpoon_1 : decode cX12_ofSpoon 1 = .ok (.iload_n 1, 1) := by decide +kernel
theorem dX12_ofSpoon_2 : decode cX12_ofSpoon 2 = .ok (.invokevirtual 178, 3) := by decide +kernel
theorem dX12_ofSpoon_5 : decode cX12_ofSpoon 5 = .ok (.ifCond .eq 15, 3) := by decide +kernel
theorem dX12_ofSpoon_8 : decode cX12_ofSpoon 8 = .ok (.iload_n 2, 1) := by decide +kernel
theorem dX12_ofSpoon_9 : decode cX12_ofSpoon 9 = .ok (.i2l, 1) := by decide +kernel
theorem dX12_ofSpoon_10 : decode cX12_ofSpoon 10 = .ok (.lconst 0, 1) := by decide +kernel
theorem dX12_ofSpoon_11 : decode cX12_ofSpoon 11 = .ok (.ldc2_w 225, 3) := by decide +kernel
theorem dX12_ofSpoon_14 : decode cX12_ofSpoon 14 = .ok (.invokestatic 50, 3) := by decide +kernel
theorem dX12_ofSpoon_17 : decode cX12_ofSpoon 17 = .ok (.ifCond .ne 9, 3) := by decide +kernel
theorem dX12_ofSpoon_20 : decode cX12_ofSpoon 20 = .ok (.aload_n 0, 1) := by decide +kernel
theorem dX12_ofSpoon_21 : decode cX12_ofSpoon 21 = .ok (.iconst 1, 1) := by decide +kernel
theorem dX12_ofSpoon_22 : decode cX12_ofSpoon 22 = .ok (.invokevirtual 131, 3) := by decide +kernel
theorem dX12_ofSpoon_25 : decode cX12_ofSpoon 25 = .ok (.ireturn, 1) := by decide +kernel
theorem dX12_ofSpoon_26 : decode cX12_ofSpoon 26 = .ok (.iload_n 2, 1) := by decide +kernel
theorem dX12_ofSpoon_27 : decode cX12_ofSpoon 27 = .ok (.iconst 3, 1) := by decide +kernel
theorem dX12_ofSpoon_28 : decode cX12_ofSpoon 28 = .ok (.if_icmp .ge 12, 3) := by decide +kernel
theorem dX12_ofSpoon_31 : decode cX12_ofSpoon 31 = .ok (.aload_n 0, 1) := by decide +kernel
theorem dX12_ofSpoon_32 : decode cX12_ofSpoon 32 = .ok (.iload_n 1, 1) := by decide +kernel
theorem dX12_ofSpoon_33 : decode cX12_ofSpoon 33 = .ok (.iload_n 2, 1) := by decide +kernel
theorem dX12_ofSpoon_34 : decode cX12_ofSpoon 34 = .ok (.invokevirtual 151, 3) := by decide +kernel
theorem dX12_ofSpoon_37 : decode cX12_ofSpoon 37 = .ok (.goto 39, 3) := by decide +kernel
theorem dX12_ofSpoon_40 : decode cX12_ofSpoon 40 = .ok (.iload_n 2, 1) := by decide +kernel
theorem dX12_ofSpoon_41 : decode cX12_ofSpoon 41 = .ok (.iconst 3, 1) := by decide +kernel
theorem dX12_ofSpoon_42 : decode cX12_ofSpoon 42 = .ok (.if_icmp .ne 11, 3) := by decide +kernel
theorem dX12_ofSpoon_45 : decode cX12_ofSpoon 45 = .ok (.aload_n 0, 1) := by decide +kernel
theorem dX12_ofSpoon_46 : decode cX12_ofSpoon 46 = .ok (.iload_n 1, 1) := by decide +kernel
theorem dX12_ofSpoon_47 : decode cX12_ofSpoon 47 = .ok (.invokevirtual 154, 3) := by decide +kernel
theorem dX12_ofSpoon_50 : decode cX12_ofSpoon 50 = .ok (.goto 26, 3) := by decide +kernel
theorem dX12_ofSpoon_53 : decode cX12_ofSpoon 53 = .ok (.iload_n 2, 1) := by decide +kernel
theorem dX12_ofSpoon_54 : decode cX12_ofSpoon 54 = .ok (.iconst 4, 1) := by decide +kernel
theorem dX12_ofSpoon_55 : decode cX12_ofSpoon 55 = .ok (.if_icmp .ne 11, 3) := by decide +kernel
theorem dX12_ofSpoon_58 : decode cX12_ofSpoon 58 = .ok (.aload_n 0, 1) := by decide +kernel
theorem dX12_ofSpoon_59 : decode cX12_ofSpoon 59 = .ok (.iload_n 1, 1) := by decide +kernel
theorem dX12_ofSpoon_60 : decode cX12_ofSpoon 60 = .ok (.invokevirtual 169, 3) := by decide +kernel
theorem dX12_ofSpoon_63 : decode cX12_ofSpoon 63 = .ok (.goto 13, 3) := by decide +kernel
theorem dX12_ofSpoon_66 : decode cX12_ofSpoon 66 = .ok (.aload_n 0, 1) := by decide +kernel
theorem dX12_ofSpoon_67 : decode cX12_ofSpoon 67 = .ok (.iload_n 1, 1) := by decide +kernel
theorem dX12_ofSpoon_68 : decode cX12_ofSpoon 68 = .ok (.iconst 3, 1) := by decide +kernel
theorem dX12_ofSpoon_69 : decode cX12_ofSpoon 69 = .ok (.iload_n 2, 1) := by decide +kernel
theorem dX12_ofSpoon_70 : decode cX12_ofSpoon 70 = .ok (.iadd, 1) := by decide +kernel
theorem dX12_ofSpoon_71 : decode cX12_ofSpoon 71 = .ok (.iconst 5, 1) := by decide +kernel
theorem dX12_ofSpoon_72 : decode cX12_ofSpoon 72 = .ok (.isub, 1) := by decide +kernel
theorem dX12_ofSpoon_73 : decode cX12_ofSpoon 73 = .ok (.invokevirtual 151, 3) := by decide +kernel
theorem dX12_ofSpoon_76 : decode cX12_ofSpoon 76 = .ok (.ireturn, 1) := by decide +kernel
set_option maxRecDepth 20000 in
theorem ggX12_change_X12_isSpoon : GoodIn wsX12_change wsX12_isSpoon := goodIn_r _ [8, 9, 10, 11, 7, 12, 23, 24, 25, 26, 27, 28, 29, 30, 31, 32, 33, 34, 35, 36, 37, 38, 39, 40, 41, 42, 43, 44, 45] (by decide +kernel) (by decide +kernel)
set_option maxRecDepth 20000 in
theorem gX12_change_X12_isSpoon : GoodIn wsX12_change (wsV RX12 178 RX12 yX12_isSpoon wsX12_isSpoon) := goodIn_app (goodIn_of _ (by decide +kernel)) ggX12_change_X12_isSpoon
set_option maxRecDepth 20000 in
theorem ggX12_change_X12_in : GoodIn wsX12_change wsX12_in := goodIn_r _ [12] (by decide +kernel) (by decide +kernel)
set_option maxRecDepth 20000 in
theorem gX12_change_X12_in : GoodIn wsX12_change (va_wsS RX12 50 yX12_in wsX12_in) := goodIn_app (goodIn_of _ (by decide +kernel)) ggX12_change_X12_in
set_option maxRecDepth 20000 in
theorem ggX12_change_X12_finds : GoodIn wsX12_change wsX12_finds := goodIn_r _ [16, 17, 18, 23, 24, 25, 26, 27, 28, 29, 30, 31, 32, 33, 34, 35, 36, 37, 38, 39, 40, 41, 42, 43, 44, 45] (by decide +kernel) (by decide +kernel)
set_option maxRecDepth 20000 in
theorem gX12_change_X12_finds : GoodIn wsX12_change (wsV RX12 131 RX12 yX12_finds wsX12_finds) := goodIn_app (goodIn_of _ (by decide +kernel)) ggX12_change_X12_finds
set_option maxRecDepth 20000 in
theorem ggX12_change_X12_becomes : GoodIn wsX12_change wsX12_becomes := goodIn_r _ [22, 9, 23, 24, 25, 26, 27, 28, 29, 30, 31, 32, 33, 34, 35, 36, 37, 38, 39, 40, 41, 42, 43, 44, 45] (by decide +kernel) (by decide +kernel)
set_option maxRecDepth 20000 in
theorem gX12_change_X12_becomes : GoodIn wsX12_change (wsV RX12 196 RX12 yX12_becomes wsX12_becomes) := goodIn_app (goodIn_of _ (by decide +kernel)) ggX12_change_X12_becomes
theorem dX12_change_0 : decode cX12_change 0 = .ok (.aload_n 0, 1) := by decide +kernel
theorem dX12_change_1 : decode cX12_change 1 = .ok (.iload_n 1, 1) := by decide +kernel
theorem dX12_change_2 : decode cX12_change 2 = .ok (.invokevirtual 178, 3) := by decide +kernel
theorem dX12_change_5 : decode cX12_change 5 = .ok (.ifCond .eq 37, 3) := by decide +kernel
theorem dX12_change_8 : decode cX12_change 8 = .ok (.iload_n 2, 1) := by decide +kernel
theorem dX12_change_9 : decode cX12_change 9 = .ok (.i2l, 1) := by decide +kernel
theorem dX12_change_10 : decode cX12_change 10 = .ok (.lconst 0, 1) := by decide +kernel
theorem dX12_change_11 : decode cX12_change 11 = .ok (.ldc2_w 227, 3) := by decide +kernel
theorem dX12_change_14 : decode cX12_change 14 = .ok (.invokestatic 50, 3) := by decide +kernel
theorem dX12_change_17 : decode cX12_change 17 = .ok (.ifCond .eq 25, 3) := by decide +kernel
theorem dX12_change_20 : decode cX12_change 20 = .ok (.iload_n 3, 1) := by decide +kernel
theorem dX12_change_21 : decode cX12_change 21 = .ok (.i2l, 1) := by decide +kernel
theorem dX12_change_22 : decode cX12_change 22 = .ok (.lconst 0, 1) := by decide +kernel
theorem dX12_change_23 : decode cX12_change 23 = .ok (.iload_n 2, 1) := by decide +kernel
theorem dX12_change_24 : decode cX12_change 24 = .ok (.ifCond .ne 9, 3) := by decide +kernel
theorem dX12_change_27 : decode cX12_change 27 = .ok (.ldc2_w 223, 3) := by decide +kernel
theorem dX12_change_30 : decode cX12_change 30 = .ok (.goto 6, 3) := by decide +kernel
theorem dX12_change_33 : decode cX12_change 33 = .ok (.ldc2_w 194, 3) := by decide +kernel
theorem dX12_change_36 : decode cX12_change 36 = .ok (.invokestatic 50, 3) := by decide +kernel
theorem dX12_change_39 : decode cX12_change 39 = .ok (.ifCond .ne 9, 3) := by decide +kernel
theorem dX12_change_42 : decode cX12_change 42 = .ok (.aload_n 0, 1) := by decide +kernel
theorem dX12_change_43 : decode cX12_change 43 = .ok (.iconst 1, 1) := by decide +kernel
theorem dX12_change_44 : decode cX12_change 44 = .ok (.invokevirtual 131, 3) := by decide +kernel
theorem dX12_change_47 : decode cX12_change 47 = .ok (.ireturn, 1) := by decide +kernel
theorem dX12_change_48 : decode cX12_change 48 = .ok (.aload_n 0, 1) := by decide +kernel
theorem dX12_change_49 : decode cX12_change 49 = .ok (.bipush 34, 2) := by decide +kernel
theorem dX12_change_51 : decode cX12_change 51 = .ok (.bipush 15, 2) := by decide +kernel
theorem dX12_change_53 : decode cX12_change 53 = .ok (.iload_n 1, 1) := by decide +kernel
theorem dX12_change_54 : decode cX12_change 54 = .ok (.imul, 1) := by decide +kernel
theorem dX12_change_55 : decode cX12_change 55 = .ok (.iadd, 1) := by decide +kernel
theorem dX12_change_56 : decode cX12_change 56 = .ok (.iconst 2, 1) := by decide +kernel
theorem dX12_change_57 : decode cX12_change 57 = .ok (.iadd, 1) := by decide +kernel
theorem dX12_change_58 : decode cX12_change 58 = .ok (.iload_n 2, 1) := by decide +kernel
theorem dX12_change_59 : decode cX12_change 59 = .ok (.iadd, 1) := by decide +kernel
theorem dX12_change_60 : decode cX12_change 60 = .ok (.iload_n 3, 1) := by decide +kernel
theorem dX12_change_61 : decode cX12_change 61 = .ok (.invokevirtual 196, 3) := by decide +kernel
theorem dX12_change_64 : decode cX12_change 64 = .ok (.ireturn, 1) := by decide +kernel
set_option maxRecDepth 20000 in
theorem ggX12_become_X12_isSpoon : GoodIn wsX12_become wsX12_isSpoon := goodIn_r _ [5, 6, 7, 8, 4, 9, 28, 29, 30, 31, 32, 33, 34, 35, 36, 37, 38, 39, 40, 41, 42, 43, 44, 45, 46, 47, 48, 49, 50] (by decide +kernel) (by decide +kernel)
set_option maxRecDepth 20000 in
theorem gX12_become_X12_isSpoon : GoodIn wsX12_become (wsV RX12 178 RX12 yX12_isSpoon wsX12_isSpoon) := goodIn_app (goodIn_of _ (by decide +kernel)) ggX12_become_X12_isSpoon
set_option maxRecDepth 20000 in
theorem ggX12_become_X12_isKm : GoodIn wsX12_become wsX12_isKm := goodIn_r _ [12, 13, 7, 8, 4, 9] (by decide +kernel) (by decide +kernel)
set_option maxRecDepth 20000 in
theorem gX12_become_X12_isKm : GoodIn wsX12_become (va_wsS RX12 220 yX12_isKm wsX12_isKm) := goodIn_app (goodIn_of _ (by decide +kernel)) ggX12_become_X12_isKm
set_option maxRecDepth 20000 in
theorem ggX12_become_X12_finds : GoodIn wsX12_become wsX12_finds := goodIn_r _ [17, 18, 19, 28, 29, 30, 31, 32, 33, 34, 35, 36, 37, 38, 39, 40, 41, 42, 43, 44, 45, 46, 47, 48, 49, 50] (by decide +kernel) (by decide +kernel)
set_option maxRecDepth 20000 in
theorem gX12_become_X12_finds : GoodIn wsX12_become (wsV RX12 131 RX12 yX12_finds wsX12_finds) := goodIn_app (goodIn_of _ (by decide +kernel)) ggX12_become_X12_finds
set_option maxRecDepth 20000 in
theorem ggX12_become_X12_sets : GoodIn wsX12_become wsX12_sets := goodIn_r _ [23, 6, 28, 29, 30, 31, 32, 33, 34, 35, 36, 37, 38, 39, 40, 41, 42, 43, 44, 45, 46, 47, 48, 49, 50] (by decide +kernel) (by decide +kernel)
set_option maxRecDepth 20000 in
theorem gX12_become_X12_sets : GoodIn wsX12_become (wsV RX12 166 RX12 yX12_sets wsX12_sets) := goodIn_app (goodIn_of _ (by decide +kernel)) ggX12_become_X12_sets
set_option maxRecDepth 20000 in
theorem ggX12_become_X12_becomes : GoodIn wsX12_become wsX12_becomes := goodIn_r _ [27, 6, 28, 29, 30, 31, 32, 33, 34, 35, 36, 37, 38, 39, 40, 41, 42, 43, 44, 45, 46, 47, 48, 49, 50] (by decide +kernel) (by decide +kernel)
set_option maxRecDepth 20000 in
theorem gX12_become_X12_becomes : GoodIn wsX12_become (wsV RX12 196 RX12 yX12_becomes wsX12_becomes) := goodIn_app (goodIn_of _ (by decide +kernel)) ggX12_become_X12_becomes
theorem dX12_become_0 : decode cX12_become 0 = .ok (.aload_n 0, 1) := by decide +kernel
theorem dX12_become_1 : decode cX12_become 1 = .ok (.iload_n 1, 1) := by decide +kernel
theorem dX12_become_2 : decode cX12_become 2 = .ok (.invokevirtual 178, 3) := by decide +kernel
theorem dX12_become_5 : decode cX12_become 5 = .ok (.ifCond .eq 10, 3) := by decide +kernel
theorem dX12_become_8 : decode cX12_become 8 = .ok (.iload_n 2, 1) := by decide +kernel
theorem dX12_become_9 : decode cX12_become 9 = .ok (.invokestatic 220, 3) := by decide +kernel
theorem dX12_become_12 : decode cX12_become 12 = .ok (.ifCond .ne 9, 3) := by decide +kernel
theorem dX12_become_15 : decode cX12_become 15 = .ok (.aload_n 0, 1) := by decide +kernel
theorem dX12_become_16 : decode cX12_become 16 = .ok (.iconst 1, 1) := by decide +kernel
theorem dX12_become_17 : decode cX12_become 17 = .ok (.invokevirtual 131, 3) := by decide +kernel
theorem dX12_become_20 : decode cX12_become 20 = .ok (.ireturn, 1) := by decide +kernel
theorem dX12_become_21 : decode cX12_become 21 = .ok (.aload_n 0, 1) := by decide +kernel
theorem dX12_become_22 : decode cX12_become 22 = .ok (.iload_n 1, 1) := by decide +kernel
theorem dX12_become_23 : decode cX12_become 23 = .ok (.iconst 1, 1) := by decide +kernel
theorem dX12_become_24 : decode cX12_become 24 = .ok (.iload_n 2, 1) := by decide +kernel
theorem dX12_become_25 : decode cX12_become 25 = .ok (.bipush 10, 2) := by decide +kernel
theorem dX12_become_27 : decode cX12_become 27 = .ok (.irem, 1) := by decide +kernel
theorem dX12_become_28 : decode cX12_become 28 = .ok (.invokevirtual 166, 3) := by decide +kernel
theorem dX12_become_31 : decode cX12_become 31 = .ok (.aload_n 0, 1) := by decide +kernel
theorem dX12_become_32 : decode cX12_become 32 = .ok (.bipush 34, 2) := by decide +kernel
theorem dX12_become_34 : decode cX12_become 34 = .ok (.bipush 15, 2) := by decide +kernel
theorem dX12_become_36 : decode cX12_become 36 = .ok (.iload_n 1, 1) := by decide +kernel
theorem dX12_become_37 : decode cX12_become 37 = .ok (.imul, 1) := by decide +kernel
theorem dX12_become_38 : decode cX12_become 38 = .ok (.iadd, 1) := by decide +kernel
theorem dX12_become_39 : decode cX12_become 39 = .ok (.iload_n 2, 1) := by decide +kernel
theorem dX12_become_40 : decode cX12_become 40 = .ok (.bipush 10, 2) := by decide +kernel
theorem dX12_become_42 : decode cX12_become 42 = .ok (.idiv, 1) := by decide +kernel
theorem dX12_become_43 : decode cX12_become 43 = .ok (.invokevirtual 196, 3) := by decide +kernel
theorem dX12_become_46 : decode cX12_become 46 = .ok (.ireturn, 1) := by decide +kernel
set_option maxRecDepth 20000 in
theorem ggX12_as_X12_isSpoon : GoodIn wsX12_as wsX12_isSpoon := goodIn_r _ [6, 7, 8, 9, 5, 10, 24, 25, 26, 27, 28, 29, 30, 31, 32, 33, 34, 35, 36, 37, 38, 39, 40, 41, 42, 43, 44, 45, 46] (by decide +kernel) (by decide +kernel)
set_option maxRecDepth 20000 in
theorem gX12_as_X12_isSpoon : GoodIn wsX12_as (wsV RX12 178 RX12 yX12_isSpoon wsX12_isSpoon) := goodIn_app (goodIn_of _ (by decide +kernel)) ggX12_as_X12_isSpoon
set_option maxRecDepth 20000 in
theorem ggX12_as_X12_in : GoodIn wsX12_as wsX12_in := goodIn_r _ [10] (by decide +kernel) (by decide +kernel)
set_option maxRecDepth 20000 in
theorem gX12_as_X12_in : GoodIn wsX12_as (va_wsS RX12 50 yX12_in wsX12_in) := goodIn_app (goodIn_of _ (by decide +kernel)) ggX12_as_X12_in
set_option maxRecDepth 20000 in
theorem ggX12_as_X12_finds : GoodIn wsX12_as wsX12_finds := goodIn_r _ [14, 15, 16, 24, 25, 26, 27, 28, 29, 30, 31, 32, 33, 34, 35, 36, 37, 38, 39, 40, 41, 42, 43, 44, 45, 46] (by decide +kernel) (by decide +kernel)
set_option maxRecDepth 20000 in
theorem gX12_as_X12_finds : GoodIn wsX12_as (wsV RX12 131 RX12 yX12_finds wsX12_finds) := goodIn_app (goodIn_of _ (by decide +kernel)) ggX12_as_X12_finds
set_option maxRecDepth 20000 in
theorem ggX12_as_X12_of : GoodIn wsX12_as wsX12_of := goodIn_r _ [20, 7, 24, 25, 26, 27, 28, 29, 30, 31, 32, 33, 34, 35, 36, 37, 38, 39, 40, 41, 42, 43, 44, 45, 46] (by decide +kernel) (by decide +kernel)
set_option maxRecDepth 20000 in
theorem gX12_as_X12_of : GoodIn wsX12_as (wsV RX12 151 RX12 yX12_of wsX12_of) := goodIn_app (goodIn_of _ (by decide +kernel)) ggX12_as_X12_of
set_option maxRecDepth 20000 in
theorem ggX12_as_X12_above : GoodIn wsX12_as wsX12_above := goodIn_r _ [23] (by decide +kernel) (by decide +kernel)
set_option maxRecDepth 20000 in
theorem gX12_as_X12_above : GoodIn wsX12_as (va_wsS RX12 231 yX12_above wsX12_above) := goodIn_app (goodIn_of _ (by decide +kernel)) ggX12_as_X12_above
theorem dX12_as_0 : decode cX12_as 0 = .ok (.aload_n 0, 1) := by decide +kernel
theorem dX12_as_1 : decode cX12_as 1 = .ok (.iload_n 1, 1) := by decide +kernel
theorem dX12_as_2 : decode cX12_as 2 = .ok (.invokevirtual 178, 3) := by decide +kernel
theorem dX12_as_5 : decode cX12_as 5 = .ok (.ifCond .eq 15, 3) := by decide +kernel
theorem dX12_as_8 : decode cX12_as 8 = .ok (.iload_n 2, 1) := by decide +kernel
theorem dX12_as_9 : decode cX12_as 9 = .ok (.i2l, 1) := by decide +kernel
theorem dX12_as_10 : decode cX12_as 10 = .ok (.lconst 0, 1) := by decide +kernel
theorem dX12_as_11 : decode cX12_as 11 = .ok (.ldc2_w 229, 3) := by decide +kernel
theorem dX12_as_14 : decode cX12_as 14 = .ok (.invokestatic 50, 3) := by decide +kernel
theorem dX12_as_17 : decode cX12_as 17 = .ok (.ifCond .ne 9, 3) := by decide +kernel
theorem dX12_as_20 : decode cX12_as 20 = .ok (.aload_n 0, 1) := by decide +kernel
theorem dX12_as_21 : decode cX12_as 21 = .ok (.iconst 1, 1) := by decide +kernel
theorem dX12_as_22 : decode cX12_as 22 = .ok (.invokevirtual 131, 3) := by decide +kernel
theorem dX12_as_25 : decode cX12_as 25 = .ok (.ireturn, 1) := by decide +kernel
theorem dX12_as_26 : decode cX12_as 26 = .ok (.aload_n 0, 1) := by decide +kernel
theorem dX12_as_27 : decode cX12_as 27 = .ok (.iload_n 1, 1) := by decide +kernel
theorem dX12_as_28 : decode cX12_as 28 = .ok (.iconst 0, 1) := by decide +kernel
theorem dX12_as_29 : decode cX12_as 29 = .ok (.invokevirtual 151, 3) := by decide +kernel
theorem dX12_as_32 : decode cX12_as 32 = .ok (.istore_n 3, 1) := by decide +kernel
theorem dX12_as_33 : decode cX12_as 33 = .ok (.iload_n 2, 1) := by decide +kernel
theorem dX12_as_34 : decode cX12_as 34 = .ok (.ifCond .eq 16, 3) := by decide +kernel
theorem dX12_as_37 : decode cX12_as 37 = .ok (.iload_n 2, 1) := by decide +kernel
theorem dX12_as_38 : decode cX12_as 38 = .ok (.iload_n 3, 1) := by decide +kernel
theorem dX12_as_39 : decode cX12_as 39 = .ok (.if_icmp .eq 11, 3) := by decide +kernel
theorem dX12_as_42 : decode cX12_as 42 = .ok (.iload_n 2, 1) := by decide +kernel
theorem dX12_as_43 : decode cX12_as 43 = .ok (.iload_n 3, 1) := by decide +kernel
theorem dX12_as_44 : decode cX12_as 44 = .ok (.invokestatic 231, 3) := by decide +kernel
theorem dX12_as_47 : decode cX12_as 47 = .ok (.if_icmp .ne 12, 3) := by decide +kernel
theorem dX12_as_50 : decode cX12_as 50 = .ok (.aload_n 0, 1) := by decide +kernel
theorem dX12_as_51 : decode cX12_as 51 = .ok (.iload_n 1, 1) := by decide +kernel
theorem dX12_as_52 : decode cX12_as 52 = .ok (.iconst 1, 1) := by decide +kernel
theorem dX12_as_53 : decode cX12_as 53 = .ok (.invokevirtual 151, 3) := by decide +kernel
theorem dX12_as_56 : decode cX12_as 56 = .ok (.goto 8, 3) := by decide +kernel
theorem dX12_as_59 : decode cX12_as 59 = .ok (.aload_n 0, 1) := by decide +kernel
theorem dX12_as_60 : decode cX12_as 60 = .ok (.iconst 5, 1) := by decide +kernel
theorem dX12_as_61 : decode cX12_as 61 = .ok (.invokevirtual 131, 3) := by decide +kernel
theorem dX12_as_64 : decode cX12_as 64 = .ok (.ireturn, 1) := by decide +kernel
theorem dX12_isLate_0 : decode cX12_isLate 0 = .ok (.aload_n 0, 1) := by decide +kernel
theorem dX12_isLate_1 : decode cX12_isLate 1 = .ok (.getfield 7, 3) := by decide +kernel
theorem dX12_isLate_4 : decode cX12_isLate 4 = .ok (.iconst 1, 1) := by decide +kernel
theorem dX12_isLate_5 : decode cX12_isLate 5 = .ok (.iaload, 1) := by decide +kernel
theorem dX12_isLate_6 : decode cX12_isLate 6 = .ok (.iload_n 1, 1) := by decide +kernel
theorem dX12_isLate_7 : decode cX12_isLate 7 = .ok (.iadd, 1) := by decide +kernel
theorem dX12_isLate_8 : decode cX12_isLate 8 = .ok (.sipush 9999, 3) := by decide +kernel
theorem dX12_isLate_11 : decode cX12_isLate 11 = .ok (.if_icmp .le 7, 3) := by decide +kernel
theorem dX12_isLate_14 : decode cX12_isLate 14 = .ok (.iconst 1, 1) := by decide +kernel
theorem dX12_isLate_15 : decode cX12_isLate 15 = .ok (.goto 4, 3) := by decide +kernel
theorem dX12_isLate_18 : decode cX12_isLate 18 = .ok (.iconst 0, 1) := by decide +kernel
theorem dX12_isLate_19 : decode cX12_isLate 19 = .ok (.ireturn, 1) := by decide +kernel
set_option maxRecDepth 20000 in
theorem ggX12_hours_X12_in : GoodIn wsX12_hours wsX12_in := goodIn_r _ [6] (by decide +kernel) (by decide +kernel)
set_option maxRecDepth 20000 in
theorem gX12_hours_X12_in : GoodIn wsX12_hours (va_wsS RX12 50 yX12_in wsX12_in) := goodIn_app (goodIn_of _ (by decide +kernel)) ggX12_hours_X12_in
set_option maxRecDepth 20000 in
theorem ggX12_hours_X12_finds : GoodIn wsX12_hours wsX12_finds := goodIn_r _ [10, 11, 12, 88, 89, 90, 91, 92, 93, 94, 95, 96, 97, 98, 99, 100, 101, 102, 103, 104, 105, 106, 107, 108, 109, 110] (by decide +kernel) (by decide +kernel)
set_option maxRecDepth 20000 in
theorem gX12_hours_X12_finds : GoodIn wsX12_hours (wsV RX12 131 RX12 yX12_finds wsX12_finds) := goodIn_app (goodIn_of _ (by decide +kernel)) ggX12_hours_X12_finds
set_option maxRecDepth 20000 in
theorem ggX12_hours_X12_isLate : GoodIn wsX12_hours wsX12_isLate := goodIn_r _ [16, 2, 88, 89, 90, 91, 92, 93, 94, 95, 96, 97, 98, 99, 100, 101, 102, 103, 104, 105, 106, 107, 108, 109, 110] (by decide +kernel) (by decide +kernel)
set_option maxRecDepth 20000 in
theorem gX12_hours_X12_isLate : GoodIn wsX12_hours (wsV RX12 236 RX12 yX12_isLate wsX12_isLate) := goodIn_app (goodIn_of _ (by decide +kernel)) ggX12_hours_X12_isLate
set_option maxRecDepth 20000 in
theorem ggX12_hours_X12_hoursGo : GoodIn wsX12_hours wsX12_hoursGo := goodIn_r _ [20, 21, 22, 23, 5, 24, 2, 25, 26, 27, 28, 3, 4, 6, 29, 30, 31, 32, 33, 34, 35, 36, 37, 38, 39, 40, 41, 42, 43, 44, 45, 46, 47, 48, 49, 50, 51, 52, 53, 54, 55, 56, 57, 58, 59, 60, 61, 62, 63, 64, 65, 66, 67, 68, 69, 70, 71, 72, 73, 74, 75, 76, 77, 78, 79, 80, 81, 82, 83, 84, 85, 86, 87, 88, 89, 90, 91, 92, 93, 94, 95, 96, 97, 98, 99, 100, 101, 102, 103, 104, 105, 106, 107, 108, 109, 110] (by decide +kernel) (by decide +kernel)
set_option maxRecDepth 20000 in
theorem gX12_hours_X12_hoursGo : GoodIn wsX12_hours (wsV RX12 239 RX12 yX12_hoursGo wsX12_hoursGo) := goodIn_app (goodIn_of _ (by decide +kernel)) ggX12_hours_X12_hoursGo
theorem dX12_hours_0 : decode cX12_hours 0 = .ok (.iload_n 1, 1) := by decide +kernel
theorem dX12_hours_1 : decode cX12_hours 1 = .ok (.i2l, 1) := by decide +kernel
theorem dX12_hours_2 : decode cX12_hours 2 = .ok (.lconst 1, 1) := by decide +kernel
theorem dX12_hours_3 : decode cX12_hours 3 = .ok (.ldc2_w 234, 3) := by decide +kernel
theorem dX12_hours_6 : decode cX12_hours 6 = .ok (.invokestatic 50, 3) := by decide +kernel
theorem dX12_hours_9 : decode cX12_hours 9 = .ok (.ifCond .ne 9, 3) := by decide +kernel
theorem dX12_hours_12 : decode cX12_hours 12 = .ok (.aload_n 0, 1) := by decide +kernel
theorem dX12_hours_13 : decode cX12_hours 13 = .ok (.iconst 1, 1) := by decide +kernel
theorem dX12_hours_14 : decode cX12_hours 14 = .ok (.invokevirtual 131, 3) := by decide +kernel
theorem dX12_hours_17 : decode cX12_hours 17 = .ok (.ireturn, 1) := by decide +kernel
theorem dX12_hours_18 : decode cX12_hours 18 = .ok (.aload_n 0, 1) := by decide +kernel
theorem dX12_hours_19 : decode cX12_hours 19 = .ok (.iload_n 1, 1) := by decide +kernel
theorem dX12_hours_20 : decode cX12_hours 20 = .ok (.invokevirtual 236, 3) := by decide +kernel
theorem dX12_hours_23 : decode cX12_hours 23 = .ok (.ifCond .eq 9, 3) := by decide +kernel
theorem dX12_hours_26 : decode cX12_hours 26 = .ok (.aload_n 0, 1) := by decide +kernel
theorem dX12_hours_27 : decode cX12_hours 27 = .ok (.iconst 3, 1) := by decide +kernel
theorem dX12_hours_28 : decode cX12_hours 28 = .ok (.invokevirtual 131, 3) := by decide +kernel
theorem dX12_hours_31 : decode cX12_hours 31 = .ok (.ireturn, 1) := by decide +kernel
theorem dX12_hours_32 : decode cX12_hours 32 = .ok (.aload_n 0, 1) := by decide +kernel
theorem dX12_hours_33 : decode cX12_hours 33 = .ok (.iload_n 1, 1) := by decide +kernel
theorem dX12_hours_34 : decode cX12_hours 34 = .ok (.invokevirtual 239, 3) := by decide +kernel
theorem dX12_hours_37 : decode cX12_hours 37 = .ok (.aload_n 0, 1) := by decide +kernel
theorem dX12_hours_38 : decode cX12_hours 38 = .ok (.getfield 7, 3) := by decide +kernel
theorem dX12_hours_41 : decode cX12_hours 41 = .ok (.iconst 2, 1) := by decide +kernel
theorem dX12_hours_42 : decode cX12_hours 42 = .ok (.iaload, 1) := by decide +kernel
theorem dX12_hours_43 : decode cX12_hours 43 = .ok (.ireturn, 1) := by decide +kernel
theorem dX12_draw_0 : decode cX12_draw 0 = .ok (.aload_n 0, 1) := by decide +kernel
theorem dX12_draw_1 : decode cX12_draw 1 = .ok (.getfield 7, 3) := by decide +kernel
theorem dX12_draw_4 : decode cX12_draw 4 = .ok (.iconst 3, 1) := by decide +kernel
theorem dX12_draw_5 : decode cX12_draw 5 = .ok (.aload_n 0, 1) := by decide +kernel
theorem dX12_draw_6 : decode cX12_draw 6 = .ok (.getfield 7, 3) := by decide +kernel
theorem dX12_draw_9 : decode cX12_draw 9 = .ok (.iconst 3, 1) := by decide +kernel
theorem dX12_draw_10 : decode cX12_draw 10 = .ok (.iaload, 1) := by decide +kernel
theorem dX12_draw_11 : decode cX12_draw 11 = .ok (.ldc 242, 2) := by decide +kernel
theorem dX12_draw_13 : decode cX12_draw 13 = .ok (.imul, 1) := by decide +kernel
theorem dX12_draw_14 : decode cX12_draw 14 = .ok (.sipush 12345, 3) := by decide +kernel
theorem dX12_draw_17 : decode cX12_draw 17 = .ok (.iadd, 1) := by decide +kernel
theorem dX12_draw_18 : decode cX12_draw 18 = .ok (.iastore, 1) := by decide +kernel
theorem dX12_draw_19 : decode cX12_draw 19 = .ok (.aload_n 0, 1) := by decide +kernel
theorem dX12_draw_20 : decode cX12_draw 20 = .ok (.getfield 7, 3) := by decide +kernel
theorem dX12_draw_23 : decode cX12_draw 23 = .ok (.iconst 3, 1) := by decide +kernel
theorem dX12_draw_24 : decode cX12_draw 24 = .ok (.iaload, 1) := by decide +kernel
theorem dX12_draw_25 : decode cX12_draw 25 = .ok (.bipush 8, 2) := by decide +kernel
theorem dX12_draw_27 : decode cX12_draw 27 = .ok (.iushr, 1) := by decide +kernel
theorem dX12_draw_28 : decode cX12_draw 28 = .ok (.ireturn, 1) := by decide +kernel
set_option maxRecDepth 20000 in
theorem ggX12_loose_X12_in : GoodIn wsX12_loose wsX12_in := goodIn_r _ [6] (by decide +kernel) (by decide +kernel)
set_option maxRecDepth 20000 in
theorem gX12_loose_X12_in : GoodIn wsX12_loose (va_wsS RX12 50 yX12_in wsX12_in) := goodIn_app (goodIn_of _ (by decide +kernel)) ggX12_loose_X12_in
set_option maxRecDepth 20000 in
theorem ggX12_loose_X12_finds : GoodIn wsX12_loose wsX12_finds := goodIn_r _ [10, 11, 12, 89, 90, 91, 92, 93, 94, 95, 96, 97, 98, 99, 100, 101, 102, 103, 104, 105, 106, 107, 108, 109, 110, 111] (by decide +kernel) (by decide +kernel)
set_option maxRecDepth 20000 in
theorem gX12_loose_X12_finds : GoodIn wsX12_loose (wsV RX12 131 RX12 yX12_finds wsX12_finds) := goodIn_app (goodIn_of _ (by decide +kernel)) ggX12_loose_X12_finds
set_option maxRecDepth 20000 in
theorem ggX12_loose_X12_isLate : GoodIn wsX12_loose wsX12_isLate := goodIn_r _ [16, 2, 89, 90, 91, 92, 93, 94, 95, 96, 97, 98, 99, 100, 101, 102, 103, 104, 105, 106, 107, 108, 109, 110, 111] (by decide +kernel) (by decide +kernel)
set_option maxRecDepth 20000 in
theorem gX12_loose_X12_isLate : GoodIn wsX12_loose (wsV RX12 236 RX12 yX12_isLate wsX12_isLate) := goodIn_app (goodIn_of _ (by decide +kernel)) ggX12_loose_X12_isLate
set_option maxRecDepth 20000 in
theorem ggX12_loose_X12_draw : GoodIn wsX12_loose wsX12_draw := goodIn_r _ [20, 2, 21, 89, 90, 91, 92, 93, 94, 95, 96, 97, 98, 99, 100, 101, 102, 103, 104, 105, 106, 107, 108, 109, 110, 111] (by decide +kernel) (by decide +kernel)
set_option maxRecDepth 20000 in
theorem gX12_loose_X12_draw : GoodIn wsX12_loose (wsV RX12 245 RX12 yX12_draw wsX12_draw) := goodIn_app (goodIn_of _ (by decide +kernel)) ggX12_loose_X12_draw
set_option maxRecDepth 20000 in
theorem ggX12_loose_X12_hourGoes : GoodIn wsX12_loose wsX12_hourGoes := goodIn_r _ [25, 2, 26, 27, 28, 5, 29, 3, 4, 6, 30, 31, 32, 33, 34, 35, 36, 37, 38, 39, 40, 41, 42, 43, 44, 45, 46, 47, 48, 49, 50, 51, 52, 53, 54, 55, 56, 57, 58, 59, 60, 61, 62, 63, 64, 65, 66, 67, 68, 69, 70, 71, 72, 73, 74, 75, 76, 77, 78, 79, 80, 81, 82, 83, 84, 85, 86, 87, 88, 89, 90, 91, 92, 93, 94, 95, 96, 97, 98, 99, 100, 101, 102, 103, 104, 105, 106, 107, 108, 109, 110, 111] (by decide +kernel) (by decide +kernel)
set_option maxRecDepth 20000 in
theorem gX12_loose_X12_hourGoes : GoodIn wsX12_loose (wsV RX12 188 RX12 yX12_hourGoes wsX12_hourGoes) := goodIn_app (goodIn_of _ (by decide +kernel)) ggX12_loose_X12_hourGoes
theorem dX12_loose_0 : decode cX12_loose 0 = .ok (.iload_n 1, 1) := by decide +kernel
theorem dX12_loose_1 : decode cX12_loose 1 = .ok (.i2l, 1) := by decide +kernel
theorem dX12_loose_2 : decode cX12_loose 2 = .ok (.lconst 1, 1) := by decide +kernel
theorem dX12_loose_3 : decode cX12_loose 3 = .ok (.ldc2_w 243, 3) := by decide +kernel
theorem dX12_loose_6 : decode cX12_loose 6 = .ok (.invokestatic 50, 3) := by decide +kernel
theorem dX12_loose_9 : decode cX12_loose 9 = .ok (.ifCond .ne 9, 3) := by decide +kernel
theorem dX12_loose_12 : decode cX12_loose 12 = .ok (.aload_n 0, 1) := by decide +kernel
theorem dX12_loose_13 : decode cX12_loose 13 = .ok (.iconst 1, 1) := by decide +kernel
theorem dX12_loose_14 : decode cX12_loose 14 = .ok (.invokevirtual 131, 3) := by decide +kernel
theorem dX12_loose_17 : decode cX12_loose 17 = .ok (.ireturn, 1) := by decide +kernel
theorem dX12_loose_18 : decode cX12_loose 18 = .ok (.aload_n 0, 1) := by decide +kernel
theorem dX12_loose_19 : decode cX12_loose 19 = .ok (.iload_n 1, 1) := by decide +kernel
theorem dX12_loose_20 : decode cX12_loose 20 = .ok (.invokevirtual 236, 3) := by decide +kernel
theorem dX12_loose_23 : decode cX12_loose 23 = .ok (.ifCond .eq 9, 3) := by decide +kernel
theorem dX12_loose_26 : decode cX12_loose 26 = .ok (.aload_n 0, 1) := by decide +kernel
theorem dX12_loose_27 : decode cX12_loose 27 = .ok (.iconst 3, 1) := by decide +kernel
theorem dX12_loose_28 : decode cX12_loose 28 = .ok (.invokevirtual 131, 3) := by decide +kernel
theorem dX12_loose_31 : decode cX12_loose 31 = .ok (.ireturn, 1) := by decide +kernel
theorem dX12_loose_32 : decode cX12_loose 32 = .ok (.iconst 0, 1) := by decide +kernel
theorem dX12_loose_33 : decode cX12_loose 33 = .ok (.istore_n 2, 1) := by decide +kernel
theorem dX12_loose_34 : decode cX12_loose 34 = .ok (.iload_n 2, 1) := by decide +kernel
theorem dX12_loose_35 : decode cX12_loose 35 = .ok (.iload_n 1, 1) := by decide +kernel
theorem dX12_loose_36 : decode cX12_loose 36 = .ok (.if_icmp .ge 55, 3) := by decide +kernel
theorem dX12_loose_39 : decode cX12_loose 39 = .ok (.aload_n 0, 1) := by decide +kernel
theorem dX12_loose_40 : decode cX12_loose 40 = .ok (.getfield 7, 3) := by decide +kernel
theorem dX12_loose_43 : decode cX12_loose 43 = .ok (.iconst 1, 1) := by decide +kernel
theorem dX12_loose_44 : decode cX12_loose 44 = .ok (.iaload, 1) := by decide +kernel
theorem dX12_loose_45 : decode cX12_loose 45 = .ok (.bipush 6, 2) := by decide +kernel
theorem dX12_loose_47 : decode cX12_loose 47 = .ok (.irem, 1) := by decide +kernel
theorem dX12_loose_48 : decode cX12_loose 48 = .ok (.istore_n 3, 1) := by decide +kernel
theorem dX12_loose_49 : decode cX12_loose 49 = .ok (.aload_n 0, 1) := by decide +kernel
theorem dX12_loose_50 : decode cX12_loose 50 = .ok (.getfield 7, 3) := by decide +kernel
theorem dX12_loose_53 : decode cX12_loose 53 = .ok (.bipush 18, 2) := by decide +kernel
theorem dX12_loose_55 : decode cX12_loose 55 = .ok (.iload_n 3, 1) := by decide +kernel
theorem dX12_loose_56 : decode cX12_loose 56 = .ok (.iadd, 1) := by decide +kernel
theorem dX12_loose_57 : decode cX12_loose 57 = .ok (.aload_n 0, 1) := by decide +kernel
theorem dX12_loose_58 : decode cX12_loose 58 = .ok (.invokevirtual 245, 3) := by decide +kernel
theorem dX12_loose_61 : decode cX12_loose 61 = .ok (.bipush 8, 2) := by decide +kernel
theorem dX12_loose_63 : decode cX12_loose 63 = .ok (.irem, 1) := by decide +kernel
theorem dX12_loose_64 : decode cX12_loose 64 = .ok (.iastore, 1) := by decide +kernel
theorem dX12_loose_65 : decode cX12_loose 65 = .ok (.aload_n 0, 1) := by decide +kernel
theorem dX12_loose_66 : decode cX12_loose 66 = .ok (.getfield 7, 3) := by decide +kernel
theorem dX12_loose_69 : decode cX12_loose 69 = .ok (.bipush 24, 2) := by decide +kernel
theorem dX12_loose_71 : decode cX12_loose 71 = .ok (.iload_n 3, 1) := by decide +kernel
theorem dX12_loose_72 : decode cX12_loose 72 = .ok (.iadd, 1) := by decide +kernel
theorem dX12_loose_73 : decode cX12_loose 73 = .ok (.aload_n 0, 1) := by decide +kernel
theorem dX12_loose_74 : decode cX12_loose 74 = .ok (.invokevirtual 245, 3) := by decide +kernel
theorem dX12_loose_77 : decode cX12_loose 77 = .ok (.bipush 12, 2) := by decide +kernel
theorem dX12_loose_79 : decode cX12_loose 79 = .ok (.irem, 1) := by decide +kernel
theorem dX12_loose_80 : decode cX12_loose 80 = .ok (.iastore, 1) := by decide +kernel
theorem dX12_loose_81 : decode cX12_loose 81 = .ok (.aload_n 0, 1) := by decide +kernel
theorem dX12_loose_82 : decode cX12_loose 82 = .ok (.invokevirtual 188, 3) := by decide +kernel
theorem dX12_loose_85 : decode cX12_loose 85 = .ok (.iinc 2 1, 3) := by decide +kernel
theorem dX12_loose_88 : decode cX12_loose 88 = .ok (.goto (-54), 3) := by decide +kernel
theorem dX12_loose_91 : decode cX12_loose 91 = .ok (.aload_n 0, 1) := by decide +kernel
theorem dX12_loose_92 : decode cX12_loose 92 = .ok (.getfield 7, 3) := by decide +kernel
theorem dX12_loose_95 : decode cX12_loose 95 = .ok (.iconst 2, 1) := by decide +kernel
theorem dX12_loose_96 : decode cX12_loose 96 = .ok (.iaload, 1) := by decide +kernel
theorem dX12_loose_97 : decode cX12_loose 97 = .ok (.ireturn, 1) := by decide +kernel
set_option maxRecDepth 20000 in
theorem ggX12_seed_X12_becomes : GoodIn wsX12_seed wsX12_becomes := goodIn_r _ [5, 6, 7, 8, 9, 10, 11, 12, 13, 14, 15, 16, 17, 18, 19, 20, 21, 22, 23, 24, 25, 26, 27, 28, 29] (by decide +kernel) (by decide +kernel)
set_option maxRecDepth 20000 in
theorem gX12_seed_X12_becomes : GoodIn wsX12_seed (wsV RX12 196 RX12 yX12_becomes wsX12_becomes) := goodIn_app (goodIn_of _ (by decide +kernel)) ggX12_seed_X12_becomes
theorem dX12_seed_0 : decode cX12_seed 0 = .ok (.aload_n 0, 1) := by decide +kernel
theorem dX12_seed_1 : decode cX12_seed 1 = .ok (.iconst 3, 1) := by decide +kernel
theorem dX12_seed_2 : decode cX12_seed 2 = .ok (.iload_n 1, 1) := by decide +kernel
theorem dX12_seed_3 : decode cX12_seed 3 = .ok (.invokevirtual 196, 3) := by decide +kernel
theorem dX12_seed_6 : decode cX12_seed 6 = .ok (.ireturn, 1) := by decide +kernel
set_option maxRecDepth 20000 in
theorem ggX12_isAhead_X12_in : GoodIn wsX12_isAhead wsX12_in := goodIn_r _ [5] (by decide +kernel) (by decide +kernel)
set_option maxRecDepth 20000 in
theorem gX12_isAhead_X12_in : GoodIn wsX12_isAhead (va_wsS RX12 50 yX12_in wsX12_in) := goodIn_app (goodIn_of _ (by decide +kernel)) ggX12_isAhead_X12_in
theorem dX12_isAhead_0 : decode cX12_isAhead 0 = .ok (.iload_n 0, 1) := by decide +kernel
theorem dX12_isAhead_1 : decode cX12_isAhead 1 = .ok (.i2l, 1) := by decide +kernel
theorem dX12_isAhead_2 : decode cX12_isAhead 2 = .ok (.lconst 0, 1) := by decide +kernel
theorem dX12_isAhead_3 : decode cX12_isAhead 3 = .ok (.ldc2_w 234, 3) := by decide +kernel
theorem dX12_isAhead_6 : decode cX12_isAhead 6 = .ok (.invokestatic 50, 3) := by decide +kernel
theorem dX12_isAhead_9 : decode cX12_isAhead 9 = .ok (.ireturn, 1) := by decide +kernel
set_option maxRecDepth 20000 in
theorem ggX12_then_X12_isAhead : GoodIn wsX12_then wsX12_isAhead := goodIn_r _ [4, 5, 6, 7, 3, 8] (by decide +kernel) (by decide +kernel)
set_option maxRecDepth 20000 in
theorem gX12_then_X12_isAhead : GoodIn wsX12_then (va_wsS RX12 248 yX12_isAhead wsX12_isAhead) := goodIn_app (goodIn_of _ (by decide +kernel)) ggX12_then_X12_isAhead
set_option maxRecDepth 20000 in
theorem ggX12_then_X12_isSpoon : GoodIn wsX12_then wsX12_isSpoon := goodIn_r _ [12, 13, 6, 7, 3, 8, 96, 97, 98, 99, 100, 101, 102, 103, 104, 105, 106, 107, 108, 109, 110, 111, 112, 113, 114, 115, 116, 117, 118] (by decide +kernel) (by decide +kernel)
set_option maxRecDepth 20000 in
theorem gX12_then_X12_isSpoon : GoodIn wsX12_then (wsV RX12 178 RX12 yX12_isSpoon wsX12_isSpoon) := goodIn_app (goodIn_of _ (by decide +kernel)) ggX12_then_X12_isSpoon
set_option maxRecDepth 20000 in
theorem ggX12_then_X12_in : GoodIn wsX12_then wsX12_in := goodIn_r _ [8] (by decide +kernel) (by decide +kernel)
set_option maxRecDepth 20000 in
theorem gX12_then_X12_in : GoodIn wsX12_then (va_wsS RX12 50 yX12_in wsX12_in) := goodIn_app (goodIn_of _ (by decide +kernel)) ggX12_then_X12_in
set_option maxRecDepth 20000 in
theorem ggX12_then_X12_finds : GoodIn wsX12_then wsX12_finds := goodIn_r _ [17, 18, 19, 96, 97, 98, 99, 100, 101, 102, 103, 104, 105, 106, 107, 108, 109, 110, 111, 112, 113, 114, 115, 116, 117, 118] (by decide +kernel) (by decide +kernel)
set_option maxRecDepth 20000 in
theorem gX12_then_X12_finds : GoodIn wsX12_then (wsV RX12 131 RX12 yX12_finds wsX12_finds) := goodIn_app (goodIn_of _ (by decide +kernel)) ggX12_then_X12_finds
set_option maxRecDepth 20000 in
theorem ggX12_then_X12_keepAside : GoodIn wsX12_then wsX12_keepAside := goodIn_r _ [23, 24, 13, 96, 97, 98, 99, 100, 101, 102, 103, 104, 105, 106, 107, 108, 109, 110, 111, 112, 113, 114, 115, 116, 117, 118] (by decide +kernel) (by decide +kernel)
set_option maxRecDepth 20000 in
theorem gX12_then_X12_keepAside : GoodIn wsX12_then (wsV RX12 251 RX12 yX12_keepAside wsX12_keepAside) := goodIn_app (goodIn_of _ (by decide +kernel)) ggX12_then_X12_keepAside
set_option maxRecDepth 20000 in
theorem ggX12_then_X12_hoursGo : GoodIn wsX12_then wsX12_hoursGo := goodIn_r _ [28, 29, 30, 31, 3, 32, 13, 9, 10, 11, 12, 6, 7, 8, 33, 34, 35, 36, 37, 38, 39, 40, 41, 42, 43, 44, 45, 46, 47, 48, 49, 50, 51, 52, 53, 54, 55, 56, 57, 58, 59, 60, 61, 62, 63, 64, 65, 66, 67, 68, 69, 70, 71, 72, 73, 74, 75, 76, 77, 78, 79, 80, 81, 82, 83, 84, 85, 86, 87, 88, 89, 90, 91, 96, 97, 98, 99, 100, 101, 102, 103, 104, 105, 106, 107, 108, 109, 110, 111, 112, 113, 114, 115, 116, 117, 118] (by decide +kernel) (by decide +kernel)
set_option maxRecDepth 20000 in
theorem gX12_then_X12_hoursGo : GoodIn wsX12_then (wsV RX12 239 RX12 yX12_hoursGo wsX12_hoursGo) := goodIn_app (goodIn_of _ (by decide +kernel)) ggX12_then_X12_hoursGo
set_option maxRecDepth 20000 in
theorem ggX12_then_X12_of : GoodIn wsX12_then wsX12_of := goodIn_r _ [40, 13, 96, 97, 98, 99, 100, 101, 102, 103, 104, 105, 106, 107, 108, 109, 110, 111, 112, 113, 114, 115, 116, 117, 118] (by decide +kernel) (by decide +kernel)
set_option maxRecDepth 20000 in
theorem gX12_then_X12_of : GoodIn wsX12_then (wsV RX12 151 RX12 yX12_of wsX12_of) := goodIn_app (goodIn_of _ (by decide +kernel)) ggX12_then_X12_of
set_option maxRecDepth 20000 in
theorem ggX12_then_X12_on : GoodIn wsX12_then wsX12_on := goodIn_r _ [76, 37, 38, 39, 3, 40, 13, 96, 97, 98, 99, 100, 101, 102, 103, 104, 105, 106, 107, 108, 109, 110, 111, 112, 113, 114, 115, 116, 117, 118] (by decide +kernel) (by decide +kernel)
set_option maxRecDepth 20000 in
theorem gX12_then_X12_on : GoodIn wsX12_then (wsV RX12 154 RX12 yX12_on wsX12_on) := goodIn_app (goodIn_of _ (by decide +kernel)) ggX12_then_X12_on
set_option maxRecDepth 20000 in
theorem ggX12_then_X12_putBack : GoodIn wsX12_then wsX12_putBack := goodIn_r _ [95, 13, 24, 96, 97, 98, 99, 100, 101, 102, 103, 104, 105, 106, 107, 108, 109, 110, 111, 112, 113, 114, 115, 116, 117, 118] (by decide +kernel) (by decide +kernel)
set_option maxRecDepth 20000 in
theorem gX12_then_X12_putBack : GoodIn wsX12_then (wsV RX12 254 RX12 yX12_putBack wsX12_putBack) := goodIn_app (goodIn_of _ (by decide +kernel)) ggX12_then_X12_putBack
theorem dX12_then_0 : decode cX12_then 0 = .ok (.iload_n 1, 1) := by decide +kernel
theorem dX12_then_1 : decode cX12_then 1 = .ok (.invokestatic 248, 3) := by decide +kernel
theorem dX12_then_4 : decode cX12_then 4 = .ok (.ifCond .eq 21, 3) := by decide +kernel
theorem dX12_then_7 : decode cX12_then 7 = .ok (.aload_n 0, 1) := by decide +kernel
theorem dX12_then_8 : decode cX12_then 8 = .ok (.iload_n 2, 1) := by decide +kernel
theorem dX12_then_9 : decode cX12_then 9 = .ok (.invokevirtual 178, 3) := by decide +kernel
theorem dX12_then_12 : decode cX12_then 12 = .ok (.ifCond .eq 13, 3) := by decide +kernel
theorem dX12_then_15 : decode cX12_then 15 = .ok (.iload_n 3, 1) := by decide +kernel
theorem dX12_then_16 : decode cX12_then 16 = .ok (.i2l, 1) := by decide +kernel
theorem dX12_then_17 : decode cX12_then 17 = .ok (.lconst 0, 1) := by decide +kernel
theorem dX12_then_18 : decode cX12_then 18 = .ok (.lconst 1, 1) := by decide +kernel
theorem dX12_then_19 : decode cX12_then 19 = .ok (.invokestatic 50, 3) := by decide +kernel
theorem dX12_then_22 : decode cX12_then 22 = .ok (.ifCond .ne 9, 3) := by decide +kernel
theorem dX12_then_25 : decode cX12_then 25 = .ok (.aload_n 0, 1) := by decide +kernel
theorem dX12_then_26 : decode cX12_then 26 = .ok (.iconst 1, 1) := by decide +kernel
theorem dX12_then_27 : decode cX12_then 27 = .ok (.invokevirtual 131, 3) := by decide +kernel
theorem dX12_then_30 : decode cX12_then 30 = .ok (.ireturn, 1) := by decide +kernel
theorem dX12_then_31 : decode cX12_then 31 = .ok (.aload_n 0, 1) := by decide +kernel
theorem dX12_then_32 : decode cX12_then 32 = .ok (.invokevirtual 251, 3) := by decide +kernel
theorem dX12_then_35 : decode cX12_then 35 = .ok (.aload_n 0, 1) := by decide +kernel
theorem dX12_then_36 : decode cX12_then 36 = .ok (.iload_n 1, 1) := by decide +kernel
theorem dX12_then_37 : decode cX12_then 37 = .ok (.invokevirtual 239, 3) := by decide +kernel
theorem dX12_then_40 : decode cX12_then 40 = .ok (.iload_n 3, 1) := by decide +kernel
theorem dX12_then_41 : decode cX12_then 41 = .ok (.ifCond .ne 12, 3) := by decide +kernel
theorem dX12_then_44 : decode cX12_then 44 = .ok (.aload_n 0, 1) := by decide +kernel
theorem dX12_then_45 : decode cX12_then 45 = .ok (.iload_n 2, 1) := by decide +kernel
theorem dX12_then_46 : decode cX12_then 46 = .ok (.iconst 2, 1) := by decide +kernel
theorem dX12_then_47 : decode cX12_then 47 = .ok (.invokevirtual 151, 3) := by decide +kernel
theorem dX12_then_50 : decode cX12_then 50 = .ok (.goto 8, 3) := by decide +kernel
theorem dX12_then_53 : decode cX12_then 53 = .ok (.aload_n 0, 1) := by decide +kernel
theorem dX12_then_54 : decode cX12_then 54 = .ok (.iload_n 2, 1) := by decide +kernel
theorem dX12_then_55 : decode cX12_then 55 = .ok (.invokevirtual 154, 3) := by decide +kernel
theorem dX12_then_58 : decode cX12_then 58 = .ok (.istore 4, 2) := by decide +kernel
theorem dX12_then_60 : decode cX12_then 60 = .ok (.aload_n 0, 1) := by decide +kernel
theorem dX12_then_61 : decode cX12_then 61 = .ok (.invokevirtual 254, 3) := by decide +kernel
theorem dX12_then_64 : decode cX12_then 64 = .ok (.iload 4, 2) := by decide +kernel
theorem dX12_then_66 : decode cX12_then 66 = .ok (.ireturn, 1) := by decide +kernel
set_option maxRecDepth 20000 in
theorem ggX12_spreadsBehind_X12_hoursGo : GoodIn wsX12_spreadsBehind wsX12_hoursGo := goodIn_r _ [6, 7, 8, 9, 5, 10, 1, 11, 12, 13, 14, 15, 16, 17, 18, 19, 20, 21, 22, 23, 24, 25, 26, 27, 28, 29, 30, 31, 32, 33, 34, 35, 36, 37, 38, 39, 40, 41, 42, 43, 44, 45, 46, 47, 48, 49, 50, 51, 52, 53, 54, 55, 56, 57, 58, 59, 60, 61, 62, 63, 64, 65, 66, 67, 68, 69, 70, 71, 72, 73, 74, 75, 76, 82, 83, 84, 85, 86, 87, 88, 89, 90, 91, 92, 93, 94, 95, 96, 97, 98, 99, 100, 101, 102, 103, 104] (by decide +kernel) (by decide +kernel)
set_option maxRecDepth 20000 in
theorem gX12_spreadsBehind_X12_hoursGo : GoodIn wsX12_spreadsBehind (wsV RX12 239 RX12 yX12_hoursGo wsX12_hoursGo) := goodIn_app (goodIn_of _ (by decide +kernel)) ggX12_spreadsBehind_X12_hoursGo
set_option maxRecDepth 20000 in
theorem ggX12_spreadsBehind_X12_ones : GoodIn wsX12_spreadsBehind wsX12_ones := goodIn_r _ [72] (by decide +kernel) (by decide +kernel)
set_option maxRecDepth 20000 in
theorem gX12_spreadsBehind_X12_ones : GoodIn wsX12_spreadsBehind (va_wsS RX12 157 yX12_ones wsX12_ones) := goodIn_app (goodIn_of _ (by decide +kernel)) ggX12_spreadsBehind_X12_ones
set_option maxRecDepth 20000 in
theorem ggX12_spreadsBehind_X12_putBack : GoodIn wsX12_spreadsBehind wsX12_putBack := goodIn_r _ [80, 1, 81, 82, 83, 84, 85, 86, 87, 88, 89, 90, 91, 92, 93, 94, 95, 96, 97, 98, 99, 100, 101, 102, 103, 104] (by decide +kernel) (by decide +kernel)
set_option maxRecDepth 20000 in
theorem gX12_spreadsBehind_X12_putBack : GoodIn wsX12_spreadsBehind (wsV RX12 254 RX12 yX12_putBack wsX12_putBack) := goodIn_app (goodIn_of _ (by decide +kernel)) ggX12_spreadsBehind_X12_putBack
theorem dX12_spreadsBehind_0 : decode cX12_spreadsBehind 0 = .ok (.aload_n 0, 1) := by decide +kernel
theorem dX12_spreadsBehind_1 : decode cX12_spreadsBehind 1 = .ok (.iload_n 1, 1) := by decide +kernel
theorem dX12_spreadsBehind_2 : decode cX12_spreadsBehind 2 = .ok (.invokevirtual 239, 3) := by decide +kernel
theorem dX12_spreadsBehind_5 : decode cX12_spreadsBehind 5 = .ok (.aload_n 0, 1) := by decide +kernel
theorem dX12_spreadsBehind_6 : decode cX12_spreadsBehind 6 = .ok (.getfield 7, 3) := by decide +kernel
theorem dX12_spreadsBehind_9 : decode cX12_spreadsBehind 9 = .ok (.iconst 2, 1) := by decide +kernel
theorem dX12_spreadsBehind_10 : decode cX12_spreadsBehind 10 = .ok (.iaload, 1) := by decide +kernel
theorem dX12_spreadsBehind_11 : decode cX12_spreadsBehind 11 = .ok (.invokestatic 157, 3) := by decide +kernel
theorem dX12_spreadsBehind_14 : decode cX12_spreadsBehind 14 = .ok (.istore_n 2, 1) := by decide +kernel
theorem dX12_spreadsBehind_15 : decode cX12_spreadsBehind 15 = .ok (.aload_n 0, 1) := by decide +kernel
theorem dX12_spreadsBehind_16 : decode cX12_spreadsBehind 16 = .ok (.invokevirtual 254, 3) := by decide +kernel
theorem dX12_spreadsBehind_19 : decode cX12_spreadsBehind 19 = .ok (.iload_n 2, 1) := by decide +kernel
theorem dX12_spreadsBehind_20 : decode cX12_spreadsBehind 20 = .ok (.ireturn, 1) := by decide +kernel
set_option maxRecDepth 20000 in
theorem ggX12_spreads_X12_isAhead : GoodIn wsX12_spreads wsX12_isAhead := goodIn_r _ [4, 5, 6, 7, 3, 8] (by decide +kernel) (by decide +kernel)
set_option maxRecDepth 20000 in
theorem gX12_spreads_X12_isAhead : GoodIn wsX12_spreads (va_wsS RX12 248 yX12_isAhead wsX12_isAhead) := goodIn_app (goodIn_of _ (by decide +kernel)) ggX12_spreads_X12_isAhead
set_option maxRecDepth 20000 in
theorem ggX12_spreads_X12_finds : GoodIn wsX12_spreads wsX12_finds := goodIn_r _ [12, 13, 14, 100, 101, 102, 103, 104, 105, 106, 107, 108, 109, 110, 111, 112, 113, 114, 115, 116, 117, 118, 119, 120, 121, 122] (by decide +kernel) (by decide +kernel)
set_option maxRecDepth 20000 in
theorem gX12_spreads_X12_finds : GoodIn wsX12_spreads (wsV RX12 131 RX12 yX12_finds wsX12_finds) := goodIn_app (goodIn_of _ (by decide +kernel)) ggX12_spreads_X12_finds
set_option maxRecDepth 20000 in
theorem ggX12_spreads_X12_keepAside : GoodIn wsX12_spreads wsX12_keepAside := goodIn_r _ [18, 19, 20, 100, 101, 102, 103, 104, 105, 106, 107, 108, 109, 110, 111, 112, 113, 114, 115, 116, 117, 118, 119, 120, 121, 122] (by decide +kernel) (by decide +kernel)
set_option maxRecDepth 20000 in
theorem gX12_spreads_X12_keepAside : GoodIn wsX12_spreads (wsV RX12 251 RX12 yX12_keepAside wsX12_keepAside) := goodIn_app (goodIn_of _ (by decide +kernel)) ggX12_spreads_X12_keepAside
set_option maxRecDepth 20000 in
theorem ggX12_spreads_X12_spreadsBehind : GoodIn wsX12_spreads wsX12_spreadsBehind := goodIn_r _ [24, 20, 25, 26, 27, 3, 28, 29, 30, 31, 32, 33, 34, 35, 36, 6, 7, 8, 37, 38, 39, 40, 41, 42, 43, 44, 45, 46, 47, 48, 49, 50, 51, 52, 53, 54, 55, 56, 57, 58, 59, 60, 61, 62, 63, 64, 65, 66, 67, 68, 69, 70, 71, 72, 73, 74, 75, 76, 77, 78, 79, 80, 81, 82, 83, 84, 85, 86, 87, 88, 89, 90, 91, 92, 93, 94, 95, 96, 97, 98, 99, 19, 100, 101, 102, 103, 104, 105, 106, 107, 108, 109, 110, 111, 112, 113, 114, 115, 116, 117, 118, 119, 120, 121, 122] (by decide +kernel) (by decide +kernel)
set_option maxRecDepth 20000 in
theorem gX12_spreads_X12_spreadsBehind : GoodIn wsX12_spreads (wsV RX12 257 RX12 yX12_spreadsBehind wsX12_spreadsBehind) := goodIn_app (goodIn_of _ (by decide +kernel)) ggX12_spreads_X12_spreadsBehind
theorem dX12_spreads_0 : decode cX12_spreads 0 = .ok (.iload_n 1, 1) := by decide +kernel
theorem dX12_spreads_1 : decode cX12_spreads 1 = .ok (.invokestatic 248, 3) := by decide +kernel
theorem dX12_spreads_4 : decode cX12_spreads 4 = .ok (.ifCond .ne 9, 3) := by decide +kernel
theorem dX12_spreads_7 : decode cX12_spreads 7 = .ok (.aload_n 0, 1) := by decide +kernel
theorem dX12_spreads_8 : decode cX12_spreads 8 = .ok (.iconst 1, 1) := by decide +kernel
theorem dX12_spreads_9 : decode cX12_spreads 9 = .ok (.invokevirtual 131, 3) := by decide +kernel
theorem dX12_spreads_12 : decode cX12_spreads 12 = .ok (.ireturn, 1) := by decide +kernel
theorem dX12_spreads_13 : decode cX12_spreads 13 = .ok (.aload_n 0, 1) := by decide +kernel
theorem dX12_spreads_14 : decode cX12_spreads 14 = .ok (.invokevirtual 251, 3) := by decide +kernel
theorem dX12_spreads_17 : decode cX12_spreads 17 = .ok (.aload_n 0, 1) := by decide +kernel
theorem dX12_spreads_18 : decode cX12_spreads 18 = .ok (.iload_n 1, 1) := by decide +kernel
theorem dX12_spreads_19 : decode cX12_spreads 19 = .ok (.invokevirtual 257, 3) := by decide +kernel
theorem dX12_spreads_22 : decode cX12_spreads 22 = .ok (.ireturn, 1) := by decide +kernel
set_option maxRecDepth 20000 in
theorem ggX12_when_X12_isWord : GoodIn wsX12_when wsX12_isWord := goodIn_r _ [5, 6, 7, 8, 4, 9] (by decide +kernel) (by decide +kernel)
set_option maxRecDepth 20000 in
theorem gX12_when_X12_isWord : GoodIn wsX12_when (va_wsS RX12 191 yX12_isWord wsX12_isWord) := goodIn_app (goodIn_of _ (by decide +kernel)) ggX12_when_X12_isWord
set_option maxRecDepth 20000 in
theorem ggX12_when_X12_finds : GoodIn wsX12_when wsX12_finds := goodIn_r _ [13, 14, 15, 92, 93, 94, 95, 96, 97, 98, 99, 100, 101, 102, 103, 104, 105, 106, 107, 108, 109, 110, 111, 112, 113, 114] (by decide +kernel) (by decide +kernel)
set_option maxRecDepth 20000 in
theorem gX12_when_X12_finds : GoodIn wsX12_when (wsV RX12 131 RX12 yX12_finds wsX12_finds) := goodIn_app (goodIn_of _ (by decide +kernel)) ggX12_when_X12_finds
set_option maxRecDepth 20000 in
theorem ggX12_when_X12_keepAside : GoodIn wsX12_when wsX12_keepAside := goodIn_r _ [19, 20, 1, 92, 93, 94, 95, 96, 97, 98, 99, 100, 101, 102, 103, 104, 105, 106, 107, 108, 109, 110, 111, 112, 113, 114] (by decide +kernel) (by decide +kernel)
set_option maxRecDepth 20000 in
theorem gX12_when_X12_keepAside : GoodIn wsX12_when (wsV RX12 251 RX12 yX12_keepAside wsX12_keepAside) := goodIn_app (goodIn_of _ (by decide +kernel)) ggX12_when_X12_keepAside
set_option maxRecDepth 20000 in
theorem ggX12_when_X12_hourGoes : GoodIn wsX12_when wsX12_hourGoes := goodIn_r _ [24, 1, 25, 26, 27, 4, 28, 7, 8, 9, 29, 30, 31, 32, 33, 34, 35, 36, 37, 38, 39, 40, 41, 42, 43, 44, 45, 46, 47, 48, 49, 50, 51, 52, 53, 54, 55, 56, 57, 58, 59, 60, 61, 62, 63, 64, 65, 66, 67, 68, 69, 70, 71, 72, 73, 74, 75, 76, 77, 78, 79, 80, 81, 82, 83, 84, 85, 86, 87, 92, 93, 94, 95, 96, 97, 98, 99, 100, 101, 102, 103, 104, 105, 106, 107, 108, 109, 110, 111, 112, 113, 114] (by decide +kernel) (by decide +kernel)
set_option maxRecDepth 20000 in
theorem gX12_when_X12_hourGoes : GoodIn wsX12_when (wsV RX12 188 RX12 yX12_hourGoes wsX12_hourGoes) := goodIn_app (goodIn_of _ (by decide +kernel)) ggX12_when_X12_hourGoes
set_option maxRecDepth 20000 in
theorem ggX12_when_X12_putBack : GoodIn wsX12_when wsX12_putBack := goodIn_r _ [91, 1, 20, 92, 93, 94, 95, 96, 97, 98, 99, 100, 101, 102, 103, 104, 105, 106, 107, 108, 109, 110, 111, 112, 113, 114] (by decide +kernel) (by decide +kernel)
set_option maxRecDepth 20000 in
theorem gX12_when_X12_putBack : GoodIn wsX12_when (wsV RX12 254 RX12 yX12_putBack wsX12_putBack) := goodIn_app (goodIn_of _ (by decide +kernel)) ggX12_when_X12_putBack
theorem dX12_when_0 : decode cX12_when 0 = .ok (.iload_n 1, 1) := by decide +kernel
theorem dX12_when_1 : decode cX12_when 1 = .ok (.invokestatic 191, 3) := by decide +kernel
theorem dX12_when_4 : decode cX12_when 4 = .ok (.ifCond .ne 9, 3) := by decide +kernel
theorem dX12_when_7 : decode cX12_when 7 = .ok (.aload_n 0, 1) := by decide +kernel
theorem dX12_when_8 : decode cX12_when 8 = .ok (.iconst 1, 1) := by decide +kernel
theorem dX12_when_9 : decode cX12_when 9 = .ok (.invokevirtual 131, 3) := by decide +kernel
theorem dX12_when_12 : decode cX12_when 12 = .ok (.ireturn, 1) := by decide +kernel
theorem dX12_when_13 : decode cX12_when 13 = .ok (.aload_n 0, 1) := by decide +kernel
theorem dX12_when_14 : decode cX12_when 14 = .ok (.invokevirtual 251, 3) := by decide +kernel
theorem dX12_when_17 : decode cX12_when 17 = .ok (.iconst 0, 1) := by decide +kernel
theorem dX12_when_18 : decode cX12_when 18 = .ok (.istore_n 2, 1) := by decide +kernel
theorem dX12_when_19 : decode cX12_when 19 = .ok (.iload_n 2, 1) := by decide +kernel
theorem dX12_when_20 : decode cX12_when 20 = .ok (.bipush 60, 2) := by decide +kernel
theorem dX12_when_22 : decode cX12_when 22 = .ok (.if_icmp .ge 26, 3) := by decide +kernel
theorem dX12_when_25 : decode cX12_when 25 = .ok (.aload_n 0, 1) := by decide +kernel
theorem dX12_when_26 : decode cX12_when 26 = .ok (.getfield 7, 3) := by decide +kernel
theorem dX12_when_29 : decode cX12_when 29 = .ok (.iconst 2, 1) := by decide +kernel
theorem dX12_when_30 : decode cX12_when 30 = .ok (.iaload, 1) := by decide +kernel
theorem dX12_when_31 : decode cX12_when 31 = .ok (.iload_n 1, 1) := by decide +kernel
theorem dX12_when_32 : decode cX12_when 32 = .ok (.ishr, 1) := by decide +kernel
theorem dX12_when_33 : decode cX12_when 33 = .ok (.iconst 1, 1) := by decide +kernel
theorem dX12_when_34 : decode cX12_when 34 = .ok (.iand, 1) := by decide +kernel
theorem dX12_when_35 : decode cX12_when 35 = .ok (.ifCond .ne 13, 3) := by decide +kernel
theorem dX12_when_38 : decode cX12_when 38 = .ok (.aload_n 0, 1) := by decide +kernel
theorem dX12_when_39 : decode cX12_when 39 = .ok (.invokevirtual 188, 3) := by decide +kernel
theorem dX12_when_42 : decode cX12_when 42 = .ok (.iinc 2 1, 3) := by decide +kernel
theorem dX12_when_45 : decode cX12_when 45 = .ok (.goto (-26), 3) := by decide +kernel
theorem dX12_when_48 : decode cX12_when 48 = .ok (.aload_n 0, 1) := by decide +kernel
theorem dX12_when_49 : decode cX12_when 49 = .ok (.getfield 7, 3) := by decide +kernel
theorem dX12_when_52 : decode cX12_when 52 = .ok (.iconst 2, 1) := by decide +kernel
theorem dX12_when_53 : decode cX12_when 53 = .ok (.iaload, 1) := by decide +kernel
theorem dX12_when_54 : decode cX12_when 54 = .ok (.iload_n 1, 1) := by decide +kernel
theorem dX12_when_55 : decode cX12_when 55 = .ok (.ishr, 1) := by decide +kernel
theorem dX12_when_56 : decode cX12_when 56 = .ok (.iconst 1, 1) := by decide +kernel
theorem dX12_when_57 : decode cX12_when 57 = .ok (.iand, 1) := by decide +kernel
theorem dX12_when_58 : decode cX12_when 58 = .ok (.iconst 1, 1) := by decide +kernel
theorem dX12_when_59 : decode cX12_when 59 = .ok (.if_icmp .ne 7, 3) := by decide +kernel
theorem dX12_when_62 : decode cX12_when 62 = .ok (.iconst 1, 1) := by decide +kernel
theorem dX12_when_63 : decode cX12_when 63 = .ok (.goto 4, 3) := by decide +kernel
theorem dX12_when_66 : decode cX12_when 66 = .ok (.iconst 0, 1) := by decide +kernel
theorem dX12_when_67 : decode cX12_when 67 = .ok (.istore_n 3, 1) := by decide +kernel
theorem dX12_when_68 : decode cX12_when 68 = .ok (.aload_n 0, 1) := by decide +kernel
theorem dX12_when_69 : decode cX12_when 69 = .ok (.invokevirtual 254, 3) := by decide +kernel
theorem dX12_when_72 : decode cX12_when 72 = .ok (.iload_n 3, 1) := by decide +kernel
theorem dX12_when_73 : decode cX12_when 73 = .ok (.ifCond .eq 7, 3) := by decide +kernel
theorem dX12_when_76 : decode cX12_when 76 = .ok (.iload_n 2, 1) := by decide +kernel
theorem dX12_when_77 : decode cX12_when 77 = .ok (.goto 8, 3) := by decide +kernel
theorem dX12_when_80 : decode cX12_when 80 = .ok (.aload_n 0, 1) := by decide +kernel
theorem dX12_when_81 : decode cX12_when 81 = .ok (.iconst 2, 1) := by decide +kernel
theorem dX12_when_82 : decode cX12_when 82 = .ok (.invokevirtual 131, 3) := by decide +kernel
theorem dX12_when_85 : decode cX12_when 85 = .ok (.ireturn, 1) := by decide +kernel
set_option maxRecDepth 20000 in
theorem ggX12_lasts_X12_isSpoon : GoodIn wsX12_lasts wsX12_isSpoon := goodIn_r _ [5, 6, 7, 8, 4, 9, 88, 89, 90, 91, 92, 93, 94, 95, 96, 97, 98, 99, 100, 101, 102, 103, 104, 105, 106, 107, 108, 109, 110] (by decide +kernel) (by decide +kernel)
set_option maxRecDepth 20000 in
theorem gX12_lasts_X12_isSpoon : GoodIn wsX12_lasts (wsV RX12 178 RX12 yX12_isSpoon wsX12_isSpoon) := goodIn_app (goodIn_of _ (by decide +kernel)) ggX12_lasts_X12_isSpoon
set_option maxRecDepth 20000 in
theorem ggX12_lasts_X12_finds : GoodIn wsX12_lasts wsX12_finds := goodIn_r _ [13, 14, 15, 88, 89, 90, 91, 92, 93, 94, 95, 96, 97, 98, 99, 100, 101, 102, 103, 104, 105, 106, 107, 108, 109, 110] (by decide +kernel) (by decide +kernel)
set_option maxRecDepth 20000 in
theorem gX12_lasts_X12_finds : GoodIn wsX12_lasts (wsV RX12 131 RX12 yX12_finds wsX12_finds) := goodIn_app (goodIn_of _ (by decide +kernel)) ggX12_lasts_X12_finds
set_option maxRecDepth 20000 in
theorem ggX12_lasts_X12_keepAside : GoodIn wsX12_lasts wsX12_keepAside := goodIn_r _ [19, 20, 6, 88, 89, 90, 91, 92, 93, 94, 95, 96, 97, 98, 99, 100, 101, 102, 103, 104, 105, 106, 107, 108, 109, 110] (by decide +kernel) (by decide +kernel)
set_option maxRecDepth 20000 in
theorem gX12_lasts_X12_keepAside : GoodIn wsX12_lasts (wsV RX12 251 RX12 yX12_keepAside wsX12_keepAside) := goodIn_app (goodIn_of _ (by decide +kernel)) ggX12_lasts_X12_keepAside
set_option maxRecDepth 20000 in
theorem ggX12_lasts_X12_isThrough : GoodIn wsX12_lasts wsX12_isThrough := goodIn_r _ [24, 25, 26, 27, 4, 28, 6, 88, 89, 90, 91, 92, 93, 94, 95, 96, 97, 98, 99, 100, 101, 102, 103, 104, 105, 106, 107, 108, 109, 110] (by decide +kernel) (by decide +kernel)
set_option maxRecDepth 20000 in
theorem gX12_lasts_X12_isThrough : GoodIn wsX12_lasts (wsV RX12 175 RX12 yX12_isThrough wsX12_isThrough) := goodIn_app (goodIn_of _ (by decide +kernel)) ggX12_lasts_X12_isThrough
set_option maxRecDepth 20000 in
theorem ggX12_lasts_X12_hourGoes : GoodIn wsX12_lasts wsX12_hourGoes := goodIn_r _ [32, 6, 1, 2, 3, 4, 5, 7, 8, 9, 21, 22, 23, 24, 25, 26, 27, 28, 33, 34, 35, 36, 37, 38, 39, 40, 41, 42, 43, 44, 45, 46, 47, 48, 49, 50, 51, 52, 53, 54, 55, 56, 57, 58, 59, 60, 61, 62, 63, 64, 65, 66, 67, 68, 69, 70, 71, 72, 73, 74, 75, 76, 77, 78, 79, 80, 81, 82, 83, 88, 89, 90, 91, 92, 93, 94, 95, 96, 97, 98, 99, 100, 101, 102, 103, 104, 105, 106, 107, 108, 109, 110] (by decide +kernel) (by decide +kernel)
set_option maxRecDepth 20000 in
theorem gX12_lasts_X12_hourGoes : GoodIn wsX12_lasts (wsV RX12 188 RX12 yX12_hourGoes wsX12_hourGoes) := goodIn_app (goodIn_of _ (by decide +kernel)) ggX12_lasts_X12_hourGoes
set_option maxRecDepth 20000 in
theorem ggX12_lasts_X12_putBack : GoodIn wsX12_lasts wsX12_putBack := goodIn_r _ [87, 6, 20, 88, 89, 90, 91, 92, 93, 94, 95, 96, 97, 98, 99, 100, 101, 102, 103, 104, 105, 106, 107, 108, 109, 110] (by decide +kernel) (by decide +kernel)
set_option maxRecDepth 20000 in
theorem gX12_lasts_X12_putBack : GoodIn wsX12_lasts (wsV RX12 254 RX12 yX12_putBack wsX12_putBack) := goodIn_app (goodIn_of _ (by decide +kernel)) ggX12_lasts_X12_putBack
theorem dX12_lasts_0 : decode cX12_lasts 0 = .ok (.aload_n 0, 1) := by decide +kernel
theorem dX12_lasts_1 : decode cX12_lasts 1 = .ok (.iload_n 1, 1) := by decide +kernel
theorem dX12_lasts_2 : decode cX12_lasts 2 = .ok (.invokevirtual 178, 3) := by decide +kernel
theorem dX12_lasts_5 : decode cX12_lasts 5 = .ok (.ifCond .ne 9, 3) := by decide +kernel
theorem dX12_lasts_8 : decode cX12_lasts 8 = .ok (.aload_n 0, 1) := by decide +kernel
theorem dX12_lasts_9 : decode cX12_lasts 9 = .ok (.iconst 1, 1) := by decide +kernel
theorem dX12_lasts_10 : decode cX12_lasts 10 = .ok (.invokevirtual 131, 3) := by decide +kernel
theorem dX12_lasts_13 : decode cX12_lasts 13 = .ok (.ireturn, 1) := by decide +kernel
theorem dX12_lasts_14 : decode cX12_lasts 14 = .ok (.aload_n 0, 1) := by decide +kernel
theorem dX12_lasts_15 : decode cX12_lasts 15 = .ok (.invokevirtual 251, 3) := by decide +kernel
theorem dX12_lasts_18 : decode cX12_lasts 18 = .ok (.iconst 0, 1) := by decide +kernel
theorem dX12_lasts_19 : decode cX12_lasts 19 = .ok (.istore_n 2, 1) := by decide +kernel
theorem dX12_lasts_20 : decode cX12_lasts 20 = .ok (.iload_n 2, 1) := by decide +kernel
theorem dX12_lasts_21 : decode cX12_lasts 21 = .ok (.bipush 60, 2) := by decide +kernel
theorem dX12_lasts_23 : decode cX12_lasts 23 = .ok (.if_icmp .ge 21, 3) := by decide +kernel
theorem dX12_lasts_26 : decode cX12_lasts 26 = .ok (.aload_n 0, 1) := by decide +kernel
theorem dX12_lasts_27 : decode cX12_lasts 27 = .ok (.iload_n 1, 1) := by decide +kernel
theorem dX12_lasts_28 : decode cX12_lasts 28 = .ok (.invokevirtual 175, 3) := by decide +kernel
theorem dX12_lasts_31 : decode cX12_lasts 31 = .ok (.ifCond .ne 13, 3) := by decide +kernel
theorem dX12_lasts_34 : decode cX12_lasts 34 = .ok (.aload_n 0, 1) := by decide +kernel
theorem dX12_lasts_35 : decode cX12_lasts 35 = .ok (.invokevirtual 188, 3) := by decide +kernel
theorem dX12_lasts_38 : decode cX12_lasts 38 = .ok (.iinc 2 1, 3) := by decide +kernel
theorem dX12_lasts_41 : decode cX12_lasts 41 = .ok (.goto (-21), 3) := by decide +kernel
theorem dX12_lasts_44 : decode cX12_lasts 44 = .ok (.aload_n 0, 1) := by decide +kernel
theorem dX12_lasts_45 : decode cX12_lasts 45 = .ok (.iload_n 1, 1) := by decide +kernel
theorem dX12_lasts_46 : decode cX12_lasts 46 = .ok (.invokevirtual 175, 3) := by decide +kernel
theorem dX12_lasts_49 : decode cX12_lasts 49 = .ok (.istore_n 3, 1) := by decide +kernel
theorem dX12_lasts_50 : decode cX12_lasts 50 = .ok (.aload_n 0, 1) := by decide +kernel
theorem dX12_lasts_51 : decode cX12_lasts 51 = .ok (.invokevirtual 254, 3) := by decide +kernel
theorem dX12_lasts_54 : decode cX12_lasts 54 = .ok (.iload_n 3, 1) := by decide +kernel
theorem dX12_lasts_55 : decode cX12_lasts 55 = .ok (.ifCond .eq 7, 3) := by decide +kernel
theorem dX12_lasts_58 : decode cX12_lasts 58 = .ok (.iload_n 2, 1) := by decide +kernel
theorem dX12_lasts_59 : decode cX12_lasts 59 = .ok (.goto 8, 3) := by decide +kernel
theorem dX12_lasts_62 : decode cX12_lasts 62 = .ok (.aload_n 0, 1) := by decide +kernel
theorem dX12_lasts_63 : decode cX12_lasts 63 = .ok (.iconst 2, 1) := by decide +kernel
theorem dX12_lasts_64 : decode cX12_lasts 64 = .ok (.invokevirtual 131, 3) := by decide +kernel
theorem dX12_lasts_67 : decode cX12_lasts 67 = .ok (.ireturn, 1) := by decide +kernel
set_option maxRecDepth 20000 in
theorem ggX12_silverFor_X12_isSpoon : GoodIn wsX12_silverFor wsX12_isSpoon := goodIn_r _ [5, 6, 7, 8, 4, 9, 96, 97, 98, 99, 100, 101, 102, 103, 104, 105, 106, 107, 108, 109, 110, 111, 112, 113, 114, 115, 116, 117, 118] (by decide +kernel) (by decide +kernel)
set_option maxRecDepth 20000 in
theorem gX12_silverFor_X12_isSpoon : GoodIn wsX12_silverFor (wsV RX12 178 RX12 yX12_isSpoon wsX12_isSpoon) := goodIn_app (goodIn_of _ (by decide +kernel)) ggX12_silverFor_X12_isSpoon
set_option maxRecDepth 20000 in
theorem ggX12_silverFor_X12_isAhead : GoodIn wsX12_silverFor wsX12_isAhead := goodIn_r _ [12, 13, 7, 8, 4, 9] (by decide +kernel) (by decide +kernel)
set_option maxRecDepth 20000 in
theorem gX12_silverFor_X12_isAhead : GoodIn wsX12_silverFor (va_wsS RX12 248 yX12_isAhead wsX12_isAhead) := goodIn_app (goodIn_of _ (by decide +kernel)) ggX12_silverFor_X12_isAhead
set_option maxRecDepth 20000 in
theorem ggX12_silverFor_X12_finds : GoodIn wsX12_silverFor wsX12_finds := goodIn_r _ [17, 18, 19, 96, 97, 98, 99, 100, 101, 102, 103, 104, 105, 106, 107, 108, 109, 110, 111, 112, 113, 114, 115, 116, 117, 118] (by decide +kernel) (by decide +kernel)
set_option maxRecDepth 20000 in
theorem gX12_silverFor_X12_finds : GoodIn wsX12_silverFor (wsV RX12 131 RX12 yX12_finds wsX12_finds) := goodIn_app (goodIn_of _ (by decide +kernel)) ggX12_silverFor_X12_finds
set_option maxRecDepth 20000 in
theorem ggX12_silverFor_X12_keepAside : GoodIn wsX12_silverFor wsX12_keepAside := goodIn_r _ [23, 24, 6, 96, 97, 98, 99, 100, 101, 102, 103, 104, 105, 106, 107, 108, 109, 110, 111, 112, 113, 114, 115, 116, 117, 118] (by decide +kernel) (by decide +kernel)
set_option maxRecDepth 20000 in
theorem gX12_silverFor_X12_keepAside : GoodIn wsX12_silverFor (wsV RX12 251 RX12 yX12_keepAside wsX12_keepAside) := goodIn_app (goodIn_of _ (by decide +kernel)) ggX12_silverFor_X12_keepAside
set_option maxRecDepth 20000 in
theorem ggX12_silverFor_X12_sets : GoodIn wsX12_silverFor wsX12_sets := goodIn_r _ [28, 6, 96, 97, 98, 99, 100, 101, 102, 103, 104, 105, 106, 107, 108, 109, 110, 111, 112, 113, 114, 115, 116, 117, 118] (by decide +kernel) (by decide +kernel)
set_option maxRecDepth 20000 in
theorem gX12_silverFor_X12_sets : GoodIn wsX12_silverFor (wsV RX12 166 RX12 yX12_sets wsX12_sets) := goodIn_app (goodIn_of _ (by decide +kernel)) ggX12_silverFor_X12_sets
set_option maxRecDepth 20000 in
theorem ggX12_silverFor_X12_hoursGo : GoodIn wsX12_silverFor wsX12_hoursGo := goodIn_r _ [32, 33, 34, 35, 4, 36, 6, 1, 2, 3, 5, 7, 8, 9, 37, 38, 39, 40, 41, 42, 43, 44, 45, 46, 47, 48, 49, 50, 51, 52, 53, 54, 55, 56, 57, 58, 59, 60, 61, 62, 63, 64, 65, 66, 67, 68, 25, 26, 27, 28, 69, 70, 71, 72, 73, 74, 75, 76, 77, 78, 79, 80, 81, 82, 83, 84, 85, 86, 87, 88, 89, 90, 91, 96, 97, 98, 99, 100, 101, 102, 103, 104, 105, 106, 107, 108, 109, 110, 111, 112, 113, 114, 115, 116, 117, 118] (by decide +kernel) (by decide +kernel)
set_option maxRecDepth 20000 in
theorem gX12_silverFor_X12_hoursGo : GoodIn wsX12_silverFor (wsV RX12 239 RX12 yX12_hoursGo wsX12_hoursGo) := goodIn_app (goodIn_of _ (by decide +kernel)) ggX12_silverFor_X12_hoursGo
set_option maxRecDepth 20000 in
theorem ggX12_silverFor_X12_isThrough : GoodIn wsX12_silverFor wsX12_isThrough := goodIn_r _ [40, 41, 42, 43, 4, 44, 6, 96, 97, 98, 99, 100, 101, 102, 103, 104, 105, 106, 107, 108, 109, 110, 111, 112, 113, 114, 115, 116, 117, 118] (by decide +kernel) (by decide +kernel)
set_option maxRecDepth 20000 in
theorem gX12_silverFor_X12_isThrough : GoodIn wsX12_silverFor (wsV RX12 175 RX12 yX12_isThrough wsX12_isThrough) := goodIn_app (goodIn_of _ (by decide +kernel)) ggX12_silverFor_X12_isThrough
set_option maxRecDepth 20000 in
theorem ggX12_silverFor_X12_putBack : GoodIn wsX12_silverFor wsX12_putBack := goodIn_r _ [95, 6, 24, 96, 97, 98, 99, 100, 101, 102, 103, 104, 105, 106, 107, 108, 109, 110, 111, 112, 113, 114, 115, 116, 117, 118] (by decide +kernel) (by decide +kernel)
set_option maxRecDepth 20000 in
theorem gX12_silverFor_X12_putBack : GoodIn wsX12_silverFor (wsV RX12 254 RX12 yX12_putBack wsX12_putBack) := goodIn_app (goodIn_of _ (by decide +kernel)) ggX12_silverFor_X12_putBack
theorem dX12_silverFor_0 : decode cX12_silverFor 0 = .ok (.aload_n 0, 1) := by decide +kernel
theorem dX12_silverFor_1 : decode cX12_silverFor 1 = .ok (.iload_n 1, 1) := by decide +kernel
theorem dX12_silverFor_2 : decode cX12_silverFor 2 = .ok (.invokevirtual 178, 3) := by decide +kernel
theorem dX12_silverFor_5 : decode cX12_silverFor 5 = .ok (.ifCond .eq 10, 3) := by decide +kernel
theorem dX12_silverFor_8 : decode cX12_silverFor 8 = .ok (.iload_n 2, 1) := by decide +kernel
theorem dX12_silverFor_9 : decode cX12_silverFor 9 = .ok (.invokestatic 248, 3) := by decide +kernel
theorem dX12_silverFor_12 : decode cX12_silverFor 12 = .ok (.ifCond .ne 9, 3) := by decide +kernel
theorem dX12_silverFor_15 : decode cX12_silverFor 15 = .ok (.aload_n 0, 1) := by decide +kernel
theorem dX12_silverFor_16 : decode cX12_silverFor 16 = .ok (.iconst 1, 1) := by decide +kernel
theorem dX12_silverFor_17 : decode cX12_silverFor 17 = .ok (.invokevirtual 131, 3) := by decide +kernel
theorem dX12_silverFor_20 : decode cX12_silverFor 20 = .ok (.ireturn, 1) := by decide +kernel
theorem dX12_silverFor_21 : decode cX12_silverFor 21 = .ok (.aload_n 0, 1) := by decide +kernel
theorem dX12_silverFor_22 : decode cX12_silverFor 22 = .ok (.invokevirtual 251, 3) := by decide +kernel
theorem dX12_silverFor_25 : decode cX12_silverFor 25 = .ok (.iconst 1, 1) := by decide +kernel
theorem dX12_silverFor_26 : decode cX12_silverFor 26 = .ok (.istore_n 3, 1) := by decide +kernel
theorem dX12_silverFor_27 : decode cX12_silverFor 27 = .ok (.iload_n 3, 1) := by decide +kernel
theorem dX12_silverFor_28 : decode cX12_silverFor 28 = .ok (.bipush 99, 2) := by decide +kernel
theorem dX12_silverFor_30 : decode cX12_silverFor 30 = .ok (.if_icmp .gt 47, 3) := by decide +kernel
theorem dX12_silverFor_33 : decode cX12_silverFor 33 = .ok (.aload_n 0, 1) := by decide +kernel
theorem dX12_silverFor_34 : decode cX12_silverFor 34 = .ok (.iload_n 1, 1) := by decide +kernel
theorem dX12_silverFor_35 : decode cX12_silverFor 35 = .ok (.iconst 2, 1) := by decide +kernel
theorem dX12_silverFor_36 : decode cX12_silverFor 36 = .ok (.iload_n 3, 1) := by decide +kernel
theorem dX12_silverFor_37 : decode cX12_silverFor 37 = .ok (.invokevirtual 166, 3) := by decide +kernel
theorem dX12_silverFor_40 : decode cX12_silverFor 40 = .ok (.aload_n 0, 1) := by decide +kernel
theorem dX12_silverFor_41 : decode cX12_silverFor 41 = .ok (.iload_n 2, 1) := by decide +kernel
theorem dX12_silverFor_42 : decode cX12_silverFor 42 = .ok (.invokevirtual 239, 3) := by decide +kernel
theorem dX12_silverFor_45 : decode cX12_silverFor 45 = .ok (.aload_n 0, 1) := by decide +kernel
theorem dX12_silverFor_46 : decode cX12_silverFor 46 = .ok (.iload_n 1, 1) := by decide +kernel
theorem dX12_silverFor_47 : decode cX12_silverFor 47 = .ok (.invokevirtual 175, 3) := by decide +kernel
theorem dX12_silverFor_50 : decode cX12_silverFor 50 = .ok (.ifCond .ne 7, 3) := by decide +kernel
theorem dX12_silverFor_53 : decode cX12_silverFor 53 = .ok (.iconst 1, 1) := by decide +kernel
theorem dX12_silverFor_54 : decode cX12_silverFor 54 = .ok (.goto 4, 3) := by decide +kernel
theorem dX12_silverFor_57 : decode cX12_silverFor 57 = .ok (.iconst 0, 1) := by decide +kernel
theorem dX12_silverFor_58 : decode cX12_silverFor 58 = .ok (.istore 4, 2) := by decide +kernel
theorem dX12_silverFor_60 : decode cX12_silverFor 60 = .ok (.aload_n 0, 1) := by decide +kernel
theorem dX12_silverFor_61 : decode cX12_silverFor 61 = .ok (.invokevirtual 254, 3) := by decide +kernel
theorem dX12_silverFor_64 : decode cX12_silverFor 64 = .ok (.iload 4, 2) := by decide +kernel
theorem dX12_silverFor_66 : decode cX12_silverFor 66 = .ok (.ifCond .eq 5, 3) := by decide +kernel
theorem dX12_silverFor_69 : decode cX12_silverFor 69 = .ok (.iload_n 3, 1) := by decide +kernel
theorem dX12_silverFor_70 : decode cX12_silverFor 70 = .ok (.ireturn, 1) := by decide +kernel
theorem dX12_silverFor_71 : decode cX12_silverFor 71 = .ok (.iinc 3 1, 3) := by decide +kernel
theorem dX12_silverFor_74 : decode cX12_silverFor 74 = .ok (.goto (-47), 3) := by decide +kernel
theorem dX12_silverFor_77 : decode cX12_silverFor 77 = .ok (.aload_n 0, 1) := by decide +kernel
theorem dX12_silverFor_78 : decode cX12_silverFor 78 = .ok (.iconst 2, 1) := by decide +kernel
theorem dX12_silverFor_79 : decode cX12_silverFor 79 = .ok (.invokevirtual 131, 3) := by decide +kernel
theorem dX12_silverFor_82 : decode cX12_silverFor 82 = .ok (.ireturn, 1) := by decide +kernel
set_option maxRecDepth 20000 in
theorem ggX12_bestOf_X12_keepAside : GoodIn wsX12_bestOf wsX12_keepAside := goodIn_r _ [6, 7, 1, 90, 91, 92, 93, 94, 95, 96, 97, 98, 99, 100, 101, 102, 103, 104, 105, 106, 107, 108, 109, 110, 111, 112] (by decide +kernel) (by decide +kernel)
set_option maxRecDepth 20000 in
theorem gX12_bestOf_X12_keepAside : GoodIn wsX12_bestOf (wsV RX12 251 RX12 yX12_keepAside wsX12_keepAside) := goodIn_app (goodIn_of _ (by decide +kernel)) ggX12_bestOf_X12_keepAside
set_option maxRecDepth 20000 in
theorem ggX12_bestOf_X12_spreadsBehind : GoodIn wsX12_bestOf wsX12_spreadsBehind := goodIn_r _ [11, 1, 12, 13, 14, 5, 15, 16, 17, 18, 19, 20, 21, 22, 23, 24, 25, 26, 27, 28, 29, 30, 31, 32, 33, 34, 35, 36, 37, 38, 39, 40, 41, 42, 43, 44, 45, 46, 47, 48, 49, 50, 51, 52, 53, 54, 55, 56, 57, 58, 59, 60, 61, 62, 63, 64, 65, 66, 67, 68, 69, 70, 71, 72, 73, 74, 75, 76, 77, 78, 79, 80, 81, 82, 83, 84, 85, 86, 87, 88, 89, 7, 90, 91, 92, 93, 94, 95, 96, 97, 98, 99, 100, 101, 102, 103, 104, 105, 106, 107, 108, 109, 110, 111, 112] (by decide +kernel) (by decide +kernel)
set_option maxRecDepth 20000 in
theorem gX12_bestOf_X12_spreadsBehind : GoodIn wsX12_bestOf (wsV RX12 257 RX12 yX12_spreadsBehind wsX12_spreadsBehind) := goodIn_app (goodIn_of _ (by decide +kernel)) ggX12_bestOf_X12_spreadsBehind
theorem dX12_bestOf_0 : decode cX12_bestOf 0 = .ok (.aload_n 0, 1) := by decide +kernel
theorem dX12_bestOf_1 : decode cX12_bestOf 1 = .ok (.invokevirtual 251, 3) := by decide +kernel
theorem dX12_bestOf_4 : decode cX12_bestOf 4 = .ok (.iload_n 2, 1) := by decide +kernel
theorem dX12_bestOf_5 : decode cX12_bestOf 5 = .ok (.istore 5, 2) := by decide +kernel
theorem dX12_bestOf_7 : decode cX12_bestOf 7 = .ok (.bipush 13, 2) := by decide +kernel
theorem dX12_bestOf_9 : decode cX12_bestOf 9 = .ok (.istore 6, 2) := by decide +kernel
theorem dX12_bestOf_11 : decode cX12_bestOf 11 = .ok (.iload_n 2, 1) := by decide +kernel
theorem dX12_bestOf_12 : decode cX12_bestOf 12 = .ok (.istore 7, 2) := by decide +kernel
theorem dX12_bestOf_14 : decode cX12_bestOf 14 = .ok (.iload 7, 2) := by decide +kernel
theorem dX12_bestOf_16 : decode cX12_bestOf 16 = .ok (.iload_n 3, 1) := by decide +kernel
theorem dX12_bestOf_17 : decode cX12_bestOf 17 = .ok (.if_icmp .gt 40, 3) := by decide +kernel
theorem dX12_bestOf_20 : decode cX12_bestOf 20 = .ok (.aload_n 0, 1) := by decide +kernel
theorem dX12_bestOf_21 : decode cX12_bestOf 21 = .ok (.getfield 7, 3) := by decide +kernel
theorem dX12_bestOf_24 : decode cX12_bestOf 24 = .ok (.iload_n 1, 1) := by decide +kernel
theorem dX12_bestOf_25 : decode cX12_bestOf 25 = .ok (.iload 7, 2) := by decide +kernel
theorem dX12_bestOf_27 : decode cX12_bestOf 27 = .ok (.iastore, 1) := by decide +kernel
theorem dX12_bestOf_28 : decode cX12_bestOf 28 = .ok (.aload_n 0, 1) := by decide +kernel
theorem dX12_bestOf_29 : decode cX12_bestOf 29 = .ok (.iload 4, 2) := by decide +kernel
theorem dX12_bestOf_31 : decode cX12_bestOf 31 = .ok (.invokevirtual 257, 3) := by decide +kernel
theorem dX12_bestOf_34 : decode cX12_bestOf 34 = .ok (.istore 8, 2) := by decide +kernel
theorem dX12_bestOf_36 : decode cX12_bestOf 36 = .ok (.iload 8, 2) := by decide +kernel
theorem dX12_bestOf_38 : decode cX12_bestOf 38 = .ok (.iload 6, 2) := by decide +kernel
theorem dX12_bestOf_40 : decode cX12_bestOf 40 = .ok (.if_icmp .ge 11, 3) := by decide +kernel
theorem dX12_bestOf_43 : decode cX12_bestOf 43 = .ok (.iload 7, 2) := by decide +kernel
theorem dX12_bestOf_45 : decode cX12_bestOf 45 = .ok (.istore 5, 2) := by decide +kernel
theorem dX12_bestOf_47 : decode cX12_bestOf 47 = .ok (.iload 8, 2) := by decide +kernel
theorem dX12_bestOf_49 : decode cX12_bestOf 49 = .ok (.istore 6, 2) := by decide +kernel
theorem dX12_bestOf_51 : decode cX12_bestOf 51 = .ok (.iinc 7 1, 3) := by decide +kernel
theorem dX12_bestOf_54 : decode cX12_bestOf 54 = .ok (.goto (-40), 3) := by decide +kernel
theorem dX12_bestOf_57 : decode cX12_bestOf 57 = .ok (.iload 5, 2) := by decide +kernel
theorem dX12_bestOf_59 : decode cX12_bestOf 59 = .ok (.ireturn, 1) := by decide +kernel
set_option maxRecDepth 20000 in
theorem ggX12_washFor_X12_in : GoodIn wsX12_washFor wsX12_in := goodIn_r _ [5] (by decide +kernel) (by decide +kernel)
set_option maxRecDepth 20000 in
theorem gX12_washFor_X12_in : GoodIn wsX12_washFor (va_wsS RX12 50 yX12_in wsX12_in) := goodIn_app (goodIn_of _ (by decide +kernel)) ggX12_washFor_X12_in
set_option maxRecDepth 20000 in
theorem ggX12_washFor_X12_isAhead : GoodIn wsX12_washFor wsX12_isAhead := goodIn_r _ [8, 9, 2, 3, 4, 5] (by decide +kernel) (by decide +kernel)
set_option maxRecDepth 20000 in
theorem gX12_washFor_X12_isAhead : GoodIn wsX12_washFor (va_wsS RX12 248 yX12_isAhead wsX12_isAhead) := goodIn_app (goodIn_of _ (by decide +kernel)) ggX12_washFor_X12_isAhead
set_option maxRecDepth 20000 in
theorem ggX12_washFor_X12_bestOf : GoodIn wsX12_washFor wsX12_bestOf := goodIn_r _ [13, 14, 15, 16, 17, 4, 18, 19, 20, 21, 22, 23, 24, 25, 26, 27, 28, 29, 30, 31, 32, 33, 34, 35, 2, 3, 5, 36, 37, 38, 39, 40, 41, 42, 43, 44, 45, 46, 47, 48, 49, 50, 51, 52, 53, 54, 55, 56, 57, 58, 59, 60, 61, 62, 63, 64, 65, 66, 67, 68, 69, 70, 71, 72, 73, 74, 75, 76, 77, 78, 79, 80, 81, 82, 83, 84, 85, 86, 87, 88, 89, 90, 91, 92, 93, 94, 95, 96, 97, 98, 105, 106, 107, 108, 109, 110, 111, 112, 113, 114, 115, 116, 117, 118, 119, 120, 121, 122, 123, 124, 125, 126, 127] (by decide +kernel) (by decide +kernel)
set_option maxRecDepth 20000 in
theorem gX12_washFor_X12_bestOf : GoodIn wsX12_washFor (wsV RX12 260 RX12 yX12_bestOf wsX12_bestOf) := goodIn_app (goodIn_of _ (by decide +kernel)) ggX12_washFor_X12_bestOf
set_option maxRecDepth 20000 in
theorem ggX12_washFor_X12_finds : GoodIn wsX12_washFor wsX12_finds := goodIn_r _ [102, 103, 104, 105, 106, 107, 108, 109, 110, 111, 112, 113, 114, 115, 116, 117, 118, 119, 120, 121, 122, 123, 124, 125, 126, 127] (by decide +kernel) (by decide +kernel)
set_option maxRecDepth 20000 in
theorem gX12_washFor_X12_finds : GoodIn wsX12_washFor (wsV RX12 131 RX12 yX12_finds wsX12_finds) := goodIn_app (goodIn_of _ (by decide +kernel)) ggX12_washFor_X12_finds
theorem dX12_washFor_0 : decode cX12_washFor 0 = .ok (.iload_n 1, 1) := by decide +kernel
theorem dX12_washFor_1 : decode cX12_washFor 1 = .ok (.i2l, 1) := by decide +kernel
theorem dX12_washFor_2 : decode cX12_washFor 2 = .ok (.lconst 0, 1) := by decide +kernel
theorem dX12_washFor_3 : decode cX12_washFor 3 = .ok (.ldc2_w 216, 3) := by decide +kernel
theorem dX12_washFor_6 : decode cX12_washFor 6 = .ok (.invokestatic 50, 3) := by decide +kernel
theorem dX12_washFor_9 : decode cX12_washFor 9 = .ok (.ifCond .eq 27, 3) := by decide +kernel
theorem dX12_washFor_12 : decode cX12_washFor 12 = .ok (.iload_n 2, 1) := by decide +kernel
theorem dX12_washFor_13 : decode cX12_washFor 13 = .ok (.invokestatic 248, 3) := by decide +kernel
theorem dX12_washFor_16 : decode cX12_washFor 16 = .ok (.ifCond .eq 20, 3) := by decide +kernel
theorem dX12_washFor_19 : decode cX12_washFor 19 = .ok (.iconst 1, 1) := by decide +kernel
theorem dX12_washFor_20 : decode cX12_washFor 20 = .ok (.aload_n 0, 1) := by decide +kernel
theorem dX12_washFor_21 : decode cX12_washFor 21 = .ok (.bipush 30, 2) := by decide +kernel
theorem dX12_washFor_23 : decode cX12_washFor 23 = .ok (.iload_n 1, 1) := by decide +kernel
theorem dX12_washFor_24 : decode cX12_washFor 24 = .ok (.iadd, 1) := by decide +kernel
theorem dX12_washFor_25 : decode cX12_washFor 25 = .ok (.iconst (-1), 1) := by decide +kernel
theorem dX12_washFor_26 : decode cX12_washFor 26 = .ok (.bipush 7, 2) := by decide +kernel
theorem dX12_washFor_28 : decode cX12_washFor 28 = .ok (.iload_n 2, 1) := by decide +kernel
theorem dX12_washFor_29 : decode cX12_washFor 29 = .ok (.invokevirtual 260, 3) := by decide +kernel
theorem dX12_washFor_32 : decode cX12_washFor 32 = .ok (.iadd, 1) := by decide +kernel
theorem dX12_washFor_33 : decode cX12_washFor 33 = .ok (.goto 8, 3) := by decide +kernel
theorem dX12_washFor_36 : decode cX12_washFor 36 = .ok (.aload_n 0, 1) := by decide +kernel
theorem dX12_washFor_37 : decode cX12_washFor 37 = .ok (.iconst 1, 1) := by decide +kernel
theorem dX12_washFor_38 : decode cX12_washFor 38 = .ok (.invokevirtual 131, 3) := by decide +kernel
theorem dX12_washFor_41 : decode cX12_washFor 41 = .ok (.ireturn, 1) := by decide +kernel
set_option maxRecDepth 20000 in
theorem ggX12_kindFor_X12_isSpoon : GoodIn wsX12_kindFor wsX12_isSpoon := goodIn_r _ [5, 6, 7, 8, 4, 9, 104, 105, 106, 107, 108, 109, 110, 111, 112, 113, 114, 115, 116, 117, 118, 119, 120, 121, 122, 123, 124, 125, 126] (by decide +kernel) (by decide +kernel)
set_option maxRecDepth 20000 in
theorem gX12_kindFor_X12_isSpoon : GoodIn wsX12_kindFor (wsV RX12 178 RX12 yX12_isSpoon wsX12_isSpoon) := goodIn_app (goodIn_of _ (by decide +kernel)) ggX12_kindFor_X12_isSpoon
set_option maxRecDepth 20000 in
theorem ggX12_kindFor_X12_isAhead : GoodIn wsX12_kindFor wsX12_isAhead := goodIn_r _ [12, 13, 7, 8, 4, 9] (by decide +kernel) (by decide +kernel)
set_option maxRecDepth 20000 in
theorem gX12_kindFor_X12_isAhead : GoodIn wsX12_kindFor (va_wsS RX12 248 yX12_isAhead wsX12_isAhead) := goodIn_app (goodIn_of _ (by decide +kernel)) ggX12_kindFor_X12_isAhead
set_option maxRecDepth 20000 in
theorem ggX12_kindFor_X12_bestOf : GoodIn wsX12_kindFor wsX12_bestOf := goodIn_r _ [17, 6, 18, 19, 20, 4, 21, 22, 23, 24, 25, 26, 27, 28, 29, 30, 31, 32, 33, 34, 1, 2, 3, 5, 7, 8, 9, 35, 36, 37, 38, 39, 40, 41, 42, 43, 44, 45, 46, 47, 48, 49, 50, 51, 52, 53, 54, 55, 56, 57, 58, 59, 60, 61, 62, 63, 64, 65, 66, 67, 68, 69, 70, 71, 72, 73, 74, 75, 76, 77, 78, 79, 80, 81, 82, 83, 84, 85, 86, 87, 88, 89, 90, 91, 92, 93, 94, 95, 96, 97, 104, 105, 106, 107, 108, 109, 110, 111, 112, 113, 114, 115, 116, 117, 118, 119, 120, 121, 122, 123, 124, 125, 126] (by decide +kernel) (by decide +kernel)
set_option maxRecDepth 20000 in
theorem gX12_kindFor_X12_bestOf : GoodIn wsX12_kindFor (wsV RX12 260 RX12 yX12_bestOf wsX12_bestOf) := goodIn_app (goodIn_of _ (by decide +kernel)) ggX12_kindFor_X12_bestOf
set_option maxRecDepth 20000 in
theorem ggX12_kindFor_X12_finds : GoodIn wsX12_kindFor wsX12_finds := goodIn_r _ [101, 102, 103, 104, 105, 106, 107, 108, 109, 110, 111, 112, 113, 114, 115, 116, 117, 118, 119, 120, 121, 122, 123, 124, 125, 126] (by decide +kernel) (by decide +kernel)
set_option maxRecDepth 20000 in
theorem gX12_kindFor_X12_finds : GoodIn wsX12_kindFor (wsV RX12 131 RX12 yX12_finds wsX12_finds) := goodIn_app (goodIn_of _ (by decide +kernel)) ggX12_kindFor_X12_finds
theorem dX12_kindFor_0 : decode cX12_kindFor 0 = .ok (.aload_n 0, 1) := by decide +kernel
theorem dX12_kindFor_1 : decode cX12_kindFor 1 = .ok (.iload_n 1, 1) := by decide +kernel
theorem dX12_kindFor_2 : decode cX12_kindFor 2 = .ok (.invokevirtual 178, 3) := by decide +kernel
theorem dX12_kindFor_5 : decode cX12_kindFor 5 = .ok (.ifCond .eq 28, 3) := by decide +kernel
theorem dX12_kindFor_8 : decode cX12_kindFor 8 = .ok (.iload_n 2, 1) := by decide +kernel
theorem dX12_kindFor_9 : decode cX12_kindFor 9 = .ok (.invokestatic 248, 3) := by decide +kernel
theorem dX12_kindFor_12 : decode cX12_kindFor 12 = .ok (.ifCond .eq 21, 3) := by decide +kernel
theorem dX12_kindFor_15 : decode cX12_kindFor 15 = .ok (.aload_n 0, 1) := by decide +kernel
theorem dX12_kindFor_16 : decode cX12_kindFor 16 = .ok (.bipush 34, 2) := by decide +kernel
theorem dX12_kindFor_18 : decode cX12_kindFor 18 = .ok (.bipush 15, 2) := by decide +kernel
theorem dX12_kindFor_20 : decode cX12_kindFor 20 = .ok (.iload_n 1, 1) := by decide +kernel
theorem dX12_kindFor_21 : decode cX12_kindFor 21 = .ok (.imul, 1) := by decide +kernel
theorem dX12_kindFor_22 : decode cX12_kindFor 22 = .ok (.iadd, 1) := by decide +kernel
theorem dX12_kindFor_23 : decode cX12_kindFor 23 = .ok (.iconst 0, 1) := by decide +kernel
theorem dX12_kindFor_24 : decode cX12_kindFor 24 = .ok (.bipush 6, 2) := by decide +kernel
theorem dX12_kindFor_26 : decode cX12_kindFor 26 = .ok (.iload_n 2, 1) := by decide +kernel
theorem dX12_kindFor_27 : decode cX12_kindFor 27 = .ok (.invokevirtual 260, 3) := by decide +kernel
theorem dX12_kindFor_30 : decode cX12_kindFor 30 = .ok (.goto 8, 3) := by decide +kernel
theorem dX12_kindFor_33 : decode cX12_kindFor 33 = .ok (.aload_n 0, 1) := by decide +kernel
theorem dX12_kindFor_34 : decode cX12_kindFor 34 = .ok (.iconst 1, 1) := by decide +kernel
theorem dX12_kindFor_35 : decode cX12_kindFor 35 = .ok (.invokevirtual 131, 3) := by decide +kernel
theorem dX12_kindFor_38 : decode cX12_kindFor 38 = .ok (.ireturn, 1) := by decide +kernel
set_option maxRecDepth 20000 in
theorem ggX12_isTold_X12_hourGoes : GoodIn wsX12_isTold wsX12_hourGoes := goodIn_r _ [8, 3, 9, 10, 11, 7, 12, 13, 14, 15, 16, 17, 18, 19, 20, 21, 22, 23, 24, 25, 26, 27, 28, 29, 30, 31, 32, 33, 34, 35, 36, 37, 38, 39, 40, 41, 42, 43, 44, 45, 46, 47, 48, 49, 50, 51, 52, 53, 54, 55, 56, 57, 58, 59, 60, 61, 62, 63, 64, 65, 66, 67, 68, 69, 70, 71, 72, 73, 74, 80, 81, 82, 83, 84, 85, 86, 87, 88, 89, 90, 91, 92, 93, 94, 95, 96, 97, 98, 99, 100, 101, 102] (by decide +kernel) (by decide +kernel)
set_option maxRecDepth 20000 in
theorem gX12_isTold_X12_hourGoes : GoodIn wsX12_isTold (wsV RX12 188 RX12 yX12_hourGoes wsX12_hourGoes) := goodIn_app (goodIn_of _ (by decide +kernel)) ggX12_isTold_X12_hourGoes
set_option maxRecDepth 20000 in
theorem ggX12_isTold_X12_ones : GoodIn wsX12_isTold wsX12_ones := goodIn_r _ [70] (by decide +kernel) (by decide +kernel)
set_option maxRecDepth 20000 in
theorem gX12_isTold_X12_ones : GoodIn wsX12_isTold (va_wsS RX12 157 yX12_ones wsX12_ones) := goodIn_app (goodIn_of _ (by decide +kernel)) ggX12_isTold_X12_ones
set_option maxRecDepth 20000 in
theorem ggX12_isTold_X12_putBack : GoodIn wsX12_isTold wsX12_putBack := goodIn_r _ [78, 3, 79, 80, 81, 82, 83, 84, 85, 86, 87, 88, 89, 90, 91, 92, 93, 94, 95, 96, 97, 98, 99, 100, 101, 102] (by decide +kernel) (by decide +kernel)
set_option maxRecDepth 20000 in
theorem gX12_isTold_X12_putBack : GoodIn wsX12_isTold (wsV RX12 254 RX12 yX12_putBack wsX12_putBack) := goodIn_app (goodIn_of _ (by decide +kernel)) ggX12_isTold_X12_putBack
theorem dX12_isTold_0 : decode cX12_isTold 0 = .ok (.iconst 1, 1) := by decide +kernel
theorem dX12_isTold_1 : decode cX12_isTold 1 = .ok (.istore_n 2, 1) := by decide +kernel
theorem dX12_isTold_2 : decode cX12_isTold 2 = .ok (.iconst 0, 1) := by decide +kernel
theorem dX12_isTold_3 : decode cX12_isTold 3 = .ok (.istore_n 3, 1) := by decide +kernel
theorem dX12_isTold_4 : decode cX12_isTold 4 = .ok (.iload_n 3, 1) := by decide +kernel
theorem dX12_isTold_5 : decode cX12_isTold 5 = .ok (.aload_n 0, 1) := by decide +kernel
theorem dX12_isTold_6 : decode cX12_isTold 6 = .ok (.getfield 40, 3) := by decide +kernel
theorem dX12_isTold_9 : decode cX12_isTold 9 = .ok (.iload_n 1, 1) := by decide +kernel
theorem dX12_isTold_10 : decode cX12_isTold 10 = .ok (.iaload, 1) := by decide +kernel
theorem dX12_isTold_11 : decode cX12_isTold 11 = .ok (.if_icmp .ge 46, 3) := by decide +kernel
theorem dX12_isTold_14 : decode cX12_isTold 14 = .ok (.iload_n 2, 1) := by decide +kernel
theorem dX12_isTold_15 : decode cX12_isTold 15 = .ok (.ifCond .eq 42, 3) := by decide +kernel
theorem dX12_isTold_18 : decode cX12_isTold 18 = .ok (.aload_n 0, 1) := by decide +kernel
theorem dX12_isTold_19 : decode cX12_isTold 19 = .ok (.invokevirtual 188, 3) := by decide +kernel
theorem dX12_isTold_22 : decode cX12_isTold 22 = .ok (.aload_n 0, 1) := by decide +kernel
theorem dX12_isTold_23 : decode cX12_isTold 23 = .ok (.getfield 43, 3) := by decide +kernel
theorem dX12_isTold_26 : decode cX12_isTold 26 = .ok (.bipush 40, 2) := by decide +kernel
theorem dX12_isTold_28 : decode cX12_isTold 28 = .ok (.iload_n 1, 1) := by decide +kernel
theorem dX12_isTold_29 : decode cX12_isTold 29 = .ok (.imul, 1) := by decide +kernel
theorem dX12_isTold_30 : decode cX12_isTold 30 = .ok (.iload_n 3, 1) := by decide +kernel
theorem dX12_isTold_31 : decode cX12_isTold 31 = .ok (.iadd, 1) := by decide +kernel
theorem dX12_isTold_32 : decode cX12_isTold 32 = .ok (.iaload, 1) := by decide +kernel
theorem dX12_isTold_33 : decode cX12_isTold 33 = .ok (.aload_n 0, 1) := by decide +kernel
theorem dX12_isTold_34 : decode cX12_isTold 34 = .ok (.getfield 7, 3) := by decide +kernel
theorem dX12_isTold_37 : decode cX12_isTold 37 = .ok (.iconst 2, 1) := by decide +kernel
theorem dX12_isTold_38 : decode cX12_isTold 38 = .ok (.iaload, 1) := by decide +kernel
theorem dX12_isTold_39 : decode cX12_isTold 39 = .ok (.invokestatic 157, 3) := by decide +kernel
theorem dX12_isTold_42 : decode cX12_isTold 42 = .ok (.if_icmp .ne 7, 3) := by decide +kernel
theorem dX12_isTold_45 : decode cX12_isTold 45 = .ok (.iconst 1, 1) := by decide +kernel
theorem dX12_isTold_46 : decode cX12_isTold 46 = .ok (.goto 4, 3) := by decide +kernel
theorem dX12_isTold_49 : decode cX12_isTold 49 = .ok (.iconst 0, 1) := by decide +kernel
theorem dX12_isTold_50 : decode cX12_isTold 50 = .ok (.istore_n 2, 1) := by decide +kernel
theorem dX12_isTold_51 : decode cX12_isTold 51 = .ok (.iinc 3 1, 3) := by decide +kernel
theorem dX12_isTold_54 : decode cX12_isTold 54 = .ok (.goto (-50), 3) := by decide +kernel
theorem dX12_isTold_57 : decode cX12_isTold 57 = .ok (.aload_n 0, 1) := by decide +kernel
theorem dX12_isTold_58 : decode cX12_isTold 58 = .ok (.invokevirtual 254, 3) := by decide +kernel
theorem dX12_isTold_61 : decode cX12_isTold 61 = .ok (.iload_n 2, 1) := by decide +kernel
theorem dX12_isTold_62 : decode cX12_isTold 62 = .ok (.ireturn, 1) := by decide +kernel
set_option maxRecDepth 20000 in
theorem ggX12_rubbed_X12_isSheet : GoodIn wsX12_rubbed wsX12_isSheet := goodIn_r _ [5, 6, 7, 8, 4, 9] (by decide +kernel) (by decide +kernel)
set_option maxRecDepth 20000 in
theorem gX12_rubbed_X12_isSheet : GoodIn wsX12_rubbed (va_wsS RX12 263 yX12_isSheet wsX12_isSheet) := goodIn_app (goodIn_of _ (by decide +kernel)) ggX12_rubbed_X12_isSheet
set_option maxRecDepth 20000 in
theorem ggX12_rubbed_X12_isSpoon : GoodIn wsX12_rubbed wsX12_isSpoon := goodIn_r _ [13, 14, 7, 8, 4, 9, 99, 100, 101, 102, 103, 104, 105, 106, 107, 108, 109, 110, 111, 112, 113, 114, 115, 116, 117, 118, 119, 120, 121] (by decide +kernel) (by decide +kernel)
set_option maxRecDepth 20000 in
theorem gX12_rubbed_X12_isSpoon : GoodIn wsX12_rubbed (wsV RX12 178 RX12 yX12_isSpoon wsX12_isSpoon) := goodIn_app (goodIn_of _ (by decide +kernel)) ggX12_rubbed_X12_isSpoon
set_option maxRecDepth 20000 in
theorem ggX12_rubbed_X12_in : GoodIn wsX12_rubbed wsX12_in := goodIn_r _ [9] (by decide +kernel) (by decide +kernel)
set_option maxRecDepth 20000 in
theorem gX12_rubbed_X12_in : GoodIn wsX12_rubbed (va_wsS RX12 50 yX12_in wsX12_in) := goodIn_app (goodIn_of _ (by decide +kernel)) ggX12_rubbed_X12_in
set_option maxRecDepth 20000 in
theorem ggX12_rubbed_X12_finds : GoodIn wsX12_rubbed wsX12_finds := goodIn_r _ [18, 19, 20, 99, 100, 101, 102, 103, 104, 105, 106, 107, 108, 109, 110, 111, 112, 113, 114, 115, 116, 117, 118, 119, 120, 121] (by decide +kernel) (by decide +kernel)
set_option maxRecDepth 20000 in
theorem gX12_rubbed_X12_finds : GoodIn wsX12_rubbed (wsV RX12 131 RX12 yX12_finds wsX12_finds) := goodIn_app (goodIn_of _ (by decide +kernel)) ggX12_rubbed_X12_finds
set_option maxRecDepth 20000 in
theorem ggX12_rubbed_X12_keepAside : GoodIn wsX12_rubbed wsX12_keepAside := goodIn_r _ [24, 25, 14, 99, 100, 101, 102, 103, 104, 105, 106, 107, 108, 109, 110, 111, 112, 113, 114, 115, 116, 117, 118, 119, 120, 121] (by decide +kernel) (by decide +kernel)
set_option maxRecDepth 20000 in
theorem gX12_rubbed_X12_keepAside : GoodIn wsX12_rubbed (wsV RX12 251 RX12 yX12_keepAside wsX12_keepAside) := goodIn_app (goodIn_of _ (by decide +kernel)) ggX12_rubbed_X12_keepAside
set_option maxRecDepth 20000 in
theorem ggX12_rubbed_X12_sets : GoodIn wsX12_rubbed wsX12_sets := goodIn_r _ [29, 14, 99, 100, 101, 102, 103, 104, 105, 106, 107, 108, 109, 110, 111, 112, 113, 114, 115, 116, 117, 118, 119, 120, 121] (by decide +kernel) (by decide +kernel)
set_option maxRecDepth 20000 in
theorem gX12_rubbed_X12_sets : GoodIn wsX12_rubbed (wsV RX12 166 RX12 yX12_sets wsX12_sets) := goodIn_app (goodIn_of _ (by decide +kernel)) ggX12_rubbed_X12_sets
set_option maxRecDepth 20000 in
theorem ggX12_rubbed_X12_isTold : GoodIn wsX12_rubbed wsX12_isTold := goodIn_r _ [33, 34, 35, 14, 36, 37, 38, 4, 39, 10, 11, 12, 13, 7, 8, 9, 40, 41, 42, 43, 44, 45, 46, 47, 48, 49, 50, 51, 52, 53, 54, 55, 56, 57, 58, 59, 60, 61, 62, 63, 64, 65, 66, 67, 68, 69, 70, 71, 26, 27, 28, 29, 72, 73, 74, 75, 76, 77, 78, 79, 80, 81, 82, 83, 84, 85, 86, 87, 88, 89, 90, 91, 92, 93, 94, 95, 96, 97, 98, 25, 99, 100, 101, 102, 103, 104, 105, 106, 107, 108, 109, 110, 111, 112, 113, 114, 115, 116, 117, 118, 119, 120, 121] (by decide +kernel) (by decide +kernel)
set_option maxRecDepth 20000 in
theorem gX12_rubbed_X12_isTold : GoodIn wsX12_rubbed (wsV RX12 266 RX12 yX12_isTold wsX12_isTold) := goodIn_app (goodIn_of _ (by decide +kernel)) ggX12_rubbed_X12_isTold
theorem dX12_rubbed_0 : decode cX12_rubbed 0 = .ok (.iload_n 1, 1) := by decide +kernel
theorem dX12_rubbed_1 : decode cX12_rubbed 1 = .ok (.invokestatic 263, 3) := by decide +kernel
theorem dX12_rubbed_4 : decode cX12_rubbed 4 = .ok (.ifCond .eq 21, 3) := by decide +kernel
theorem dX12_rubbed_7 : decode cX12_rubbed 7 = .ok (.aload_n 0, 1) := by decide +kernel
theorem dX12_rubbed_8 : decode cX12_rubbed 8 = .ok (.iload_n 2, 1) := by decide +kernel
theorem dX12_rubbed_9 : decode cX12_rubbed 9 = .ok (.invokevirtual 178, 3) := by decide +kernel
theorem dX12_rubbed_12 : decode cX12_rubbed 12 = .ok (.ifCond .eq 13, 3) := by decide +kernel
theorem dX12_rubbed_15 : decode cX12_rubbed 15 = .ok (.iload_n 3, 1) := by decide +kernel
theorem dX12_rubbed_16 : decode cX12_rubbed 16 = .ok (.i2l, 1) := by decide +kernel
theorem dX12_rubbed_17 : decode cX12_rubbed 17 = .ok (.lconst 0, 1) := by decide +kernel
theorem dX12_rubbed_18 : decode cX12_rubbed 18 = .ok (.lconst 1, 1) := by decide +kernel
theorem dX12_rubbed_19 : decode cX12_rubbed 19 = .ok (.invokestatic 50, 3) := by decide +kernel
theorem dX12_rubbed_22 : decode cX12_rubbed 22 = .ok (.ifCond .ne 9, 3) := by decide +kernel
theorem dX12_rubbed_25 : decode cX12_rubbed 25 = .ok (.aload_n 0, 1) := by decide +kernel
theorem dX12_rubbed_26 : decode cX12_rubbed 26 = .ok (.iconst 1, 1) := by decide +kernel
theorem dX12_rubbed_27 : decode cX12_rubbed 27 = .ok (.invokevirtual 131, 3) := by decide +kernel
theorem dX12_rubbed_30 : decode cX12_rubbed 30 = .ok (.ireturn, 1) := by decide +kernel
theorem dX12_rubbed_31 : decode cX12_rubbed 31 = .ok (.aload_n 0, 1) := by decide +kernel
theorem dX12_rubbed_32 : decode cX12_rubbed 32 = .ok (.getfield 37, 3) := by decide +kernel
theorem dX12_rubbed_35 : decode cX12_rubbed 35 = .ok (.iload_n 1, 1) := by decide +kernel
theorem dX12_rubbed_36 : decode cX12_rubbed 36 = .ok (.iaload, 1) := by decide +kernel
theorem dX12_rubbed_37 : decode cX12_rubbed 37 = .ok (.ifCond .ne 9, 3) := by decide +kernel
theorem dX12_rubbed_40 : decode cX12_rubbed 40 = .ok (.aload_n 0, 1) := by decide +kernel
theorem dX12_rubbed_41 : decode cX12_rubbed 41 = .ok (.iconst 2, 1) := by decide +kernel
theorem dX12_rubbed_42 : decode cX12_rubbed 42 = .ok (.invokevirtual 131, 3) := by decide +kernel
theorem dX12_rubbed_45 : decode cX12_rubbed 45 = .ok (.ireturn, 1) := by decide +kernel
theorem dX12_rubbed_46 : decode cX12_rubbed 46 = .ok (.aload_n 0, 1) := by decide +kernel
theorem dX12_rubbed_47 : decode cX12_rubbed 47 = .ok (.invokevirtual 251, 3) := by decide +kernel
theorem dX12_rubbed_50 : decode cX12_rubbed 50 = .ok (.iconst 0, 1) := by decide +kernel
theorem dX12_rubbed_51 : decode cX12_rubbed 51 = .ok (.istore 4, 2) := by decide +kernel
theorem dX12_rubbed_53 : decode cX12_rubbed 53 = .ok (.iconst (-1), 1) := by decide +kernel
theorem dX12_rubbed_54 : decode cX12_rubbed 54 = .ok (.istore 5, 2) := by decide +kernel
theorem dX12_rubbed_56 : decode cX12_rubbed 56 = .ok (.bipush 99, 2) := by decide +kernel
theorem dX12_rubbed_58 : decode cX12_rubbed 58 = .ok (.istore 6, 2) := by decide +kernel
theorem dX12_rubbed_60 : decode cX12_rubbed 60 = .ok (.iload 6, 2) := by decide +kernel
theorem dX12_rubbed_62 : decode cX12_rubbed 62 = .ok (.ifCond .lt 53, 3) := by decide +kernel
theorem dX12_rubbed_65 : decode cX12_rubbed 65 = .ok (.aload_n 0, 1) := by decide +kernel
theorem dX12_rubbed_66 : decode cX12_rubbed 66 = .ok (.iload_n 2, 1) := by decide +kernel
theorem dX12_rubbed_67 : decode cX12_rubbed 67 = .ok (.iconst 2, 1) := by decide +kernel
theorem dX12_rubbed_68 : decode cX12_rubbed 68 = .ok (.iload 6, 2) := by decide +kernel
theorem dX12_rubbed_70 : decode cX12_rubbed 70 = .ok (.invokevirtual 166, 3) := by decide +kernel
theorem dX12_rubbed_73 : decode cX12_rubbed 73 = .ok (.aload_n 0, 1) := by decide +kernel
theorem dX12_rubbed_74 : decode cX12_rubbed 74 = .ok (.iload_n 1, 1) := by decide +kernel
theorem dX12_rubbed_75 : decode cX12_rubbed 75 = .ok (.invokevirtual 266, 3) := by decide +kernel
theorem dX12_rubbed_78 : decode cX12_rubbed 78 = .ok (.istore 7, 2) := by decide +kernel
theorem dX12_rubbed_80 : decode cX12_rubbed 80 = .ok (.iload 4, 2) := by decide +kernel
theorem dX12_rubbed_82 : decode cX12_rubbed 82 = .ok (.iload 7, 2) := by decide +kernel
theorem dX12_rubbed_84 : decode cX12_rubbed 84 = .ok (.ifCond .eq 7, 3) := by decide +kernel
theorem dX12_rubbed_87 : decode cX12_rubbed 87 = .ok (.iconst 1, 1) := by decide +kernel
theorem dX12_rubbed_88 : decode cX12_rubbed 88 = .ok (.goto 4, 3) := by decide +kernel
theorem dX12_rubbed_91 : decode cX12_rubbed 91 = .ok (.iconst 0, 1) := by decide +kernel
theorem dX12_rubbed_92 : decode cX12_rubbed 92 = .ok (.iadd, 1) := by decide +kernel
theorem dX12_rubbed_93 : decode cX12_rubbed 93 = .ok (.istore 4, 2) := by decide +kernel
theorem dX12_rubbed_95 : decode cX12_rubbed 95 = .ok (.iload 7, 2) := by decide +kernel
theorem dX12_rubbed_97 : decode cX12_rubbed 97 = .ok (.ifCond .eq 8, 3) := by decide +kernel
theorem dX12_rubbed_100 : decode cX12_rubbed 100 = .ok (.iload 6, 2) := by decide +kernel
theorem dX12_rubbed_102 : decode cX12_rubbed 102 = .ok (.goto 5, 3) := by decide +kernel
theorem dX12_rubbed_105 : decode cX12_rubbed 105 = .ok (.iload 5, 2) := by decide +kernel
theorem dX12_rubbed_107 : decode cX12_rubbed 107 = .ok (.istore 5, 2) := by decide +kernel
theorem dX12_rubbed_109 : decode cX12_rubbed 109 = .ok (.iinc 6 (-1), 3) := by decide +kernel
theorem dX12_rubbed_112 : decode cX12_rubbed 112 = .ok (.goto (-52), 3) := by decide +kernel
theorem dX12_rubbed_115 : decode cX12_rubbed 115 = .ok (.iload_n 3, 1) := by decide +kernel
theorem dX12_rubbed_116 : decode cX12_rubbed 116 = .ok (.ifCond .ne 8, 3) := by decide +kernel
theorem dX12_rubbed_119 : decode cX12_rubbed 119 = .ok (.iload 4, 2) := by decide +kernel
theorem dX12_rubbed_121 : decode cX12_rubbed 121 = .ok (.goto 18, 3) := by decide +kernel
theorem dX12_rubbed_124 : decode cX12_rubbed 124 = .ok (.iload 5, 2) := by decide +kernel
theorem dX12_rubbed_126 : decode cX12_rubbed 126 = .ok (.ifCond .ge 11, 3) := by decide +kernel
theorem dX12_rubbed_129 : decode cX12_rubbed 129 = .ok (.aload_n 0, 1) := by decide +kernel
theorem dX12_rubbed_130 : decode cX12_rubbed 130 = .ok (.iconst 2, 1) := by decide +kernel
theorem dX12_rubbed_131 : decode cX12_rubbed 131 = .ok (.invokevirtual 131, 3) := by decide +kernel
theorem dX12_rubbed_134 : decode cX12_rubbed 134 = .ok (.goto 5, 3) := by decide +kernel
theorem dX12_rubbed_137 : decode cX12_rubbed 137 = .ok (.iload 5, 2) := by decide +kernel
theorem dX12_rubbed_139 : decode cX12_rubbed 139 = .ok (.ireturn, 1) := by decide +kernel
set_option maxRecDepth 20000 in
theorem ggX12_which_X12_isSheet : GoodIn wsX12_which wsX12_isSheet := goodIn_r _ [5, 6, 7, 8, 4, 9] (by decide +kernel) (by decide +kernel)
set_option maxRecDepth 20000 in
theorem gX12_which_X12_isSheet : GoodIn wsX12_which (va_wsS RX12 263 yX12_isSheet wsX12_isSheet) := goodIn_app (goodIn_of _ (by decide +kernel)) ggX12_which_X12_isSheet
set_option maxRecDepth 20000 in
theorem ggX12_which_X12_isSpoon : GoodIn wsX12_which wsX12_isSpoon := goodIn_r _ [13, 14, 7, 8, 4, 9, 99, 100, 101, 102, 103, 104, 105, 106, 107, 108, 109, 110, 111, 112, 113, 114, 115, 116, 117, 118, 119, 120, 121] (by decide +kernel) (by decide +kernel)
set_option maxRecDepth 20000 in
theorem gX12_which_X12_isSpoon : GoodIn wsX12_which (wsV RX12 178 RX12 yX12_isSpoon wsX12_isSpoon) := goodIn_app (goodIn_of _ (by decide +kernel)) ggX12_which_X12_isSpoon
set_option maxRecDepth 20000 in
theorem ggX12_which_X12_finds : GoodIn wsX12_which wsX12_finds := goodIn_r _ [18, 19, 20, 99, 100, 101, 102, 103, 104, 105, 106, 107, 108, 109, 110, 111, 112, 113, 114, 115, 116, 117, 118, 119, 120, 121] (by decide +kernel) (by decide +kernel)
set_option maxRecDepth 20000 in
theorem gX12_which_X12_finds : GoodIn wsX12_which (wsV RX12 131 RX12 yX12_finds wsX12_finds) := goodIn_app (goodIn_of _ (by decide +kernel)) ggX12_which_X12_finds
set_option maxRecDepth 20000 in
theorem ggX12_which_X12_keepAside : GoodIn wsX12_which wsX12_keepAside := goodIn_r _ [24, 25, 14, 99, 100, 101, 102, 103, 104, 105, 106, 107, 108, 109, 110, 111, 112, 113, 114, 115, 116, 117, 118, 119, 120, 121] (by decide +kernel) (by decide +kernel)
set_option maxRecDepth 20000 in
theorem gX12_which_X12_keepAside : GoodIn wsX12_which (wsV RX12 251 RX12 yX12_keepAside wsX12_keepAside) := goodIn_app (goodIn_of _ (by decide +kernel)) ggX12_which_X12_keepAside
set_option maxRecDepth 20000 in
theorem ggX12_which_X12_sets : GoodIn wsX12_which wsX12_sets := goodIn_r _ [29, 14, 99, 100, 101, 102, 103, 104, 105, 106, 107, 108, 109, 110, 111, 112, 113, 114, 115, 116, 117, 118, 119, 120, 121] (by decide +kernel) (by decide +kernel)
set_option maxRecDepth 20000 in
theorem gX12_which_X12_sets : GoodIn wsX12_which (wsV RX12 166 RX12 yX12_sets wsX12_sets) := goodIn_app (goodIn_of _ (by decide +kernel)) ggX12_which_X12_sets
set_option maxRecDepth 20000 in
theorem ggX12_which_X12_isTold : GoodIn wsX12_which wsX12_isTold := goodIn_r _ [33, 34, 35, 14, 36, 37, 38, 4, 39, 10, 11, 12, 13, 7, 8, 9, 40, 41, 42, 43, 44, 45, 46, 47, 48, 49, 50, 51, 52, 53, 54, 55, 56, 57, 58, 59, 60, 61, 62, 63, 64, 65, 66, 67, 68, 69, 70, 71, 26, 27, 28, 29, 72, 73, 74, 75, 76, 77, 78, 79, 80, 81, 82, 83, 84, 85, 86, 87, 88, 89, 90, 91, 92, 93, 94, 95, 96, 97, 98, 25, 99, 100, 101, 102, 103, 104, 105, 106, 107, 108, 109, 110, 111, 112, 113, 114, 115, 116, 117, 118, 119, 120, 121] (by decide +kernel) (by decide +kernel)
set_option maxRecDepth 20000 in
theorem gX12_which_X12_isTold : GoodIn wsX12_which (wsV RX12 266 RX12 yX12_isTold wsX12_isTold) := goodIn_app (goodIn_of _ (by decide +kernel)) ggX12_which_X12_isTold
theorem dX12_which_0 : decode cX12_which 0 = .ok (.iload_n 1, 1) := by decide +kernel
theorem dX12_which_1 : decode cX12_which 1 = .ok (.invokestatic 263, 3) := by decide +kernel
theorem dX12_which_4 : decode cX12_which 4 = .ok (.ifCond .eq 11, 3) := by decide +kernel
theorem dX12_which_7 : decode cX12_which 7 = .ok (.aload_n 0, 1) := by decide +kernel
theorem dX12_which_8 : decode cX12_which 8 = .ok (.iload_n 2, 1) := by decide +kernel
theorem dX12_which_9 : decode cX12_which 9 = .ok (.invokevirtual 178, 3) := by decide +kernel
theorem dX12_which_12 : decode cX12_which 12 = .ok (.ifCond .ne 9, 3) := by decide +kernel
theorem dX12_which_15 : decode cX12_which 15 = .ok (.aload_n 0, 1) := by decide +kernel
theorem dX12_which_16 : decode cX12_which 16 = .ok (.iconst 1, 1) := by decide +kernel
theorem dX12_which_17 : decode cX12_which 17 = .ok (.invokevirtual 131, 3) := by decide +kernel
theorem dX12_which_20 : decode cX12_which 20 = .ok (.ireturn, 1) := by decide +kernel
theorem dX12_which_21 : decode cX12_which 21 = .ok (.aload_n 0, 1) := by decide +kernel
theorem dX12_which_22 : decode cX12_which 22 = .ok (.getfield 37, 3) := by decide +kernel
theorem dX12_which_25 : decode cX12_which 25 = .ok (.iload_n 1, 1) := by decide +kernel
theorem dX12_which_26 : decode cX12_which 26 = .ok (.iaload, 1) := by decide +kernel
theorem dX12_which_27 : decode cX12_which 27 = .ok (.ifCond .ne 9, 3) := by decide +kernel
theorem dX12_which_30 : decode cX12_which 30 = .ok (.aload_n 0, 1) := by decide +kernel
theorem dX12_which_31 : decode cX12_which 31 = .ok (.iconst 2, 1) := by decide +kernel
theorem dX12_which_32 : decode cX12_which 32 = .ok (.invokevirtual 131, 3) := by decide +kernel
theorem dX12_which_35 : decode cX12_which 35 = .ok (.ireturn, 1) := by decide +kernel
theorem dX12_which_36 : decode cX12_which 36 = .ok (.aload_n 0, 1) := by decide +kernel
theorem dX12_which_37 : decode cX12_which 37 = .ok (.invokevirtual 251, 3) := by decide +kernel
theorem dX12_which_40 : decode cX12_which 40 = .ok (.iconst 0, 1) := by decide +kernel
theorem dX12_which_41 : decode cX12_which 41 = .ok (.istore_n 3, 1) := by decide +kernel
theorem dX12_which_42 : decode cX12_which 42 = .ok (.iconst 0, 1) := by decide +kernel
theorem dX12_which_43 : decode cX12_which 43 = .ok (.istore 4, 2) := by decide +kernel
theorem dX12_which_45 : decode cX12_which 45 = .ok (.iload 4, 2) := by decide +kernel
theorem dX12_which_47 : decode cX12_which 47 = .ok (.bipush 6, 2) := by decide +kernel
theorem dX12_which_49 : decode cX12_which 49 = .ok (.if_icmp .gt 36, 3) := by decide +kernel
theorem dX12_which_52 : decode cX12_which 52 = .ok (.aload_n 0, 1) := by decide +kernel
theorem dX12_which_53 : decode cX12_which 53 = .ok (.iload_n 2, 1) := by decide +kernel
theorem dX12_which_54 : decode cX12_which 54 = .ok (.iconst 0, 1) := by decide +kernel
theorem dX12_which_55 : decode cX12_which 55 = .ok (.iload 4, 2) := by decide +kernel
theorem dX12_which_57 : decode cX12_which 57 = .ok (.invokevirtual 166, 3) := by decide +kernel
theorem dX12_which_60 : decode cX12_which 60 = .ok (.iload_n 3, 1) := by decide +kernel
theorem dX12_which_61 : decode cX12_which 61 = .ok (.aload_n 0, 1) := by decide +kernel
theorem dX12_which_62 : decode cX12_which 62 = .ok (.iload_n 1, 1) := by decide +kernel
theorem dX12_which_63 : decode cX12_which 63 = .ok (.invokevirtual 266, 3) := by decide +kernel
theorem dX12_which_66 : decode cX12_which 66 = .ok (.ifCond .eq 10, 3) := by decide +kernel
theorem dX12_which_69 : decode cX12_which 69 = .ok (.iconst 1, 1) := by decide +kernel
theorem dX12_which_70 : decode cX12_which 70 = .ok (.iload 4, 2) := by decide +kernel
theorem dX12_which_72 : decode cX12_which 72 = .ok (.ishl, 1) := by decide +kernel
theorem dX12_which_73 : decode cX12_which 73 = .ok (.goto 4, 3) := by decide +kernel
theorem dX12_which_76 : decode cX12_which 76 = .ok (.iconst 0, 1) := by decide +kernel
theorem dX12_which_77 : decode cX12_which 77 = .ok (.ior, 1) := by decide +kernel
theorem dX12_which_78 : decode cX12_which 78 = .ok (.istore_n 3, 1) := by decide +kernel
theorem dX12_which_79 : decode cX12_which 79 = .ok (.iinc 4 1, 3) := by decide +kernel
theorem dX12_which_82 : decode cX12_which 82 = .ok (.goto (-37), 3) := by decide +kernel
theorem dX12_which_85 : decode cX12_which 85 = .ok (.iload_n 3, 1) := by decide +kernel
theorem dX12_which_86 : decode cX12_which 86 = .ok (.ireturn, 1) := by decide +kernel
set_option maxRecDepth 20000 in
theorem ggX12_isAlone_X12_on : GoodIn wsX12_isAlone wsX12_on := goodIn_r _ [6, 7, 8, 9, 5, 10, 1, 11, 12, 13, 14, 15, 16, 17, 18, 19, 20, 21, 22, 23, 24, 25, 26, 27, 28, 29, 30, 31, 32, 33] (by decide +kernel) (by decide +kernel)
set_option maxRecDepth 20000 in
theorem gX12_isAlone_X12_on : GoodIn wsX12_isAlone (wsV RX12 154 RX12 yX12_on wsX12_on) := goodIn_app (goodIn_of _ (by decide +kernel)) ggX12_isAlone_X12_on
theorem dX12_isAlone_0 : decode cX12_isAlone 0 = .ok (.iconst 0, 1) := by decide +kernel
theorem dX12_isAlone_1 : decode cX12_isAlone 1 = .ok (.istore_n 2, 1) := by decide +kernel
theorem dX12_isAlone_2 : decode cX12_isAlone 2 = .ok (.iconst 0, 1) := by decide +kernel
theorem dX12_isAlone_3 : decode cX12_isAlone 3 = .ok (.istore_n 3, 1) := by decide +kernel
theorem dX12_isAlone_4 : decode cX12_isAlone 4 = .ok (.iload_n 3, 1) := by decide +kernel
theorem dX12_isAlone_5 : decode cX12_isAlone 5 = .ok (.aload_n 0, 1) := by decide +kernel
theorem dX12_isAlone_6 : decode cX12_isAlone 6 = .ok (.getfield 7, 3) := by decide +kernel
theorem dX12_isAlone_9 : decode cX12_isAlone 9 = .ok (.iconst 0, 1) := by decide +kernel
theorem dX12_isAlone_10 : decode cX12_isAlone 10 = .ok (.iaload, 1) := by decide +kernel
theorem dX12_isAlone_11 : decode cX12_isAlone 11 = .ok (.if_icmp .ge 38, 3) := by decide +kernel
theorem dX12_isAlone_14 : decode cX12_isAlone 14 = .ok (.iload_n 1, 1) := by decide +kernel
theorem dX12_isAlone_15 : decode cX12_isAlone 15 = .ok (.iload_n 3, 1) := by decide +kernel
theorem dX12_isAlone_16 : decode cX12_isAlone 16 = .ok (.ishr, 1) := by decide +kernel
theorem dX12_isAlone_17 : decode cX12_isAlone 17 = .ok (.iconst 1, 1) := by decide +kernel
theorem dX12_isAlone_18 : decode cX12_isAlone 18 = .ok (.iand, 1) := by decide +kernel
theorem dX12_isAlone_19 : decode cX12_isAlone 19 = .ok (.iconst 1, 1) := by decide +kernel
theorem dX12_isAlone_20 : decode cX12_isAlone 20 = .ok (.if_icmp .ne 23, 3) := by decide +kernel
theorem dX12_isAlone_23 : decode cX12_isAlone 23 = .ok (.iload_n 2, 1) := by decide +kernel
theorem dX12_isAlone_24 : decode cX12_isAlone 24 = .ok (.aload_n 0, 1) := by decide +kernel
theorem dX12_isAlone_25 : decode cX12_isAlone 25 = .ok (.iload_n 3, 1) := by decide +kernel
theorem dX12_isAlone_26 : decode cX12_isAlone 26 = .ok (.invokevirtual 154, 3) := by decide +kernel
theorem dX12_isAlone_29 : decode cX12_isAlone 29 = .ok (.iand, 1) := by decide +kernel
theorem dX12_isAlone_30 : decode cX12_isAlone 30 = .ok (.ifCond .eq 5, 3) := by decide +kernel
theorem dX12_isAlone_33 : decode cX12_isAlone 33 = .ok (.iconst 0, 1) := by decide +kernel
theorem dX12_isAlone_34 : decode cX12_isAlone 34 = .ok (.ireturn, 1) := by decide +kernel
theorem dX12_isAlone_35 : decode cX12_isAlone 35 = .ok (.iload_n 2, 1) := by decide +kernel
theorem dX12_isAlone_36 : decode cX12_isAlone 36 = .ok (.aload_n 0, 1) := by decide +kernel
theorem dX12_isAlone_37 : decode cX12_isAlone 37 = .ok (.iload_n 3, 1) := by decide +kernel
theorem dX12_isAlone_38 : decode cX12_isAlone 38 = .ok (.invokevirtual 154, 3) := by decide +kernel
theorem dX12_isAlone_41 : decode cX12_isAlone 41 = .ok (.ior, 1) := by decide +kernel
theorem dX12_isAlone_42 : decode cX12_isAlone 42 = .ok (.istore_n 2, 1) := by decide +kernel
theorem dX12_isAlone_43 : decode cX12_isAlone 43 = .ok (.iinc 3 1, 3) := by decide +kernel
theorem dX12_isAlone_46 : decode cX12_isAlone 46 = .ok (.goto (-42), 3) := by decide +kernel
theorem dX12_isAlone_49 : decode cX12_isAlone 49 = .ok (.iconst 1, 1) := by decide +kernel
theorem dX12_isAlone_50 : decode cX12_isAlone 50 = .ok (.ireturn, 1) := by decide +kernel
set_option maxRecDepth 20000 in
theorem ggX12_washers_X12_isAlone : GoodIn wsX12_washers wsX12_isAlone := goodIn_r _ [7, 1, 8, 9, 10, 6, 11, 12, 13, 14, 15, 16, 17, 18, 19, 20, 21, 22, 23, 24, 25, 26, 27, 28, 29, 30, 31, 32, 33, 34, 35, 36, 37, 38] (by decide +kernel) (by decide +kernel)
set_option maxRecDepth 20000 in
theorem gX12_washers_X12_isAlone : GoodIn wsX12_washers (wsV RX12 269 RX12 yX12_isAlone wsX12_isAlone) := goodIn_app (goodIn_of _ (by decide +kernel)) ggX12_washers_X12_isAlone
theorem dX12_washers_0 : decode cX12_washers 0 = .ok (.iconst 0, 1) := by decide +kernel
theorem dX12_washers_1 : decode cX12_washers 1 = .ok (.istore_n 1, 1) := by decide +kernel
theorem dX12_washers_2 : decode cX12_washers 2 = .ok (.iload_n 1, 1) := by decide +kernel
theorem dX12_washers_3 : decode cX12_washers 3 = .ok (.iconst 1, 1) := by decide +kernel
theorem dX12_washers_4 : decode cX12_washers 4 = .ok (.aload_n 0, 1) := by decide +kernel
theorem dX12_washers_5 : decode cX12_washers 5 = .ok (.getfield 7, 3) := by decide +kernel
theorem dX12_washers_8 : decode cX12_washers 8 = .ok (.iconst 0, 1) := by decide +kernel
theorem dX12_washers_9 : decode cX12_washers 9 = .ok (.iaload, 1) := by decide +kernel
theorem dX12_washers_10 : decode cX12_washers 10 = .ok (.ishl, 1) := by decide +kernel
theorem dX12_washers_11 : decode cX12_washers 11 = .ok (.if_icmp .ge 100, 3) := by decide +kernel
theorem dX12_washers_14 : decode cX12_washers 14 = .ok (.aload_n 0, 1) := by decide +kernel
theorem dX12_washers_15 : decode cX12_washers 15 = .ok (.getfield 31, 3) := by decide +kernel
theorem dX12_washers_18 : decode cX12_washers 18 = .ok (.iload_n 1, 1) := by decide +kernel
theorem dX12_washers_19 : decode cX12_washers 19 = .ok (.iload_n 1, 1) := by decide +kernel
theorem dX12_washers_20 : decode cX12_washers 20 = .ok (.ifCond .ne 7, 3) := by decide +kernel
theorem dX12_washers_23 : decode cX12_washers 23 = .ok (.iconst 0, 1) := by decide +kernel
theorem dX12_washers_24 : decode cX12_washers 24 = .ok (.goto 17, 3) := by decide +kernel
theorem dX12_washers_27 : decode cX12_washers 27 = .ok (.aload_n 0, 1) := by decide +kernel
theorem dX12_washers_28 : decode cX12_washers 28 = .ok (.iload_n 1, 1) := by decide +kernel
theorem dX12_washers_29 : decode cX12_washers 29 = .ok (.invokevirtual 269, 3) := by decide +kernel
theorem dX12_washers_32 : decode cX12_washers 32 = .ok (.ifCond .eq 7, 3) := by decide +kernel
theorem dX12_washers_35 : decode cX12_washers 35 = .ok (.iconst 1, 1) := by decide +kernel
theorem dX12_washers_36 : decode cX12_washers 36 = .ok (.goto 5, 3) := by decide +kernel
theorem dX12_washers_39 : decode cX12_washers 39 = .ok (.bipush 8, 2) := by decide +kernel
theorem dX12_washers_41 : decode cX12_washers 41 = .ok (.iastore, 1) := by decide +kernel
theorem dX12_washers_42 : decode cX12_washers 42 = .ok (.iload_n 1, 1) := by decide +kernel
theorem dX12_washers_43 : decode cX12_washers 43 = .ok (.iconst 1, 1) := by decide +kernel
theorem dX12_washers_44 : decode cX12_washers 44 = .ok (.isub, 1) := by decide +kernel
theorem dX12_washers_45 : decode cX12_washers 45 = .ok (.iload_n 1, 1) := by decide +kernel
theorem dX12_washers_46 : decode cX12_washers 46 = .ok (.iand, 1) := by decide +kernel
theorem dX12_washers_47 : decode cX12_washers 47 = .ok (.istore_n 2, 1) := by decide +kernel
theorem dX12_washers_48 : decode cX12_washers 48 = .ok (.iload_n 2, 1) := by decide +kernel
theorem dX12_washers_49 : decode cX12_washers 49 = .ok (.ifCond .le 56, 3) := by decide +kernel
theorem dX12_washers_52 : decode cX12_washers 52 = .ok (.aload_n 0, 1) := by decide +kernel
theorem dX12_washers_53 : decode cX12_washers 53 = .ok (.getfield 31, 3) := by decide +kernel
theorem dX12_washers_56 : decode cX12_washers 56 = .ok (.iload_n 2, 1) := by decide +kernel
theorem dX12_washers_57 : decode cX12_washers 57 = .ok (.iaload, 1) := by decide +kernel
theorem dX12_washers_58 : decode cX12_washers 58 = .ok (.aload_n 0, 1) := by decide +kernel
theorem dX12_washers_59 : decode cX12_washers 59 = .ok (.getfield 31, 3) := by decide +kernel
theorem dX12_washers_62 : decode cX12_washers 62 = .ok (.iload_n 1, 1) := by decide +kernel
theorem dX12_washers_63 : decode cX12_washers 63 = .ok (.iload_n 2, 1) := by decide +kernel
theorem dX12_washers_64 : decode cX12_washers 64 = .ok (.iconst (-1), 1) := by decide +kernel
theorem dX12_washers_65 : decode cX12_washers 65 = .ok (.ixor, 1) := by decide +kernel
theorem dX12_washers_66 : decode cX12_washers 66 = .ok (.iand, 1) := by decide +kernel
theorem dX12_washers_67 : decode cX12_washers 67 = .ok (.iaload, 1) := by decide +kernel
theorem dX12_washers_68 : decode cX12_washers 68 = .ok (.iadd, 1) := by decide +kernel
theorem dX12_washers_69 : decode cX12_washers 69 = .ok (.istore_n 3, 1) := by decide +kernel
theorem dX12_washers_70 : decode cX12_washers 70 = .ok (.aload_n 0, 1) := by decide +kernel
theorem dX12_washers_71 : decode cX12_washers 71 = .ok (.getfield 31, 3) := by decide +kernel
theorem dX12_washers_74 : decode cX12_washers 74 = .ok (.iload_n 1, 1) := by decide +kernel
theorem dX12_washers_75 : decode cX12_washers 75 = .ok (.iload_n 3, 1) := by decide +kernel
theorem dX12_washers_76 : decode cX12_washers 76 = .ok (.aload_n 0, 1) := by decide +kernel
theorem dX12_washers_77 : decode cX12_washers 77 = .ok (.getfield 31, 3) := by decide +kernel
theorem dX12_washers_80 : decode cX12_washers 80 = .ok (.iload_n 1, 1) := by decide +kernel
theorem dX12_washers_81 : decode cX12_washers 81 = .ok (.iaload, 1) := by decide +kernel
theorem dX12_washers_82 : decode cX12_washers 82 = .ok (.if_icmp .ge 7, 3) := by decide +kernel
theorem dX12_washers_85 : decode cX12_washers 85 = .ok (.iload_n 3, 1) := by decide +kernel
theorem dX12_washers_86 : decode cX12_washers 86 = .ok (.goto 9, 3) := by decide +kernel
theorem dX12_washers_89 : decode cX12_washers 89 = .ok (.aload_n 0, 1) := by decide +kernel
theorem dX12_washers_90 : decode cX12_washers 90 = .ok (.getfield 31, 3) := by decide +kernel
theorem dX12_washers_93 : decode cX12_washers 93 = .ok (.iload_n 1, 1) := by decide +kernel
theorem dX12_washers_94 : decode cX12_washers 94 = .ok (.iaload, 1) := by decide +kernel
theorem dX12_washers_95 : decode cX12_washers 95 = .ok (.iastore, 1) := by decide +kernel
theorem dX12_washers_96 : decode cX12_washers 96 = .ok (.iload_n 2, 1) := by decide +kernel
theorem dX12_washers_97 : decode cX12_washers 97 = .ok (.iconst 1, 1) := by decide +kernel
theorem dX12_washers_98 : decode cX12_washers 98 = .ok (.isub, 1) := by decide +kernel
theorem dX12_washers_99 : decode cX12_washers 99 = .ok (.iload_n 1, 1) := by decide +kernel
theorem dX12_washers_100 : decode cX12_washers 100 = .ok (.iand, 1) := by decide +kernel
theorem dX12_washers_101 : decode cX12_washers 101 = .ok (.istore_n 2, 1) := by decide +kernel
theorem dX12_washers_102 : decode cX12_washers 102 = .ok (.goto (-54), 3) := by decide +kernel
theorem dX12_washers_105 : decode cX12_washers 105 = .ok (.iinc 1 1, 3) := by decide +kernel
theorem dX12_washers_108 : decode cX12_washers 108 = .ok (.goto (-106), 3) := by decide +kernel
theorem dX12_washers_111 : decode cX12_washers 111 = .ok (.aload_n 0, 1) := by decide +kernel
theorem dX12_washers_112 : decode cX12_washers 112 = .ok (.getfield 31, 3) := by decide +kernel
theorem dX12_washers_115 : decode cX12_washers 115 = .ok (.iconst 1, 1) := by decide +kernel
theorem dX12_washers_116 : decode cX12_washers 116 = .ok (.aload_n 0, 1) := by decide +kernel
theorem dX12_washers_117 : decode cX12_washers 117 = .ok (.getfield 7, 3) := by decide +kernel
theorem dX12_washers_120 : decode cX12_washers 120 = .ok (.iconst 0, 1) := by decide +kernel
theorem dX12_washers_121 : decode cX12_washers 121 = .ok (.iaload, 1) := by decide +kernel
theorem dX12_washers_122 : decode cX12_washers 122 = .ok (.ishl, 1) := by decide +kernel
theorem dX12_washers_123 : decode cX12_washers 123 = .ok (.iconst 1, 1) := by decide +kernel
theorem dX12_washers_124 : decode cX12_washers 124 = .ok (.isub, 1) := by decide +kernel
theorem dX12_washers_125 : decode cX12_washers 125 = .ok (.iaload, 1) := by decide +kernel
theorem dX12_washers_126 : decode cX12_washers 126 = .ok (.ireturn, 1) := by decide +kernel
set_option maxRecDepth 20000 in
theorem ggX12_telling_X12_areWords : GoodIn wsX12_telling wsX12_areWords := goodIn_r _ [5, 6, 7, 8, 4, 9] (by decide +kernel) (by decide +kernel)
set_option maxRecDepth 20000 in
theorem gX12_telling_X12_areWords : GoodIn wsX12_telling (va_wsS RX12 204 yX12_areWords wsX12_areWords) := goodIn_app (goodIn_of _ (by decide +kernel)) ggX12_telling_X12_areWords
set_option maxRecDepth 20000 in
theorem ggX12_telling_X12_finds : GoodIn wsX12_telling wsX12_finds := goodIn_r _ [13, 14, 15, 27, 28, 29, 30, 31, 32, 33, 34, 35, 36, 37, 38, 39, 40, 41, 42, 43, 44, 45, 46, 47, 48, 49] (by decide +kernel) (by decide +kernel)
set_option maxRecDepth 20000 in
theorem gX12_telling_X12_finds : GoodIn wsX12_telling (wsV RX12 131 RX12 yX12_finds wsX12_finds) := goodIn_app (goodIn_of _ (by decide +kernel)) ggX12_telling_X12_finds
set_option maxRecDepth 20000 in
theorem ggX12_telling_X12_on : GoodIn wsX12_telling wsX12_on := goodIn_r _ [19, 20, 21, 22, 4, 23, 1, 27, 28, 29, 30, 31, 32, 33, 34, 35, 36, 37, 38, 39, 40, 41, 42, 43, 44, 45, 46, 47, 48, 49] (by decide +kernel) (by decide +kernel)
set_option maxRecDepth 20000 in
theorem gX12_telling_X12_on : GoodIn wsX12_telling (wsV RX12 154 RX12 yX12_on wsX12_on) := goodIn_app (goodIn_of _ (by decide +kernel)) ggX12_telling_X12_on
set_option maxRecDepth 20000 in
theorem ggX12_telling_X12_ones : GoodIn wsX12_telling wsX12_ones := goodIn_r _ [26] (by decide +kernel) (by decide +kernel)
set_option maxRecDepth 20000 in
theorem gX12_telling_X12_ones : GoodIn wsX12_telling (va_wsS RX12 157 yX12_ones wsX12_ones) := goodIn_app (goodIn_of _ (by decide +kernel)) ggX12_telling_X12_ones
theorem dX12_telling_0 : decode cX12_telling 0 = .ok (.iload_n 1, 1) := by decide +kernel
theorem dX12_telling_1 : decode cX12_telling 1 = .ok (.invokestatic 204, 3) := by decide +kernel
theorem dX12_telling_4 : decode cX12_telling 4 = .ok (.ifCond .ne 9, 3) := by decide +kernel
theorem dX12_telling_7 : decode cX12_telling 7 = .ok (.aload_n 0, 1) := by decide +kernel
theorem dX12_telling_8 : decode cX12_telling 8 = .ok (.iconst 1, 1) := by decide +kernel
theorem dX12_telling_9 : decode cX12_telling 9 = .ok (.invokevirtual 131, 3) := by decide +kernel
theorem dX12_telling_12 : decode cX12_telling 12 = .ok (.ireturn, 1) := by decide +kernel
theorem dX12_telling_13 : decode cX12_telling 13 = .ok (.iconst (-1), 1) := by decide +kernel
theorem dX12_telling_14 : decode cX12_telling 14 = .ok (.istore_n 2, 1) := by decide +kernel
theorem dX12_telling_15 : decode cX12_telling 15 = .ok (.iconst 0, 1) := by decide +kernel
theorem dX12_telling_16 : decode cX12_telling 16 = .ok (.istore_n 3, 1) := by decide +kernel
theorem dX12_telling_17 : decode cX12_telling 17 = .ok (.iload_n 3, 1) := by decide +kernel
theorem dX12_telling_18 : decode cX12_telling 18 = .ok (.iconst 1, 1) := by decide +kernel
theorem dX12_telling_19 : decode cX12_telling 19 = .ok (.aload_n 0, 1) := by decide +kernel
theorem dX12_telling_20 : decode cX12_telling 20 = .ok (.getfield 7, 3) := by decide +kernel
theorem dX12_telling_23 : decode cX12_telling 23 = .ok (.iconst 0, 1) := by decide +kernel
theorem dX12_telling_24 : decode cX12_telling 24 = .ok (.iaload, 1) := by decide +kernel
theorem dX12_telling_25 : decode cX12_telling 25 = .ok (.ishl, 1) := by decide +kernel
theorem dX12_telling_26 : decode cX12_telling 26 = .ok (.if_icmp .ge 85, 3) := by decide +kernel
theorem dX12_telling_29 : decode cX12_telling 29 = .ok (.iload_n 1, 1) := by decide +kernel
theorem dX12_telling_30 : decode cX12_telling 30 = .ok (.istore 4, 2) := by decide +kernel
theorem dX12_telling_32 : decode cX12_telling 32 = .ok (.iconst 0, 1) := by decide +kernel
theorem dX12_telling_33 : decode cX12_telling 33 = .ok (.istore 5, 2) := by decide +kernel
theorem dX12_telling_35 : decode cX12_telling 35 = .ok (.iload 5, 2) := by decide +kernel
theorem dX12_telling_37 : decode cX12_telling 37 = .ok (.aload_n 0, 1) := by decide +kernel
theorem dX12_telling_38 : decode cX12_telling 38 = .ok (.getfield 7, 3) := by decide +kernel
theorem dX12_telling_41 : decode cX12_telling 41 = .ok (.iconst 0, 1) := by decide +kernel
theorem dX12_telling_42 : decode cX12_telling 42 = .ok (.iaload, 1) := by decide +kernel
theorem dX12_telling_43 : decode cX12_telling 43 = .ok (.if_icmp .ge 36, 3) := by decide +kernel
theorem dX12_telling_46 : decode cX12_telling 46 = .ok (.iload 4, 2) := by decide +kernel
theorem dX12_telling_48 : decode cX12_telling 48 = .ok (.iload_n 3, 1) := by decide +kernel
theorem dX12_telling_49 : decode cX12_telling 49 = .ok (.iload 5, 2) := by decide +kernel
theorem dX12_telling_51 : decode cX12_telling 51 = .ok (.ishr, 1) := by decide +kernel
theorem dX12_telling_52 : decode cX12_telling 52 = .ok (.iconst 1, 1) := by decide +kernel
theorem dX12_telling_53 : decode cX12_telling 53 = .ok (.iand, 1) := by decide +kernel
theorem dX12_telling_54 : decode cX12_telling 54 = .ok (.iconst 1, 1) := by decide +kernel
theorem dX12_telling_55 : decode cX12_telling 55 = .ok (.if_icmp .ne 14, 3) := by decide +kernel
theorem dX12_telling_58 : decode cX12_telling 58 = .ok (.aload_n 0, 1) := by decide +kernel
theorem dX12_telling_59 : decode cX12_telling 59 = .ok (.iload 5, 2) := by decide +kernel
theorem dX12_telling_61 : decode cX12_telling 61 = .ok (.invokevirtual 154, 3) := by decide +kernel
theorem dX12_telling_64 : decode cX12_telling 64 = .ok (.iconst (-1), 1) := by decide +kernel
theorem dX12_telling_65 : decode cX12_telling 65 = .ok (.ixor, 1) := by decide +kernel
theorem dX12_telling_66 : decode cX12_telling 66 = .ok (.goto 4, 3) := by decide +kernel
theorem dX12_telling_69 : decode cX12_telling 69 = .ok (.iconst (-1), 1) := by decide +kernel
theorem dX12_telling_70 : decode cX12_telling 70 = .ok (.iand, 1) := by decide +kernel
theorem dX12_telling_71 : decode cX12_telling 71 = .ok (.istore 4, 2) := by decide +kernel
theorem dX12_telling_73 : decode cX12_telling 73 = .ok (.iinc 5 1, 3) := by decide +kernel
theorem dX12_telling_76 : decode cX12_telling 76 = .ok (.goto (-41), 3) := by decide +kernel
theorem dX12_telling_79 : decode cX12_telling 79 = .ok (.iload 4, 2) := by decide +kernel
theorem dX12_telling_81 : decode cX12_telling 81 = .ok (.ifCond .ne 22, 3) := by decide +kernel
theorem dX12_telling_84 : decode cX12_telling 84 = .ok (.iload_n 2, 1) := by decide +kernel
theorem dX12_telling_85 : decode cX12_telling 85 = .ok (.ifCond .lt 14, 3) := by decide +kernel
theorem dX12_telling_88 : decode cX12_telling 88 = .ok (.iload_n 3, 1) := by decide +kernel
theorem dX12_telling_89 : decode cX12_telling 89 = .ok (.invokestatic 157, 3) := by decide +kernel
theorem dX12_telling_92 : decode cX12_telling 92 = .ok (.iload_n 2, 1) := by decide +kernel
theorem dX12_telling_93 : decode cX12_telling 93 = .ok (.invokestatic 157, 3) := by decide +kernel
theorem dX12_telling_96 : decode cX12_telling 96 = .ok (.if_icmp .ge 7, 3) := by decide +kernel
theorem dX12_telling_99 : decode cX12_telling 99 = .ok (.iload_n 3, 1) := by decide +kernel
theorem dX12_telling_100 : decode cX12_telling 100 = .ok (.goto 4, 3) := by decide +kernel
theorem dX12_telling_103 : decode cX12_telling 103 = .ok (.iload_n 2, 1) := by decide +kernel
theorem dX12_telling_104 : decode cX12_telling 104 = .ok (.istore_n 2, 1) := by decide +kernel
theorem dX12_telling_105 : decode cX12_telling 105 = .ok (.iinc 3 1, 3) := by decide +kernel
theorem dX12_telling_108 : decode cX12_telling 108 = .ok (.goto (-91), 3) := by decide +kernel
theorem dX12_telling_111 : decode cX12_telling 111 = .ok (.iload_n 2, 1) := by decide +kernel
theorem dX12_telling_112 : decode cX12_telling 112 = .ok (.ifCond .ge 11, 3) := by decide +kernel
theorem dX12_telling_115 : decode cX12_telling 115 = .ok (.aload_n 0, 1) := by decide +kernel
theorem dX12_telling_116 : decode cX12_telling 116 = .ok (.iconst 2, 1) := by decide +kernel
theorem dX12_telling_117 : decode cX12_telling 117 = .ok (.invokevirtual 131, 3) := by decide +kernel
theorem dX12_telling_120 : decode cX12_telling 120 = .ok (.goto 4, 3) := by decide +kernel
theorem dX12_telling_123 : decode cX12_telling 123 = .ok (.iload_n 2, 1) := by decide +kernel
theorem dX12_telling_124 : decode cX12_telling 124 = .ok (.ireturn, 1) := by decide +kernel
set_option maxRecDepth 20000 in
theorem ggX12_gossip_X12_isAhead : GoodIn wsX12_gossip wsX12_isAhead := goodIn_r _ [5, 6, 7, 8, 4, 9] (by decide +kernel) (by decide +kernel)
set_option maxRecDepth 20000 in
theorem gX12_gossip_X12_isAhead : GoodIn wsX12_gossip (va_wsS RX12 248 yX12_isAhead wsX12_isAhead) := goodIn_app (goodIn_of _ (by decide +kernel)) ggX12_gossip_X12_isAhead
set_option maxRecDepth 20000 in
theorem ggX12_gossip_X12_finds : GoodIn wsX12_gossip wsX12_finds := goodIn_r _ [13, 14, 15, 96, 97, 98, 99, 100, 101, 102, 103, 104, 105, 106, 107, 108, 109, 110, 111, 112, 113, 114, 115, 116, 117, 118] (by decide +kernel) (by decide +kernel)
set_option maxRecDepth 20000 in
theorem gX12_gossip_X12_finds : GoodIn wsX12_gossip (wsV RX12 131 RX12 yX12_finds wsX12_finds) := goodIn_app (goodIn_of _ (by decide +kernel)) ggX12_gossip_X12_finds
set_option maxRecDepth 20000 in
theorem ggX12_gossip_X12_keepAside : GoodIn wsX12_gossip wsX12_keepAside := goodIn_r _ [19, 20, 1, 96, 97, 98, 99, 100, 101, 102, 103, 104, 105, 106, 107, 108, 109, 110, 111, 112, 113, 114, 115, 116, 117, 118] (by decide +kernel) (by decide +kernel)
set_option maxRecDepth 20000 in
theorem gX12_gossip_X12_keepAside : GoodIn wsX12_gossip (wsV RX12 251 RX12 yX12_keepAside wsX12_keepAside) := goodIn_app (goodIn_of _ (by decide +kernel)) ggX12_gossip_X12_keepAside
set_option maxRecDepth 20000 in
theorem ggX12_gossip_X12_hoursGo : GoodIn wsX12_gossip wsX12_hoursGo := goodIn_r _ [24, 25, 26, 27, 4, 28, 1, 29, 30, 31, 32, 7, 8, 9, 33, 34, 35, 36, 37, 38, 39, 40, 41, 42, 43, 44, 45, 46, 47, 48, 49, 50, 51, 52, 53, 54, 55, 56, 57, 58, 59, 60, 61, 62, 63, 64, 65, 66, 67, 68, 69, 70, 71, 72, 73, 74, 75, 76, 77, 78, 79, 80, 81, 82, 83, 84, 85, 86, 87, 88, 89, 90, 91, 96, 97, 98, 99, 100, 101, 102, 103, 104, 105, 106, 107, 108, 109, 110, 111, 112, 113, 114, 115, 116, 117, 118] (by decide +kernel) (by decide +kernel)
set_option maxRecDepth 20000 in
theorem gX12_gossip_X12_hoursGo : GoodIn wsX12_gossip (wsV RX12 239 RX12 yX12_hoursGo wsX12_hoursGo) := goodIn_app (goodIn_of _ (by decide +kernel)) ggX12_gossip_X12_hoursGo
set_option maxRecDepth 20000 in
theorem ggX12_gossip_X12_putBack : GoodIn wsX12_gossip wsX12_putBack := goodIn_r _ [95, 1, 20, 96, 97, 98, 99, 100, 101, 102, 103, 104, 105, 106, 107, 108, 109, 110, 111, 112, 113, 114, 115, 116, 117, 118] (by decide +kernel) (by decide +kernel)
set_option maxRecDepth 20000 in
theorem gX12_gossip_X12_putBack : GoodIn wsX12_gossip (wsV RX12 254 RX12 yX12_putBack wsX12_putBack) := goodIn_app (goodIn_of _ (by decide +kernel)) ggX12_gossip_X12_putBack
theorem dX12_gossip_0 : decode cX12_gossip 0 = .ok (.iload_n 1, 1) := by decide +kernel
theorem dX12_gossip_1 : decode cX12_gossip 1 = .ok (.invokestatic 248, 3) := by decide +kernel
theorem dX12_gossip_4 : decode cX12_gossip 4 = .ok (.ifCond .ne 9, 3) := by decide +kernel
theorem dX12_gossip_7 : decode cX12_gossip 7 = .ok (.aload_n 0, 1) := by decide +kernel
theorem dX12_gossip_8 : decode cX12_gossip 8 = .ok (.iconst 1, 1) := by decide +kernel
theorem dX12_gossip_9 : decode cX12_gossip 9 = .ok (.invokevirtual 131, 3) := by decide +kernel
theorem dX12_gossip_12 : decode cX12_gossip 12 = .ok (.ireturn, 1) := by decide +kernel
theorem dX12_gossip_13 : decode cX12_gossip 13 = .ok (.aload_n 0, 1) := by decide +kernel
theorem dX12_gossip_14 : decode cX12_gossip 14 = .ok (.invokevirtual 251, 3) := by decide +kernel
theorem dX12_gossip_17 : decode cX12_gossip 17 = .ok (.aload_n 0, 1) := by decide +kernel
theorem dX12_gossip_18 : decode cX12_gossip 18 = .ok (.iload_n 1, 1) := by decide +kernel
theorem dX12_gossip_19 : decode cX12_gossip 19 = .ok (.invokevirtual 239, 3) := by decide +kernel
theorem dX12_gossip_22 : decode cX12_gossip 22 = .ok (.iconst 0, 1) := by decide +kernel
theorem dX12_gossip_23 : decode cX12_gossip 23 = .ok (.istore_n 2, 1) := by decide +kernel
theorem dX12_gossip_24 : decode cX12_gossip 24 = .ok (.iconst 0, 1) := by decide +kernel
theorem dX12_gossip_25 : decode cX12_gossip 25 = .ok (.istore_n 3, 1) := by decide +kernel
theorem dX12_gossip_26 : decode cX12_gossip 26 = .ok (.iload_n 3, 1) := by decide +kernel
theorem dX12_gossip_27 : decode cX12_gossip 27 = .ok (.bipush 12, 2) := by decide +kernel
theorem dX12_gossip_29 : decode cX12_gossip 29 = .ok (.if_icmp .ge 32, 3) := by decide +kernel
theorem dX12_gossip_32 : decode cX12_gossip 32 = .ok (.iload_n 2, 1) := by decide +kernel
theorem dX12_gossip_33 : decode cX12_gossip 33 = .ok (.aload_n 0, 1) := by decide +kernel
theorem dX12_gossip_34 : decode cX12_gossip 34 = .ok (.getfield 7, 3) := by decide +kernel
theorem dX12_gossip_37 : decode cX12_gossip 37 = .ok (.iconst 2, 1) := by decide +kernel
theorem dX12_gossip_38 : decode cX12_gossip 38 = .ok (.iaload, 1) := by decide +kernel
theorem dX12_gossip_39 : decode cX12_gossip 39 = .ok (.iload_n 3, 1) := by decide +kernel
theorem dX12_gossip_40 : decode cX12_gossip 40 = .ok (.ishr, 1) := by decide +kernel
theorem dX12_gossip_41 : decode cX12_gossip 41 = .ok (.iconst 1, 1) := by decide +kernel
theorem dX12_gossip_42 : decode cX12_gossip 42 = .ok (.iand, 1) := by decide +kernel
theorem dX12_gossip_43 : decode cX12_gossip 43 = .ok (.aload_n 0, 1) := by decide +kernel
theorem dX12_gossip_44 : decode cX12_gossip 44 = .ok (.getfield 7, 3) := by decide +kernel
theorem dX12_gossip_47 : decode cX12_gossip 47 = .ok (.bipush 6, 2) := by decide +kernel
theorem dX12_gossip_49 : decode cX12_gossip 49 = .ok (.iload_n 3, 1) := by decide +kernel
theorem dX12_gossip_50 : decode cX12_gossip 50 = .ok (.iadd, 1) := by decide +kernel
theorem dX12_gossip_51 : decode cX12_gossip 51 = .ok (.iaload, 1) := by decide +kernel
theorem dX12_gossip_52 : decode cX12_gossip 52 = .ok (.imul, 1) := by decide +kernel
theorem dX12_gossip_53 : decode cX12_gossip 53 = .ok (.iadd, 1) := by decide +kernel
theorem dX12_gossip_54 : decode cX12_gossip 54 = .ok (.istore_n 2, 1) := by decide +kernel
theorem dX12_gossip_55 : decode cX12_gossip 55 = .ok (.iinc 3 1, 3) := by decide +kernel
theorem dX12_gossip_58 : decode cX12_gossip 58 = .ok (.goto (-32), 3) := by decide +kernel
theorem dX12_gossip_61 : decode cX12_gossip 61 = .ok (.aload_n 0, 1) := by decide +kernel
theorem dX12_gossip_62 : decode cX12_gossip 62 = .ok (.invokevirtual 254, 3) := by decide +kernel
theorem dX12_gossip_65 : decode cX12_gossip 65 = .ok (.iload_n 2, 1) := by decide +kernel
theorem dX12_gossip_66 : decode cX12_gossip 66 = .ok (.ireturn, 1) := by decide +kernel
set_option maxRecDepth 20000 in
theorem ggX12_much_X12_isSpoon : GoodIn wsX12_much wsX12_isSpoon := goodIn_r _ [5, 6, 7, 8, 4, 9, 20, 21, 22, 23, 24, 25, 26, 27, 28, 29, 30, 31, 32, 33, 34, 35, 36, 37, 38, 39, 40, 41, 42] (by decide +kernel) (by decide +kernel)
set_option maxRecDepth 20000 in
theorem gX12_much_X12_isSpoon : GoodIn wsX12_much (wsV RX12 178 RX12 yX12_isSpoon wsX12_isSpoon) := goodIn_app (goodIn_of _ (by decide +kernel)) ggX12_much_X12_isSpoon
set_option maxRecDepth 20000 in
theorem ggX12_much_X12_finds : GoodIn wsX12_much wsX12_finds := goodIn_r _ [13, 14, 15, 20, 21, 22, 23, 24, 25, 26, 27, 28, 29, 30, 31, 32, 33, 34, 35, 36, 37, 38, 39, 40, 41, 42] (by decide +kernel) (by decide +kernel)
set_option maxRecDepth 20000 in
theorem gX12_much_X12_finds : GoodIn wsX12_much (wsV RX12 131 RX12 yX12_finds wsX12_finds) := goodIn_app (goodIn_of _ (by decide +kernel)) ggX12_much_X12_finds
set_option maxRecDepth 20000 in
theorem ggX12_much_X12_of : GoodIn wsX12_much wsX12_of := goodIn_r _ [19, 6, 20, 21, 22, 23, 24, 25, 26, 27, 28, 29, 30, 31, 32, 33, 34, 35, 36, 37, 38, 39, 40, 41, 42] (by decide +kernel) (by decide +kernel)
set_option maxRecDepth 20000 in
theorem gX12_much_X12_of : GoodIn wsX12_much (wsV RX12 151 RX12 yX12_of wsX12_of) := goodIn_app (goodIn_of _ (by decide +kernel)) ggX12_much_X12_of
theorem dX12_much_0 : decode cX12_much 0 = .ok (.aload_n 0, 1) := by decide +kernel
theorem dX12_much_1 : decode cX12_much 1 = .ok (.iload_n 1, 1) := by decide +kernel
theorem dX12_much_2 : decode cX12_much 2 = .ok (.invokevirtual 178, 3) := by decide +kernel
theorem dX12_much_5 : decode cX12_much 5 = .ok (.ifCond .ne 9, 3) := by decide +kernel
theorem dX12_much_8 : decode cX12_much 8 = .ok (.aload_n 0, 1) := by decide +kernel
theorem dX12_much_9 : decode cX12_much 9 = .ok (.iconst 1, 1) := by decide +kernel
theorem dX12_much_10 : decode cX12_much 10 = .ok (.invokevirtual 131, 3) := by decide +kernel
theorem dX12_much_13 : decode cX12_much 13 = .ok (.ireturn, 1) := by decide +kernel
theorem dX12_much_14 : decode cX12_much 14 = .ok (.iconst 0, 1) := by decide +kernel
theorem dX12_much_15 : decode cX12_much 15 = .ok (.istore_n 2, 1) := by decide +kernel
theorem dX12_much_16 : decode cX12_much 16 = .ok (.iconst 0, 1) := by decide +kernel
theorem dX12_much_17 : decode cX12_much 17 = .ok (.istore_n 3, 1) := by decide +kernel
theorem dX12_much_18 : decode cX12_much 18 = .ok (.iload_n 3, 1) := by decide +kernel
theorem dX12_much_19 : decode cX12_much 19 = .ok (.bipush 12, 2) := by decide +kernel
theorem dX12_much_21 : decode cX12_much 21 = .ok (.if_icmp .ge 34, 3) := by decide +kernel
theorem dX12_much_24 : decode cX12_much 24 = .ok (.aload_n 0, 1) := by decide +kernel
theorem dX12_much_25 : decode cX12_much 25 = .ok (.iload_n 1, 1) := by decide +kernel
theorem dX12_much_26 : decode cX12_much 26 = .ok (.iconst 3, 1) := by decide +kernel
theorem dX12_much_27 : decode cX12_much 27 = .ok (.iload_n 3, 1) := by decide +kernel
theorem dX12_much_28 : decode cX12_much 28 = .ok (.iadd, 1) := by decide +kernel
theorem dX12_much_29 : decode cX12_much 29 = .ok (.invokevirtual 151, 3) := by decide +kernel
theorem dX12_much_32 : decode cX12_much 32 = .ok (.iload_n 2, 1) := by decide +kernel
theorem dX12_much_33 : decode cX12_much 33 = .ok (.if_icmp .le 14, 3) := by decide +kernel
theorem dX12_much_36 : decode cX12_much 36 = .ok (.aload_n 0, 1) := by decide +kernel
theorem dX12_much_37 : decode cX12_much 37 = .ok (.iload_n 1, 1) := by decide +kernel
theorem dX12_much_38 : decode cX12_much 38 = .ok (.iconst 3, 1) := by decide +kernel
theorem dX12_much_39 : decode cX12_much 39 = .ok (.iload_n 3, 1) := by decide +kernel
theorem dX12_much_40 : decode cX12_much 40 = .ok (.iadd, 1) := by decide +kernel
theorem dX12_much_41 : decode cX12_much 41 = .ok (.invokevirtual 151, 3) := by decide +kernel
theorem dX12_much_44 : decode cX12_much 44 = .ok (.goto 4, 3) := by decide +kernel
theorem dX12_much_47 : decode cX12_much 47 = .ok (.iload_n 2, 1) := by decide +kernel
theorem dX12_much_48 : decode cX12_much 48 = .ok (.istore_n 2, 1) := by decide +kernel
theorem dX12_much_49 : decode cX12_much 49 = .ok (.iinc 3 1, 3) := by decide +kernel
theorem dX12_much_52 : decode cX12_much 52 = .ok (.goto (-34), 3) := by decide +kernel
theorem dX12_much_55 : decode cX12_much 55 = .ok (.iload_n 2, 1) := by decide +kernel
theorem dX12_much_56 : decode cX12_much 56 = .ok (.ireturn, 1) := by decide +kernel
theorem dX12_common_0 : decode cX12_common 0 = .ok (.iload_n 0, 1) := by decide +kernel
theorem dX12_common_1 : decode cX12_common 1 = .ok (.istore_n 2, 1) := by decide +kernel
theorem dX12_common_2 : decode cX12_common 2 = .ok (.iload_n 1, 1) := by decide +kernel
theorem dX12_common_3 : decode cX12_common 3 = .ok (.istore_n 3, 1) := by decide +kernel
theorem dX12_common_4 : decode cX12_common 4 = .ok (.iload_n 3, 1) := by decide +kernel
theorem dX12_common_5 : decode cX12_common 5 = .ok (.ifCond .eq 16, 3) := by decide +kernel
theorem dX12_common_8 : decode cX12_common 8 = .ok (.iload_n 2, 1) := by decide +kernel
theorem dX12_common_9 : decode cX12_common 9 = .ok (.iload_n 3, 1) := by decide +kernel
theorem dX12_common_10 : decode cX12_common 10 = .ok (.irem, 1) := by decide +kernel
theorem dX12_common_11 : decode cX12_common 11 = .ok (.istore 4, 2) := by decide +kernel
theorem dX12_common_13 : decode cX12_common 13 = .ok (.iload_n 3, 1) := by decide +kernel
theorem dX12_common_14 : decode cX12_common 14 = .ok (.istore_n 2, 1) := by decide +kernel
theorem dX12_common_15 : decode cX12_common 15 = .ok (.iload 4, 2) := by decide +kernel
theorem dX12_common_17 : decode cX12_common 17 = .ok (.istore_n 3, 1) := by decide +kernel
theorem dX12_common_18 : decode cX12_common 18 = .ok (.goto (-14), 3) := by decide +kernel
theorem dX12_common_21 : decode cX12_common 21 = .ok (.iload_n 2, 1) := by decide +kernel
theorem dX12_common_22 : decode cX12_common 22 = .ok (.ireturn, 1) := by decide +kernel
set_option maxRecDepth 20000 in
theorem ggX12_odds_X12_in : GoodIn wsX12_odds wsX12_in := goodIn_r _ [6] (by decide +kernel) (by decide +kernel)
set_option maxRecDepth 20000 in
theorem gX12_odds_X12_in : GoodIn wsX12_odds (va_wsS RX12 50 yX12_in wsX12_in) := goodIn_app (goodIn_of _ (by decide +kernel)) ggX12_odds_X12_in
set_option maxRecDepth 20000 in
theorem ggX12_odds_X12_isWord : GoodIn wsX12_odds wsX12_isWord := goodIn_r _ [9, 10, 3, 4, 5, 6] (by decide +kernel) (by decide +kernel)
set_option maxRecDepth 20000 in
theorem gX12_odds_X12_isWord : GoodIn wsX12_odds (va_wsS RX12 191 yX12_isWord wsX12_isWord) := goodIn_app (goodIn_of _ (by decide +kernel)) ggX12_odds_X12_isWord
set_option maxRecDepth 20000 in
theorem ggX12_odds_X12_finds : GoodIn wsX12_odds wsX12_finds := goodIn_r _ [14, 15, 16, 100, 101, 102, 103, 104, 105, 106, 107, 108, 109, 110, 111, 112, 113, 114, 115, 116, 117, 118, 119, 120, 121, 122] (by decide +kernel) (by decide +kernel)
set_option maxRecDepth 20000 in
theorem gX12_odds_X12_finds : GoodIn wsX12_odds (wsV RX12 131 RX12 yX12_finds wsX12_finds) := goodIn_app (goodIn_of _ (by decide +kernel)) ggX12_odds_X12_finds
set_option maxRecDepth 20000 in
theorem ggX12_odds_X12_keepAside : GoodIn wsX12_odds wsX12_keepAside := goodIn_r _ [20, 21, 2, 100, 101, 102, 103, 104, 105, 106, 107, 108, 109, 110, 111, 112, 113, 114, 115, 116, 117, 118, 119, 120, 121, 122] (by decide +kernel) (by decide +kernel)
set_option maxRecDepth 20000 in
theorem gX12_odds_X12_keepAside : GoodIn wsX12_odds (wsV RX12 251 RX12 yX12_keepAside wsX12_keepAside) := goodIn_app (goodIn_of _ (by decide +kernel)) ggX12_odds_X12_keepAside
set_option maxRecDepth 20000 in
theorem ggX12_odds_X12_hoursGo : GoodIn wsX12_odds wsX12_hoursGo := goodIn_r _ [25, 26, 27, 28, 5, 29, 2, 30, 31, 32, 33, 3, 4, 6, 34, 35, 36, 37, 38, 39, 40, 41, 42, 43, 44, 45, 46, 47, 48, 49, 50, 51, 52, 53, 54, 55, 56, 57, 58, 59, 60, 61, 62, 63, 64, 65, 66, 67, 68, 69, 70, 71, 72, 73, 74, 75, 76, 77, 78, 79, 80, 81, 82, 83, 84, 85, 86, 87, 88, 89, 90, 91, 92, 100, 101, 102, 103, 104, 105, 106, 107, 108, 109, 110, 111, 112, 113, 114, 115, 116, 117, 118, 119, 120, 121, 122] (by decide +kernel) (by decide +kernel)
set_option maxRecDepth 20000 in
theorem gX12_odds_X12_hoursGo : GoodIn wsX12_odds (wsV RX12 239 RX12 yX12_hoursGo wsX12_hoursGo) := goodIn_app (goodIn_of _ (by decide +kernel)) ggX12_odds_X12_hoursGo
set_option maxRecDepth 20000 in
theorem ggX12_odds_X12_putBack : GoodIn wsX12_odds wsX12_putBack := goodIn_r _ [96, 2, 21, 100, 101, 102, 103, 104, 105, 106, 107, 108, 109, 110, 111, 112, 113, 114, 115, 116, 117, 118, 119, 120, 121, 122] (by decide +kernel) (by decide +kernel)
set_option maxRecDepth 20000 in
theorem gX12_odds_X12_putBack : GoodIn wsX12_odds (wsV RX12 254 RX12 yX12_putBack wsX12_putBack) := goodIn_app (goodIn_of _ (by decide +kernel)) ggX12_odds_X12_putBack
set_option maxRecDepth 20000 in
theorem ggX12_odds_X12_common : GoodIn wsX12_odds wsX12_common := goodIn_r _ [99] (by decide +kernel) (by decide +kernel)
set_option maxRecDepth 20000 in
theorem gX12_odds_X12_common : GoodIn wsX12_odds (va_wsS RX12 274 yX12_common wsX12_common) := goodIn_app (goodIn_of _ (by decide +kernel)) ggX12_odds_X12_common
theorem dX12_odds_0 : decode cX12_odds 0 = .ok (.iload_n 1, 1) := by decide +kernel
theorem dX12_odds_1 : decode cX12_odds 1 = .ok (.i2l, 1) := by decide +kernel
theorem dX12_odds_2 : decode cX12_odds 2 = .ok (.lconst 0, 1) := by decide +kernel
theorem dX12_odds_3 : decode cX12_odds 3 = .ok (.ldc2_w 272, 3) := by decide +kernel
theorem dX12_odds_6 : decode cX12_odds 6 = .ok (.invokestatic 50, 3) := by decide +kernel
theorem dX12_odds_9 : decode cX12_odds 9 = .ok (.ifCond .eq 20, 3) := by decide +kernel
theorem dX12_odds_12 : decode cX12_odds 12 = .ok (.iload_n 2, 1) := by decide +kernel
theorem dX12_odds_13 : decode cX12_odds 13 = .ok (.invokestatic 191, 3) := by decide +kernel
theorem dX12_odds_16 : decode cX12_odds 16 = .ok (.ifCond .eq 13, 3) := by decide +kernel
theorem dX12_odds_19 : decode cX12_odds 19 = .ok (.iload_n 3, 1) := by decide +kernel
theorem dX12_odds_20 : decode cX12_odds 20 = .ok (.i2l, 1) := by decide +kernel
theorem dX12_odds_21 : decode cX12_odds 21 = .ok (.lconst 0, 1) := by decide +kernel
theorem dX12_odds_22 : decode cX12_odds 22 = .ok (.lconst 1, 1) := by decide +kernel
theorem dX12_odds_23 : decode cX12_odds 23 = .ok (.invokestatic 50, 3) := by decide +kernel
theorem dX12_odds_26 : decode cX12_odds 26 = .ok (.ifCond .ne 9, 3) := by decide +kernel
theorem dX12_odds_29 : decode cX12_odds 29 = .ok (.aload_n 0, 1) := by decide +kernel
theorem dX12_odds_30 : decode cX12_odds 30 = .ok (.iconst 1, 1) := by decide +kernel
theorem dX12_odds_31 : decode cX12_odds 31 = .ok (.invokevirtual 131, 3) := by decide +kernel
theorem dX12_odds_34 : decode cX12_odds 34 = .ok (.ireturn, 1) := by decide +kernel
theorem dX12_odds_35 : decode cX12_odds 35 = .ok (.aload_n 0, 1) := by decide +kernel
theorem dX12_odds_36 : decode cX12_odds 36 = .ok (.invokevirtual 251, 3) := by decide +kernel
theorem dX12_odds_39 : decode cX12_odds 39 = .ok (.iconst 0, 1) := by decide +kernel
theorem dX12_odds_40 : decode cX12_odds 40 = .ok (.istore 4, 2) := by decide +kernel
theorem dX12_odds_42 : decode cX12_odds 42 = .ok (.iconst 0, 1) := by decide +kernel
theorem dX12_odds_43 : decode cX12_odds 43 = .ok (.istore 5, 2) := by decide +kernel
theorem dX12_odds_45 : decode cX12_odds 45 = .ok (.iload 5, 2) := by decide +kernel
theorem dX12_odds_47 : decode cX12_odds 47 = .ok (.bipush 12, 2) := by decide +kernel
theorem dX12_odds_49 : decode cX12_odds 49 = .ok (.if_icmp .ge 52, 3) := by decide +kernel
theorem dX12_odds_52 : decode cX12_odds 52 = .ok (.aload_n 0, 1) := by decide +kernel
theorem dX12_odds_53 : decode cX12_odds 53 = .ok (.getfield 7, 3) := by decide +kernel
theorem dX12_odds_56 : decode cX12_odds 56 = .ok (.bipush 24, 2) := by decide +kernel
theorem dX12_odds_58 : decode cX12_odds 58 = .ok (.aload_n 0, 1) := by decide +kernel
theorem dX12_odds_59 : decode cX12_odds 59 = .ok (.getfield 7, 3) := by decide +kernel
theorem dX12_odds_62 : decode cX12_odds 62 = .ok (.iconst 1, 1) := by decide +kernel
theorem dX12_odds_63 : decode cX12_odds 63 = .ok (.iaload, 1) := by decide +kernel
theorem dX12_odds_64 : decode cX12_odds 64 = .ok (.bipush 6, 2) := by decide +kernel
theorem dX12_odds_66 : decode cX12_odds 66 = .ok (.irem, 1) := by decide +kernel
theorem dX12_odds_67 : decode cX12_odds 67 = .ok (.iadd, 1) := by decide +kernel
theorem dX12_odds_68 : decode cX12_odds 68 = .ok (.iload 5, 2) := by decide +kernel
theorem dX12_odds_70 : decode cX12_odds 70 = .ok (.iastore, 1) := by decide +kernel
theorem dX12_odds_71 : decode cX12_odds 71 = .ok (.aload_n 0, 1) := by decide +kernel
theorem dX12_odds_72 : decode cX12_odds 72 = .ok (.iload_n 1, 1) := by decide +kernel
theorem dX12_odds_73 : decode cX12_odds 73 = .ok (.invokevirtual 239, 3) := by decide +kernel
theorem dX12_odds_76 : decode cX12_odds 76 = .ok (.iload 4, 2) := by decide +kernel
theorem dX12_odds_78 : decode cX12_odds 78 = .ok (.aload_n 0, 1) := by decide +kernel
theorem dX12_odds_79 : decode cX12_odds 79 = .ok (.getfield 7, 3) := by decide +kernel
theorem dX12_odds_82 : decode cX12_odds 82 = .ok (.iconst 2, 1) := by decide +kernel
theorem dX12_odds_83 : decode cX12_odds 83 = .ok (.iaload, 1) := by decide +kernel
theorem dX12_odds_84 : decode cX12_odds 84 = .ok (.iload_n 2, 1) := by decide +kernel
theorem dX12_odds_85 : decode cX12_odds 85 = .ok (.ishr, 1) := by decide +kernel
theorem dX12_odds_86 : decode cX12_odds 86 = .ok (.iconst 1, 1) := by decide +kernel
theorem dX12_odds_87 : decode cX12_odds 87 = .ok (.iand, 1) := by decide +kernel
theorem dX12_odds_88 : decode cX12_odds 88 = .ok (.iadd, 1) := by decide +kernel
theorem dX12_odds_89 : decode cX12_odds 89 = .ok (.istore 4, 2) := by decide +kernel
theorem dX12_odds_91 : decode cX12_odds 91 = .ok (.aload_n 0, 1) := by decide +kernel
theorem dX12_odds_92 : decode cX12_odds 92 = .ok (.invokevirtual 254, 3) := by decide +kernel
theorem dX12_odds_95 : decode cX12_odds 95 = .ok (.iinc 5 1, 3) := by decide +kernel
theorem dX12_odds_98 : decode cX12_odds 98 = .ok (.goto (-53), 3) := by decide +kernel
theorem dX12_odds_101 : decode cX12_odds 101 = .ok (.iload_n 3, 1) := by decide +kernel
theorem dX12_odds_102 : decode cX12_odds 102 = .ok (.ifCond .ne 8, 3) := by decide +kernel
theorem dX12_odds_105 : decode cX12_odds 105 = .ok (.iload 4, 2) := by decide +kernel
theorem dX12_odds_107 : decode cX12_odds 107 = .ok (.goto 5, 3) := by decide +kernel
theorem dX12_odds_110 : decode cX12_odds 110 = .ok (.bipush 12, 2) := by decide +kernel
theorem dX12_odds_112 : decode cX12_odds 112 = .ok (.iload 4, 2) := by decide +kernel
theorem dX12_odds_114 : decode cX12_odds 114 = .ok (.bipush 12, 2) := by decide +kernel
theorem dX12_odds_116 : decode cX12_odds 116 = .ok (.invokestatic 274, 3) := by decide +kernel
theorem dX12_odds_119 : decode cX12_odds 119 = .ok (.idiv, 1) := by decide +kernel
theorem dX12_odds_120 : decode cX12_odds 120 = .ok (.ireturn, 1) := by decide +kernel
theorem dX12_ran_0 : decode cX12_ran 0 = .ok (.aload_n 0, 1) := by decide +kernel
theorem dX12_ran_1 : decode cX12_ran 1 = .ok (.getfield 277, 3) := by decide +kernel
theorem dX12_ran_4 : decode cX12_ran 4 = .ok (.bipush 40, 2) := by decide +kernel
theorem dX12_ran_6 : decode cX12_ran 6 = .ok (.if_icmp .ge 23, 3) := by decide +kernel
theorem dX12_ran_9 : decode cX12_ran 9 = .ok (.aload_n 0, 1) := by decide +kernel
theorem dX12_ran_10 : decode cX12_ran 10 = .ok (.getfield 34, 3) := by decide +kernel
theorem dX12_ran_13 : decode cX12_ran 13 = .ok (.aload_n 0, 1) := by decide +kernel
theorem dX12_ran_14 : decode cX12_ran 14 = .ok (.getfield 277, 3) := by decide +kernel
theorem dX12_ran_17 : decode cX12_ran 17 = .ok (.iload_n 1, 1) := by decide +kernel
theorem dX12_ran_18 : decode cX12_ran 18 = .ok (.iastore, 1) := by decide +kernel
theorem dX12_ran_19 : decode cX12_ran 19 = .ok (.aload_n 0, 1) := by decide +kernel
theorem dX12_ran_20 : decode cX12_ran 20 = .ok (.dup, 1) := by decide +kernel
theorem dX12_ran_21 : decode cX12_ran 21 = .ok (.getfield 277, 3) := by decide +kernel
theorem dX12_ran_24 : decode cX12_ran 24 = .ok (.iconst 1, 1) := by decide +kernel
theorem dX12_ran_25 : decode cX12_ran 25 = .ok (.iadd, 1) := by decide +kernel
theorem dX12_ran_26 : decode cX12_ran 26 = .ok (.putfield 277, 3) := by decide +kernel
theorem dX12_ran_29 : decode cX12_ran 29 = .ok (.return_, 1) := by decide +kernel
set_option maxRecDepth 20000 in
theorem ggX12_shinesBy_X12_ran : GoodIn wsX12_shinesBy wsX12_ran := goodIn_r _ [6, 7, 8, 15, 16, 17, 18, 19, 20, 21, 22, 23, 24, 25, 26, 27, 28, 29, 30, 31, 32, 33, 34, 35, 36, 37] (by decide +kernel) (by decide +kernel)
set_option maxRecDepth 20000 in
theorem gX12_shinesBy_X12_ran : GoodIn wsX12_shinesBy (wsV RX12 280 RX12 yX12_ran wsX12_ran) := goodIn_app (goodIn_of _ (by decide +kernel)) ggX12_shinesBy_X12_ran
set_option maxRecDepth 20000 in
theorem ggX12_shinesBy_X12_above : GoodIn wsX12_shinesBy wsX12_above := goodIn_r _ [11] (by decide +kernel) (by decide +kernel)
set_option maxRecDepth 20000 in
theorem gX12_shinesBy_X12_above : GoodIn wsX12_shinesBy (va_wsS RX12 231 yX12_above wsX12_above) := goodIn_app (goodIn_of _ (by decide +kernel)) ggX12_shinesBy_X12_above
set_option maxRecDepth 20000 in
theorem ggX12_shinesBy_X12_shinesBy : GoodIn wsX12_shinesBy wsX12_shinesBy := goodIn_r _ [0, 1, 2, 3, 4, 5, 6, 7, 8, 9, 10, 11, 12, 13, 14, 15, 16, 17, 18, 19, 20, 21, 22, 23, 24, 25, 26, 27, 28, 29, 30, 31, 32, 33, 34, 35, 36, 37] (by decide +kernel) (by decide +kernel)
set_option maxRecDepth 20000 in
theorem gX12_shinesBy_X12_shinesBy : GoodIn wsX12_shinesBy (wsV RX12 286 RX12 yX12_shinesBy wsX12_shinesBy) := goodIn_app (goodIn_of _ (by decide +kernel)) ggX12_shinesBy_X12_shinesBy
theorem dX12_shinesBy_0 : decode cX12_shinesBy 0 = .ok (.iload_n 1, 1) := by decide +kernel
theorem dX12_shinesBy_1 : decode cX12_shinesBy 1 = .ok (.lookupswitch 58 #[(0, 27), (1, 40)], 27) := by decide +kernel
theorem dX12_shinesBy_28 : decode cX12_shinesBy 28 = .ok (.aload_n 0, 1) := by decide +kernel
theorem dX12_shinesBy_29 : decode cX12_shinesBy 29 = .ok (.bipush 10, 2) := by decide +kernel
theorem dX12_shinesBy_31 : decode cX12_shinesBy 31 = .ok (.invokevirtual 280, 3) := by decide +kernel
theorem dX12_shinesBy_34 : decode cX12_shinesBy 34 = .ok (.iload_n 2, 1) := by decide +kernel
theorem dX12_shinesBy_35 : decode cX12_shinesBy 35 = .ok (.aload_n 0, 1) := by decide +kernel
theorem dX12_shinesBy_36 : decode cX12_shinesBy 36 = .ok (.getfield 283, 3) := by decide +kernel
theorem dX12_shinesBy_39 : decode cX12_shinesBy 39 = .ok (.iadd, 1) := by decide +kernel
theorem dX12_shinesBy_40 : decode cX12_shinesBy 40 = .ok (.ireturn, 1) := by decide +kernel
theorem dX12_shinesBy_41 : decode cX12_shinesBy 41 = .ok (.aload_n 0, 1) := by decide +kernel
theorem dX12_shinesBy_42 : decode cX12_shinesBy 42 = .ok (.bipush 20, 2) := by decide +kernel
theorem dX12_shinesBy_44 : decode cX12_shinesBy 44 = .ok (.invokevirtual 280, 3) := by decide +kernel
theorem dX12_shinesBy_47 : decode cX12_shinesBy 47 = .ok (.aload_n 0, 1) := by decide +kernel
theorem dX12_shinesBy_48 : decode cX12_shinesBy 48 = .ok (.iconst 1, 1) := by decide +kernel
theorem dX12_shinesBy_49 : decode cX12_shinesBy 49 = .ok (.invokestatic 231, 3) := by decide +kernel
theorem dX12_shinesBy_52 : decode cX12_shinesBy 52 = .ok (.iload_n 2, 1) := by decide +kernel
theorem dX12_shinesBy_53 : decode cX12_shinesBy 53 = .ok (.invokevirtual 286, 3) := by decide +kernel
theorem dX12_shinesBy_56 : decode cX12_shinesBy 56 = .ok (.iconst 3, 1) := by decide +kernel
theorem dX12_shinesBy_57 : decode cX12_shinesBy 57 = .ok (.imul, 1) := by decide +kernel
theorem dX12_shinesBy_58 : decode cX12_shinesBy 58 = .ok (.ireturn, 1) := by decide +kernel
theorem dX12_shinesBy_59 : decode cX12_shinesBy 59 = .ok (.aload_n 0, 1) := by decide +kernel
theorem dX12_shinesBy_60 : decode cX12_shinesBy 60 = .ok (.iload_n 1, 1) := by decide +kernel
theorem dX12_shinesBy_61 : decode cX12_shinesBy 61 = .ok (.invokestatic 231, 3) := by decide +kernel
theorem dX12_shinesBy_64 : decode cX12_shinesBy 64 = .ok (.iload_n 2, 1) := by decide +kernel
theorem dX12_shinesBy_65 : decode cX12_shinesBy 65 = .ok (.invokevirtual 286, 3) := by decide +kernel
theorem dX12_shinesBy_68 : decode cX12_shinesBy 68 = .ok (.ireturn, 1) := by decide +kernel
set_option maxRecDepth 20000 in
theorem ggX12_dullsBy_X12_ran : GoodIn wsX12_dullsBy wsX12_ran := goodIn_r _ [6, 7, 8, 28, 29, 30, 31, 32, 33, 34, 35, 36, 37, 38, 39, 40, 41, 42, 43, 44, 45, 46, 47, 48, 49, 50] (by decide +kernel) (by decide +kernel)
set_option maxRecDepth 20000 in
theorem gX12_dullsBy_X12_ran : GoodIn wsX12_dullsBy (wsV RX12 280 RX12 yX12_ran wsX12_ran) := goodIn_app (goodIn_of _ (by decide +kernel)) ggX12_dullsBy_X12_ran
set_option maxRecDepth 20000 in
theorem ggX12_dullsBy_X12_of : GoodIn wsX12_dullsBy wsX12_of := goodIn_r _ [12, 13, 28, 29, 30, 31, 32, 33, 34, 35, 36, 37, 38, 39, 40, 41, 42, 43, 44, 45, 46, 47, 48, 49, 50] (by decide +kernel) (by decide +kernel)
set_option maxRecDepth 20000 in
theorem gX12_dullsBy_X12_of : GoodIn wsX12_dullsBy (wsV RX12 151 RX12 yX12_of wsX12_of) := goodIn_app (goodIn_of _ (by decide +kernel)) ggX12_dullsBy_X12_of
set_option maxRecDepth 20000 in
theorem ggX12_dullsBy_X12_shinesBy : GoodIn wsX12_dullsBy wsX12_shinesBy := goodIn_r _ [17, 1, 2, 3, 4, 5, 6, 7, 8, 18, 19, 20, 14, 15, 16, 28, 29, 30, 31, 32, 33, 34, 35, 36, 37, 38, 39, 40, 41, 42, 43, 44, 45, 46, 47, 48, 49, 50] (by decide +kernel) (by decide +kernel)
set_option maxRecDepth 20000 in
theorem gX12_dullsBy_X12_shinesBy : GoodIn wsX12_dullsBy (wsV RX12 286 RX12 yX12_shinesBy wsX12_shinesBy) := goodIn_app (goodIn_of _ (by decide +kernel)) ggX12_dullsBy_X12_shinesBy
set_option maxRecDepth 20000 in
theorem ggX12_dullsBy_X12_above : GoodIn wsX12_dullsBy wsX12_above := goodIn_r _ [20] (by decide +kernel) (by decide +kernel)
set_option maxRecDepth 20000 in
theorem gX12_dullsBy_X12_above : GoodIn wsX12_dullsBy (va_wsS RX12 231 yX12_above wsX12_above) := goodIn_app (goodIn_of _ (by decide +kernel)) ggX12_dullsBy_X12_above
set_option maxRecDepth 20000 in
theorem ggX12_dullsBy_X12_dullsBy : GoodIn wsX12_dullsBy wsX12_dullsBy := goodIn_r _ [0, 1, 2, 3, 4, 5, 6, 7, 8, 9, 10, 11, 12, 13, 14, 15, 16, 17, 18, 19, 20, 21, 22, 23, 24, 25, 26, 27, 28, 29, 30, 31, 32, 33, 34, 35, 36, 37, 38, 39, 40, 41, 42, 43, 44, 45, 46, 47, 48, 49, 50] (by decide +kernel) (by decide +kernel)
set_option maxRecDepth 20000 in
theorem gX12_dullsBy_X12_dullsBy : GoodIn wsX12_dullsBy (wsV RX12 289 RX12 yX12_dullsBy wsX12_dullsBy) := goodIn_app (goodIn_of _ (by decide +kernel)) ggX12_dullsBy_X12_dullsBy
set_option maxRecDepth 20000 in
theorem ggX12_dullsBy_X12_holdsBy : GoodIn wsX12_dullsBy wsX12_holdsBy := goodIn_r _ [27, 1, 2, 3, 4, 5, 6, 7, 8, 9, 10, 11, 12, 13, 18, 19, 20, 24, 25, 26, 28, 29, 30, 31, 32, 33, 34, 35, 36, 37, 38, 39, 40, 41, 42, 43, 44, 45, 46, 47, 48, 49, 50] (by decide +kernel) (by decide +kernel)
set_option maxRecDepth 20000 in
theorem gX12_dullsBy_X12_holdsBy : GoodIn wsX12_dullsBy (wsV RX12 292 RX12 yX12_holdsBy wsX12_holdsBy) := goodIn_app (goodIn_of _ (by decide +kernel)) ggX12_dullsBy_X12_holdsBy
theorem dX12_dullsBy_0 : decode cX12_dullsBy 0 = .ok (.iconst 0, 1) := by decide +kernel
theorem dX12_dullsBy_1 : decode cX12_dullsBy 1 = .ok (.istore_n 3, 1) := by decide +kernel
theorem dX12_dullsBy_2 : decode cX12_dullsBy 2 = .ok (.iload_n 1, 1) := by decide +kernel
theorem dX12_dullsBy_3 : decode cX12_dullsBy 3 = .ok (.lookupswitch 107 #[(0, 33), (2, 56), (5, 89)], 33) := by decide +kernel
theorem dX12_dullsBy_36 : decode cX12_dullsBy 36 = .ok (.aload_n 0, 1) := by decide +kernel
theorem dX12_dullsBy_37 : decode cX12_dullsBy 37 = .ok (.bipush 11, 2) := by decide +kernel
theorem dX12_dullsBy_39 : decode cX12_dullsBy 39 = .ok (.invokevirtual 280, 3) := by decide +kernel
theorem dX12_dullsBy_42 : decode cX12_dullsBy 42 = .ok (.aload_n 0, 1) := by decide +kernel
theorem dX12_dullsBy_43 : decode cX12_dullsBy 43 = .ok (.aload_n 0, 1) := by decide +kernel
theorem dX12_dullsBy_44 : decode cX12_dullsBy 44 = .ok (.aload_n 0, 1) := by decide +kernel
theorem dX12_dullsBy_45 : decode cX12_dullsBy 45 = .ok (.getfield 283, 3) := by decide +kernel
theorem dX12_dullsBy_48 : decode cX12_dullsBy 48 = .ok (.iconst 0, 1) := by decide +kernel
theorem dX12_dullsBy_49 : decode cX12_dullsBy 49 = .ok (.invokevirtual 151, 3) := by decide +kernel
theorem dX12_dullsBy_52 : decode cX12_dullsBy 52 = .ok (.iload_n 2, 1) := by decide +kernel
theorem dX12_dullsBy_53 : decode cX12_dullsBy 53 = .ok (.invokevirtual 286, 3) := by decide +kernel
theorem dX12_dullsBy_56 : decode cX12_dullsBy 56 = .ok (.iconst 2, 1) := by decide +kernel
theorem dX12_dullsBy_57 : decode cX12_dullsBy 57 = .ok (.imul, 1) := by decide +kernel
theorem dX12_dullsBy_58 : decode cX12_dullsBy 58 = .ok (.ireturn, 1) := by decide +kernel
theorem dX12_dullsBy_59 : decode cX12_dullsBy 59 = .ok (.aload_n 0, 1) := by decide +kernel
theorem dX12_dullsBy_60 : decode cX12_dullsBy 60 = .ok (.bipush 30, 2) := by decide +kernel
theorem dX12_dullsBy_62 : decode cX12_dullsBy 62 = .ok (.invokevirtual 280, 3) := by decide +kernel
theorem dX12_dullsBy_65 : decode cX12_dullsBy 65 = .ok (.aload_n 0, 1) := by decide +kernel
theorem dX12_dullsBy_66 : decode cX12_dullsBy 66 = .ok (.iconst 2, 1) := by decide +kernel
theorem dX12_dullsBy_67 : decode cX12_dullsBy 67 = .ok (.invokestatic 231, 3) := by decide +kernel
theorem dX12_dullsBy_70 : decode cX12_dullsBy 70 = .ok (.iload_n 2, 1) := by decide +kernel
theorem dX12_dullsBy_71 : decode cX12_dullsBy 71 = .ok (.invokevirtual 289, 3) := by decide +kernel
theorem dX12_dullsBy_74 : decode cX12_dullsBy 74 = .ok (.istore_n 3, 1) := by decide +kernel
theorem dX12_dullsBy_75 : decode cX12_dullsBy 75 = .ok (.iload_n 3, 1) := by decide +kernel
theorem dX12_dullsBy_76 : decode cX12_dullsBy 76 = .ok (.aload_n 0, 1) := by decide +kernel
theorem dX12_dullsBy_77 : decode cX12_dullsBy 77 = .ok (.aload_n 0, 1) := by decide +kernel
theorem dX12_dullsBy_78 : decode cX12_dullsBy 78 = .ok (.aload_n 0, 1) := by decide +kernel
theorem dX12_dullsBy_79 : decode cX12_dullsBy 79 = .ok (.getfield 283, 3) := by decide +kernel
theorem dX12_dullsBy_82 : decode cX12_dullsBy 82 = .ok (.iconst 0, 1) := by decide +kernel
theorem dX12_dullsBy_83 : decode cX12_dullsBy 83 = .ok (.invokevirtual 151, 3) := by decide +kernel
theorem dX12_dullsBy_86 : decode cX12_dullsBy 86 = .ok (.iconst 1, 1) := by decide +kernel
theorem dX12_dullsBy_87 : decode cX12_dullsBy 87 = .ok (.invokevirtual 292, 3) := by decide +kernel
theorem dX12_dullsBy_90 : decode cX12_dullsBy 90 = .ok (.isub, 1) := by decide +kernel
theorem dX12_dullsBy_91 : decode cX12_dullsBy 91 = .ok (.ireturn, 1) := by decide +kernel
theorem dX12_dullsBy_92 : decode cX12_dullsBy 92 = .ok (.aload_n 0, 1) := by decide +kernel
theorem dX12_dullsBy_93 : decode cX12_dullsBy 93 = .ok (.bipush 60, 2) := by decide +kernel
theorem dX12_dullsBy_95 : decode cX12_dullsBy 95 = .ok (.invokevirtual 280, 3) := by decide +kernel
theorem dX12_dullsBy_98 : decode cX12_dullsBy 98 = .ok (.aload_n 0, 1) := by decide +kernel
theorem dX12_dullsBy_99 : decode cX12_dullsBy 99 = .ok (.iconst 5, 1) := by decide +kernel
theorem dX12_dullsBy_100 : decode cX12_dullsBy 100 = .ok (.invokestatic 231, 3) := by decide +kernel
theorem dX12_dullsBy_103 : decode cX12_dullsBy 103 = .ok (.iload_n 2, 1) := by decide +kernel
theorem dX12_dullsBy_104 : decode cX12_dullsBy 104 = .ok (.iconst 1, 1) := by decide +kernel
theorem dX12_dullsBy_105 : decode cX12_dullsBy 105 = .ok (.iadd, 1) := by decide +kernel
theorem dX12_dullsBy_106 : decode cX12_dullsBy 106 = .ok (.invokevirtual 289, 3) := by decide +kernel
theorem dX12_dullsBy_109 : decode cX12_dullsBy 109 = .ok (.ireturn, 1) := by decide +kernel
theorem dX12_dullsBy_110 : decode cX12_dullsBy 110 = .ok (.aload_n 0, 1) := by decide +kernel
theorem dX12_dullsBy_111 : decode cX12_dullsBy 111 = .ok (.iload_n 1, 1) := by decide +kernel
theorem dX12_dullsBy_112 : decode cX12_dullsBy 112 = .ok (.invokestatic 231, 3) := by decide +kernel
theorem dX12_dullsBy_115 : decode cX12_dullsBy 115 = .ok (.iload_n 2, 1) := by decide +kernel
theorem dX12_dullsBy_116 : decode cX12_dullsBy 116 = .ok (.invokevirtual 289, 3) := by decide +kernel
theorem dX12_dullsBy_119 : decode cX12_dullsBy 119 = .ok (.ireturn, 1) := by decide +kernel
set_option maxRecDepth 20000 in
theorem ggX12_holdsBy_X12_ran : GoodIn wsX12_holdsBy wsX12_ran := goodIn_r _ [6, 7, 8, 20, 21, 22, 23, 24, 25, 26, 27, 28, 29, 30, 31, 32, 33, 34, 35, 36, 37, 38, 39, 40, 41, 42] (by decide +kernel) (by decide +kernel)
set_option maxRecDepth 20000 in
theorem gX12_holdsBy_X12_ran : GoodIn wsX12_holdsBy (wsV RX12 280 RX12 yX12_ran wsX12_ran) := goodIn_app (goodIn_of _ (by decide +kernel)) ggX12_holdsBy_X12_ran
set_option maxRecDepth 20000 in
theorem ggX12_holdsBy_X12_of : GoodIn wsX12_holdsBy wsX12_of := goodIn_r _ [12, 13, 20, 21, 22, 23, 24, 25, 26, 27, 28, 29, 30, 31, 32, 33, 34, 35, 36, 37, 38, 39, 40, 41, 42] (by decide +kernel) (by decide +kernel)
set_option maxRecDepth 20000 in
theorem gX12_holdsBy_X12_of : GoodIn wsX12_holdsBy (wsV RX12 151 RX12 yX12_of wsX12_of) := goodIn_app (goodIn_of _ (by decide +kernel)) ggX12_holdsBy_X12_of
set_option maxRecDepth 20000 in
theorem ggX12_holdsBy_X12_above : GoodIn wsX12_holdsBy wsX12_above := goodIn_r _ [16] (by decide +kernel) (by decide +kernel)
set_option maxRecDepth 20000 in
theorem gX12_holdsBy_X12_above : GoodIn wsX12_holdsBy (va_wsS RX12 231 yX12_above wsX12_above) := goodIn_app (goodIn_of _ (by decide +kernel)) ggX12_holdsBy_X12_above
set_option maxRecDepth 20000 in
theorem ggX12_holdsBy_X12_holdsBy : GoodIn wsX12_holdsBy wsX12_holdsBy := goodIn_r _ [0, 1, 2, 3, 4, 5, 6, 7, 8, 9, 10, 11, 12, 13, 14, 15, 16, 17, 18, 19, 20, 21, 22, 23, 24, 25, 26, 27, 28, 29, 30, 31, 32, 33, 34, 35, 36, 37, 38, 39, 40, 41, 42] (by decide +kernel) (by decide +kernel)
set_option maxRecDepth 20000 in
theorem gX12_holdsBy_X12_holdsBy : GoodIn wsX12_holdsBy (wsV RX12 292 RX12 yX12_holdsBy wsX12_holdsBy) := goodIn_app (goodIn_of _ (by decide +kernel)) ggX12_holdsBy_X12_holdsBy
theorem dX12_holdsBy_0 : decode cX12_holdsBy 0 = .ok (.iload_n 1, 1) := by decide +kernel
theorem dX12_holdsBy_1 : decode cX12_holdsBy 1 = .ok (.lookupswitch 92 #[(0, 35), (3, 53), (6, 70)], 35) := by decide +kernel
theorem dX12_holdsBy_36 : decode cX12_holdsBy 36 = .ok (.aload_n 0, 1) := by decide +kernel
theorem dX12_holdsBy_37 : decode cX12_holdsBy 37 = .ok (.bipush 12, 2) := by decide +kernel
theorem dX12_holdsBy_39 : decode cX12_holdsBy 39 = .ok (.invokevirtual 280, 3) := by decide +kernel
theorem dX12_holdsBy_42 : decode cX12_holdsBy 42 = .ok (.iload_n 2, 1) := by decide +kernel
theorem dX12_holdsBy_43 : decode cX12_holdsBy 43 = .ok (.aload_n 0, 1) := by decide +kernel
theorem dX12_holdsBy_44 : decode cX12_holdsBy 44 = .ok (.aload_n 0, 1) := by decide +kernel
theorem dX12_holdsBy_45 : decode cX12_holdsBy 45 = .ok (.getfield 283, 3) := by decide +kernel
theorem dX12_holdsBy_48 : decode cX12_holdsBy 48 = .ok (.iconst 1, 1) := by decide +kernel
theorem dX12_holdsBy_49 : decode cX12_holdsBy 49 = .ok (.invokevirtual 151, 3) := by decide +kernel
theorem dX12_holdsBy_52 : decode cX12_holdsBy 52 = .ok (.isub, 1) := by decide +kernel
theorem dX12_holdsBy_53 : decode cX12_holdsBy 53 = .ok (.ireturn, 1) := by decide +kernel
theorem dX12_holdsBy_54 : decode cX12_holdsBy 54 = .ok (.aload_n 0, 1) := by decide +kernel
theorem dX12_holdsBy_55 : decode cX12_holdsBy 55 = .ok (.bipush 40, 2) := by decide +kernel
theorem dX12_holdsBy_57 : decode cX12_holdsBy 57 = .ok (.invokevirtual 280, 3) := by decide +kernel
theorem dX12_holdsBy_60 : decode cX12_holdsBy 60 = .ok (.aload_n 0, 1) := by decide +kernel
theorem dX12_holdsBy_61 : decode cX12_holdsBy 61 = .ok (.iconst 3, 1) := by decide +kernel
theorem dX12_holdsBy_62 : decode cX12_holdsBy 62 = .ok (.invokestatic 231, 3) := by decide +kernel
theorem dX12_holdsBy_65 : decode cX12_holdsBy 65 = .ok (.iload_n 2, 1) := by decide +kernel
theorem dX12_holdsBy_66 : decode cX12_holdsBy 66 = .ok (.invokevirtual 292, 3) := by decide +kernel
theorem dX12_holdsBy_69 : decode cX12_holdsBy 69 = .ok (.ineg, 1) := by decide +kernel
theorem dX12_holdsBy_70 : decode cX12_holdsBy 70 = .ok (.ireturn, 1) := by decide +kernel
theorem dX12_holdsBy_71 : decode cX12_holdsBy 71 = .ok (.aload_n 0, 1) := by decide +kernel
theorem dX12_holdsBy_72 : decode cX12_holdsBy 72 = .ok (.bipush 70, 2) := by decide +kernel
theorem dX12_holdsBy_74 : decode cX12_holdsBy 74 = .ok (.invokevirtual 280, 3) := by decide +kernel
theorem dX12_holdsBy_77 : decode cX12_holdsBy 77 = .ok (.aload_n 0, 1) := by decide +kernel
theorem dX12_holdsBy_78 : decode cX12_holdsBy 78 = .ok (.bipush 6, 2) := by decide +kernel
theorem dX12_holdsBy_80 : decode cX12_holdsBy 80 = .ok (.invokestatic 231, 3) := by decide +kernel
theorem dX12_holdsBy_83 : decode cX12_holdsBy 83 = .ok (.iload_n 2, 1) := by decide +kernel
theorem dX12_holdsBy_84 : decode cX12_holdsBy 84 = .ok (.invokevirtual 292, 3) := by decide +kernel
theorem dX12_holdsBy_87 : decode cX12_holdsBy 87 = .ok (.aload_n 0, 1) := by decide +kernel
theorem dX12_holdsBy_88 : decode cX12_holdsBy 88 = .ok (.getfield 283, 3) := by decide +kernel
theorem dX12_holdsBy_91 : decode cX12_holdsBy 91 = .ok (.ixor, 1) := by decide +kernel
theorem dX12_holdsBy_92 : decode cX12_holdsBy 92 = .ok (.ireturn, 1) := by decide +kernel
theorem dX12_holdsBy_93 : decode cX12_holdsBy 93 = .ok (.aload_n 0, 1) := by decide +kernel
theorem dX12_holdsBy_94 : decode cX12_holdsBy 94 = .ok (.iload_n 1, 1) := by decide +kernel
theorem dX12_holdsBy_95 : decode cX12_holdsBy 95 = .ok (.invokestatic 231, 3) := by decide +kernel
theorem dX12_holdsBy_98 : decode cX12_holdsBy 98 = .ok (.iload_n 2, 1) := by decide +kernel
theorem dX12_holdsBy_99 : decode cX12_holdsBy 99 = .ok (.invokevirtual 292, 3) := by decide +kernel
theorem dX12_holdsBy_102 : decode cX12_holdsBy 102 = .ok (.ireturn, 1) := by decide +kernel
set_option maxRecDepth 20000 in
theorem ggX12_tellsBy_X12_ran : GoodIn wsX12_tellsBy wsX12_ran := goodIn_r _ [6, 7, 8, 32, 33, 34, 35, 36, 37, 38, 39, 40, 41, 42, 43, 44, 45, 46, 47, 48, 49, 50, 51, 52, 53, 54] (by decide +kernel) (by decide +kernel)
set_option maxRecDepth 20000 in
theorem gX12_tellsBy_X12_ran : GoodIn wsX12_tellsBy (wsV RX12 280 RX12 yX12_ran wsX12_ran) := goodIn_app (goodIn_of _ (by decide +kernel)) ggX12_tellsBy_X12_ran
set_option maxRecDepth 20000 in
theorem ggX12_tellsBy_X12_of : GoodIn wsX12_tellsBy wsX12_of := goodIn_r _ [12, 13, 32, 33, 34, 35, 36, 37, 38, 39, 40, 41, 42, 43, 44, 45, 46, 47, 48, 49, 50, 51, 52, 53, 54] (by decide +kernel) (by decide +kernel)
set_option maxRecDepth 20000 in
theorem gX12_tellsBy_X12_of : GoodIn wsX12_tellsBy (wsV RX12 151 RX12 yX12_of wsX12_of) := goodIn_app (goodIn_of _ (by decide +kernel)) ggX12_tellsBy_X12_of
set_option maxRecDepth 20000 in
theorem ggX12_tellsBy_X12_dullsBy : GoodIn wsX12_tellsBy wsX12_dullsBy := goodIn_r _ [17, 1, 2, 3, 4, 5, 6, 7, 8, 9, 10, 11, 12, 13, 18, 19, 20, 21, 22, 23, 24, 14, 15, 16, 25, 26, 27, 28, 32, 33, 34, 35, 36, 37, 38, 39, 40, 41, 42, 43, 44, 45, 46, 47, 48, 49, 50, 51, 52, 53, 54] (by decide +kernel) (by decide +kernel)
set_option maxRecDepth 20000 in
theorem gX12_tellsBy_X12_dullsBy : GoodIn wsX12_tellsBy (wsV RX12 289 RX12 yX12_dullsBy wsX12_dullsBy) := goodIn_app (goodIn_of _ (by decide +kernel)) ggX12_tellsBy_X12_dullsBy
set_option maxRecDepth 20000 in
theorem ggX12_tellsBy_X12_holdsBy : GoodIn wsX12_tellsBy wsX12_holdsBy := goodIn_r _ [28, 1, 2, 3, 4, 5, 6, 7, 8, 9, 10, 11, 12, 13, 22, 23, 24, 25, 26, 27, 32, 33, 34, 35, 36, 37, 38, 39, 40, 41, 42, 43, 44, 45, 46, 47, 48, 49, 50, 51, 52, 53, 54] (by decide +kernel) (by decide +kernel)
set_option maxRecDepth 20000 in
theorem gX12_tellsBy_X12_holdsBy : GoodIn wsX12_tellsBy (wsV RX12 292 RX12 yX12_holdsBy wsX12_holdsBy) := goodIn_app (goodIn_of _ (by decide +kernel)) ggX12_tellsBy_X12_holdsBy
set_option maxRecDepth 20000 in
theorem ggX12_tellsBy_X12_above : GoodIn wsX12_tellsBy wsX12_above := goodIn_r _ [24] (by decide +kernel) (by decide +kernel)
set_option maxRecDepth 20000 in
theorem gX12_tellsBy_X12_above : GoodIn wsX12_tellsBy (va_wsS RX12 231 yX12_above wsX12_above) := goodIn_app (goodIn_of _ (by decide +kernel)) ggX12_tellsBy_X12_above
set_option maxRecDepth 20000 in
theorem ggX12_tellsBy_X12_tellsBy : GoodIn wsX12_tellsBy wsX12_tellsBy := goodIn_r _ [0, 1, 2, 3, 4, 5, 6, 7, 8, 9, 10, 11, 12, 13, 14, 15, 16, 17, 18, 19, 20, 21, 22, 23, 24, 25, 26, 27, 28, 29, 30, 31, 32, 33, 34, 35, 36, 37, 38, 39, 40, 41, 42, 43, 44, 45, 46, 47, 48, 49, 50, 51, 52, 53, 54] (by decide +kernel) (by decide +kernel)
set_option maxRecDepth 20000 in
theorem gX12_tellsBy_X12_tellsBy : GoodIn wsX12_tellsBy (wsV RX12 295 RX12 yX12_tellsBy wsX12_tellsBy) := goodIn_app (goodIn_of _ (by decide +kernel)) ggX12_tellsBy_X12_tellsBy
set_option maxRecDepth 20000 in
theorem ggX12_tellsBy_X12_shinesBy : GoodIn wsX12_tellsBy wsX12_shinesBy := goodIn_r _ [21, 1, 2, 3, 4, 5, 6, 7, 8, 22, 23, 24, 18, 19, 20, 32, 33, 34, 35, 36, 37, 38, 39, 40, 41, 42, 43, 44, 45, 46, 47, 48, 49, 50, 51, 52, 53, 54] (by decide +kernel) (by decide +kernel)
set_option maxRecDepth 20000 in
theorem gX12_tellsBy_X12_shinesBy : GoodIn wsX12_tellsBy (wsV RX12 286 RX12 yX12_shinesBy wsX12_shinesBy) := goodIn_app (goodIn_of _ (by decide +kernel)) ggX12_tellsBy_X12_shinesBy
theorem dX12_tellsBy_0 : decode cX12_tellsBy 0 = .ok (.iconst 0, 1) := by decide +kernel
theorem dX12_tellsBy_1 : decode cX12_tellsBy 1 = .ok (.istore_n 3, 1) := by decide +kernel
theorem dX12_tellsBy_2 : decode cX12_tellsBy 2 = .ok (.iload_n 1, 1) := by decide +kernel
theorem dX12_tellsBy_3 : decode cX12_tellsBy 3 = .ok (.lookupswitch 138 #[(0, 33), (4, 71), (6, 104)], 33) := by decide +kernel
theorem dX12_tellsBy_36 : decode cX12_tellsBy 36 = .ok (.aload_n 0, 1) := by decide +kernel
theorem dX12_tellsBy_37 : decode cX12_tellsBy 37 = .ok (.bipush 13, 2) := by decide +kernel
theorem dX12_tellsBy_39 : decode cX12_tellsBy 39 = .ok (.invokevirtual 280, 3) := by decide +kernel
theorem dX12_tellsBy_42 : decode cX12_tellsBy 42 = .ok (.aload_n 0, 1) := by decide +kernel
theorem dX12_tellsBy_43 : decode cX12_tellsBy 43 = .ok (.aload_n 0, 1) := by decide +kernel
theorem dX12_tellsBy_44 : decode cX12_tellsBy 44 = .ok (.aload_n 0, 1) := by decide +kernel
theorem dX12_tellsBy_45 : decode cX12_tellsBy 45 = .ok (.getfield 283, 3) := by decide +kernel
theorem dX12_tellsBy_48 : decode cX12_tellsBy 48 = .ok (.iconst 0, 1) := by decide +kernel
theorem dX12_tellsBy_49 : decode cX12_tellsBy 49 = .ok (.invokevirtual 151, 3) := by decide +kernel
theorem dX12_tellsBy_52 : decode cX12_tellsBy 52 = .ok (.iload_n 2, 1) := by decide +kernel
theorem dX12_tellsBy_53 : decode cX12_tellsBy 53 = .ok (.invokevirtual 289, 3) := by decide +kernel
theorem dX12_tellsBy_56 : decode cX12_tellsBy 56 = .ok (.istore_n 3, 1) := by decide +kernel
theorem dX12_tellsBy_57 : decode cX12_tellsBy 57 = .ok (.iload_n 3, 1) := by decide +kernel
theorem dX12_tellsBy_58 : decode cX12_tellsBy 58 = .ok (.aload_n 0, 1) := by decide +kernel
theorem dX12_tellsBy_59 : decode cX12_tellsBy 59 = .ok (.aload_n 0, 1) := by decide +kernel
theorem dX12_tellsBy_60 : decode cX12_tellsBy 60 = .ok (.aload_n 0, 1) := by decide +kernel
theorem dX12_tellsBy_61 : decode cX12_tellsBy 61 = .ok (.getfield 283, 3) := by decide +kernel
theorem dX12_tellsBy_64 : decode cX12_tellsBy 64 = .ok (.iconst 0, 1) := by decide +kernel
theorem dX12_tellsBy_65 : decode cX12_tellsBy 65 = .ok (.invokevirtual 151, 3) := by decide +kernel
theorem dX12_tellsBy_68 : decode cX12_tellsBy 68 = .ok (.iload_n 2, 1) := by decide +kernel
theorem dX12_tellsBy_69 : decode cX12_tellsBy 69 = .ok (.invokevirtual 292, 3) := by decide +kernel
theorem dX12_tellsBy_72 : decode cX12_tellsBy 72 = .ok (.ixor, 1) := by decide +kernel
theorem dX12_tellsBy_73 : decode cX12_tellsBy 73 = .ok (.ireturn, 1) := by decide +kernel
theorem dX12_tellsBy_74 : decode cX12_tellsBy 74 = .ok (.aload_n 0, 1) := by decide +kernel
theorem dX12_tellsBy_75 : decode cX12_tellsBy 75 = .ok (.bipush 50, 2) := by decide +kernel
theorem dX12_tellsBy_77 : decode cX12_tellsBy 77 = .ok (.invokevirtual 280, 3) := by decide +kernel
theorem dX12_tellsBy_80 : decode cX12_tellsBy 80 = .ok (.aload_n 0, 1) := by decide +kernel
theorem dX12_tellsBy_81 : decode cX12_tellsBy 81 = .ok (.iconst 4, 1) := by decide +kernel
theorem dX12_tellsBy_82 : decode cX12_tellsBy 82 = .ok (.invokestatic 231, 3) := by decide +kernel
theorem dX12_tellsBy_85 : decode cX12_tellsBy 85 = .ok (.iload_n 2, 1) := by decide +kernel
theorem dX12_tellsBy_86 : decode cX12_tellsBy 86 = .ok (.invokevirtual 295, 3) := by decide +kernel
theorem dX12_tellsBy_89 : decode cX12_tellsBy 89 = .ok (.istore_n 3, 1) := by decide +kernel
theorem dX12_tellsBy_90 : decode cX12_tellsBy 90 = .ok (.iload_n 3, 1) := by decide +kernel
theorem dX12_tellsBy_91 : decode cX12_tellsBy 91 = .ok (.aload_n 0, 1) := by decide +kernel
theorem dX12_tellsBy_92 : decode cX12_tellsBy 92 = .ok (.aload_n 0, 1) := by decide +kernel
theorem dX12_tellsBy_93 : decode cX12_tellsBy 93 = .ok (.aload_n 0, 1) := by decide +kernel
theorem dX12_tellsBy_94 : decode cX12_tellsBy 94 = .ok (.getfield 283, 3) := by decide +kernel
theorem dX12_tellsBy_97 : decode cX12_tellsBy 97 = .ok (.iconst 0, 1) := by decide +kernel
theorem dX12_tellsBy_98 : decode cX12_tellsBy 98 = .ok (.invokevirtual 151, 3) := by decide +kernel
theorem dX12_tellsBy_101 : decode cX12_tellsBy 101 = .ok (.iconst 2, 1) := by decide +kernel
theorem dX12_tellsBy_102 : decode cX12_tellsBy 102 = .ok (.invokevirtual 286, 3) := by decide +kernel
theorem dX12_tellsBy_105 : decode cX12_tellsBy 105 = .ok (.isub, 1) := by decide +kernel
theorem dX12_tellsBy_106 : decode cX12_tellsBy 106 = .ok (.ireturn, 1) := by decide +kernel
theorem dX12_tellsBy_107 : decode cX12_tellsBy 107 = .ok (.aload_n 0, 1) := by decide +kernel
theorem dX12_tellsBy_108 : decode cX12_tellsBy 108 = .ok (.bipush 71, 2) := by decide +kernel
theorem dX12_tellsBy_110 : decode cX12_tellsBy 110 = .ok (.invokevirtual 280, 3) := by decide +kernel
theorem dX12_tellsBy_113 : decode cX12_tellsBy 113 = .ok (.aload_n 0, 1) := by decide +kernel
theorem dX12_tellsBy_114 : decode cX12_tellsBy 114 = .ok (.aload_n 0, 1) := by decide +kernel
theorem dX12_tellsBy_115 : decode cX12_tellsBy 115 = .ok (.aload_n 0, 1) := by decide +kernel
theorem dX12_tellsBy_116 : decode cX12_tellsBy 116 = .ok (.getfield 283, 3) := by decide +kernel
theorem dX12_tellsBy_119 : decode cX12_tellsBy 119 = .ok (.iconst 0, 1) := by decide +kernel
theorem dX12_tellsBy_120 : decode cX12_tellsBy 120 = .ok (.invokevirtual 151, 3) := by decide +kernel
theorem dX12_tellsBy_123 : decode cX12_tellsBy 123 = .ok (.iload_n 2, 1) := by decide +kernel
theorem dX12_tellsBy_124 : decode cX12_tellsBy 124 = .ok (.invokevirtual 289, 3) := by decide +kernel
theorem dX12_tellsBy_127 : decode cX12_tellsBy 127 = .ok (.istore_n 3, 1) := by decide +kernel
theorem dX12_tellsBy_128 : decode cX12_tellsBy 128 = .ok (.iload_n 3, 1) := by decide +kernel
theorem dX12_tellsBy_129 : decode cX12_tellsBy 129 = .ok (.aload_n 0, 1) := by decide +kernel
theorem dX12_tellsBy_130 : decode cX12_tellsBy 130 = .ok (.bipush 6, 2) := by decide +kernel
theorem dX12_tellsBy_132 : decode cX12_tellsBy 132 = .ok (.invokestatic 231, 3) := by decide +kernel
theorem dX12_tellsBy_135 : decode cX12_tellsBy 135 = .ok (.iload_n 2, 1) := by decide +kernel
theorem dX12_tellsBy_136 : decode cX12_tellsBy 136 = .ok (.invokevirtual 295, 3) := by decide +kernel
theorem dX12_tellsBy_139 : decode cX12_tellsBy 139 = .ok (.isub, 1) := by decide +kernel
