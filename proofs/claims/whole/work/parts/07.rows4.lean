theorem dX12_lasts_23 : decode cX12_lasts 23 = .ok (.if_icmp .ge 21, 3) := by decide +kernel
theorem dX12_lasts_26 : decode cX12_lasts 26 = .ok (.aload_n 0, 1) := by decide +kernel
theorem dX12_lasts_27 : decode cX12_lasts 27 = .ok (.iload_n 1, 1) := by decide +kernel
theorem dX12_lasts_28 : decode cX12_lasts 28 = .ok (.invokevirtual 175, 3) := by decide +kernel
theorem dX12_lasts_31 : decode cX12_lasts 31 = .ok (.ifCond .ne 13, 3) := by decide +kernel
theorem dX12_lasts_34 : decode cX12_lasts 34 = .ok (.aload_n 0, 1) := by decide +kernel
theorem dX12_lasts_35 : decode cX12_lasts 35 = .ok (.invokevirtual 188, 3) := by decide +kernel
theorem dX12_lasts_38 : decode cX12_lasts 38 = .ok (.iinc 2 1, 3) := by decide +kernel
theorem dX12_lasts_41 : decode cX12_lasts 41 = .ok (.goto (-21), 3) := by decide +kernel
theorem dX12_lasts_44 : decode cX12_lasts 44 = .ok (.aload_n 0, 1) := by decide +kernel
theorem dX12_lasts_45 : decode cX12_lasts 45 = .ok (.iload_n 1, 1) := by decide +kernel
theorem dX12_lasts_46 : decode cX12_lasts 46 = .ok (.invokevirtual 175, 3) := by decide +kernel
theorem dX12_lasts_49 : decode cX12_lasts 49 = .ok (.istore_n 3, 1) := by decide +kernel
theorem dX12_lasts_50 : decode cX12_lasts 50 = .ok (.aload_n 0, 1) := by decide +kernel
theorem dX12_lasts_51 : decode cX12_lasts 51 = .ok (.invokevirtual 254, 3) := by decide +kernel
theorem dX12_lasts_54 : decode cX12_lasts 54 = .ok (.iload_n 3, 1) := by decide +kernel
theorem dX12_lasts_55 : decode cX12_lasts 55 = .ok (.ifCond .eq 7, 3) := by decide +kernel
theorem dX12_lasts_58 : decode cX12_lasts 58 = .ok (.iload_n 2, 1) := by decide +kernel
theorem dX12_lasts_59 : decode cX12_lasts 59 = .ok (.goto 8, 3) := by decide +kernel
theorem dX12_lasts_62 : decode cX12_lasts 62 = .ok (.aload_n 0, 1) := by decide +kernel
theorem dX12_lasts_63 : decode cX12_lasts 63 = .ok (.iconst 2, 1) := by decide +kernel
theorem dX12_lasts_64 : decode cX12_lasts 64 = .ok (.invokevirtual 131, 3) := by decide +kernel
theorem dX12_lasts_67 : decode cX12_lasts 67 = .ok (.ireturn, 1) := by decide +kernel
set_option maxRecDepth 20000 in
theorem ggX12_silverFor_X12_isSpoon : GoodIn wsX12_silverFor wsX12_isSpoon := goodIn_r _ [5, 6, 7, 8, 4, 9, 96, 97, 98, 99, 100, 101, 102, 103, 104, 105, 106, 107, 108, 109, 110, 111, 112, 113, 114, 115, 116, 117, 118] rfl (by decide +kernel)
set_option maxRecDepth 20000 in
theorem gX12_silverFor_X12_isSpoon : GoodIn wsX12_silverFor (wsV RX12 178 RX12 yX12_isSpoon wsX12_isSpoon) := goodIn_app (goodIn_r _ [1, 2, 3, 4] rfl (by decide +kernel)) ggX12_silverFor_X12_isSpoon
set_option maxRecDepth 20000 in
theorem ggX12_silverFor_X12_isAhead : GoodIn wsX12_silverFor wsX12_isAhead := goodIn_r _ [12, 13, 7, 8, 4, 9] rfl (by decide +kernel)
set_option maxRecDepth 20000 in
theorem gX12_silverFor_X12_isAhead : GoodIn wsX12_silverFor (va_wsS RX12 248 yX12_isAhead wsX12_isAhead) := goodIn_app (goodIn_r _ [10, 11, 4] rfl (by decide +kernel)) ggX12_silverFor_X12_isAhead
set_option maxRecDepth 20000 in
theorem ggX12_silverFor_X12_finds : GoodIn wsX12_silverFor wsX12_finds := goodIn_r _ [17, 18, 19, 96, 97, 98, 99, 100, 101, 102, 103, 104, 105, 106, 107, 108, 109, 110, 111, 112, 113, 114, 115, 116, 117, 118] rfl (by decide +kernel)
set_option maxRecDepth 20000 in
theorem gX12_silverFor_X12_finds : GoodIn wsX12_silverFor (wsV RX12 131 RX12 yX12_finds wsX12_finds) := goodIn_app (goodIn_r _ [14, 15, 16, 4] rfl (by decide +kernel)) ggX12_silverFor_X12_finds
set_option maxRecDepth 20000 in
theorem ggX12_silverFor_X12_keepAside : GoodIn wsX12_silverFor wsX12_keepAside := goodIn_r _ [23, 24, 6, 96, 97, 98, 99, 100, 101, 102, 103, 104, 105, 106, 107, 108, 109, 110, 111, 112, 113, 114, 115, 116, 117, 118] rfl (by decide +kernel)
set_option maxRecDepth 20000 in
theorem gX12_silverFor_X12_keepAside : GoodIn wsX12_silverFor (wsV RX12 251 RX12 yX12_keepAside wsX12_keepAside) := goodIn_app (goodIn_r _ [20, 21, 22, 4] rfl (by decide +kernel)) ggX12_silverFor_X12_keepAside
set_option maxRecDepth 20000 in
theorem ggX12_silverFor_X12_sets : GoodIn wsX12_silverFor wsX12_sets := goodIn_r _ [28, 6, 96, 97, 98, 99, 100, 101, 102, 103, 104, 105, 106, 107, 108, 109, 110, 111, 112, 113, 114, 115, 116, 117, 118] rfl (by decide +kernel)
set_option maxRecDepth 20000 in
theorem gX12_silverFor_X12_sets : GoodIn wsX12_silverFor (wsV RX12 166 RX12 yX12_sets wsX12_sets) := goodIn_app (goodIn_r _ [25, 26, 27, 4] rfl (by decide +kernel)) ggX12_silverFor_X12_sets
set_option maxRecDepth 20000 in
theorem ggX12_silverFor_X12_hoursGo : GoodIn wsX12_silverFor wsX12_hoursGo := goodIn_r _ [32, 33, 34, 35, 4, 36, 6, 1, 2, 3, 5, 7, 8, 9, 37, 38, 39, 40, 41, 42, 43, 44, 45, 46, 47, 48, 49, 50, 51, 52, 53, 54, 55, 56, 57, 58, 59, 60, 61, 62, 63, 64, 65, 66, 67, 68, 25, 26, 27, 28, 69, 70, 71, 72, 73, 74, 75, 76, 77, 78, 79, 80, 81, 82, 83, 84, 85, 86, 87, 88, 89, 90, 91, 96, 97, 98, 99, 100, 101, 102, 103, 104, 105, 106, 107, 108, 109, 110, 111, 112, 113, 114, 115, 116, 117, 118] rfl (by decide +kernel)
set_option maxRecDepth 20000 in
theorem gX12_silverFor_X12_hoursGo : GoodIn wsX12_silverFor (wsV RX12 239 RX12 yX12_hoursGo wsX12_hoursGo) := goodIn_app (goodIn_r _ [29, 30, 31, 4] rfl (by decide +kernel)) ggX12_silverFor_X12_hoursGo
set_option maxRecDepth 20000 in
theorem ggX12_silverFor_X12_isThrough : GoodIn wsX12_silverFor wsX12_isThrough := goodIn_r _ [40, 41, 42, 43, 4, 44, 6, 96, 97, 98, 99, 100, 101, 102, 103, 104, 105, 106, 107, 108, 109, 110, 111, 112, 113, 114, 115, 116, 117, 118] rfl (by decide +kernel)
set_option maxRecDepth 20000 in
theorem gX12_silverFor_X12_isThrough : GoodIn wsX12_silverFor (wsV RX12 175 RX12 yX12_isThrough wsX12_isThrough) := goodIn_app (goodIn_r _ [37, 38, 39, 4] rfl (by decide +kernel)) ggX12_silverFor_X12_isThrough
set_option maxRecDepth 20000 in
theorem ggX12_silverFor_X12_putBack : GoodIn wsX12_silverFor wsX12_putBack := goodIn_r _ [95, 6, 24, 96, 97, 98, 99, 100, 101, 102, 103, 104, 105, 106, 107, 108, 109, 110, 111, 112, 113, 114, 115, 116, 117, 118] rfl (by decide +kernel)
set_option maxRecDepth 20000 in
theorem gX12_silverFor_X12_putBack : GoodIn wsX12_silverFor (wsV RX12 254 RX12 yX12_putBack wsX12_putBack) := goodIn_app (goodIn_r _ [92, 93, 94, 4] rfl (by decide +kernel)) ggX12_silverFor_X12_putBack
theorem dX12_silverFor_0 : decode cX12_silverFor 0 = .ok (.aload_n 0, 1) := by decide +kernel
theorem dX12_silverFor_1 : decode cX12_silverFor 1 = .ok (.iload_n 1, 1) := by decide +kernel
theorem dX12_silverFor_2 : decode cX12_silverFor 2 = .ok (.invokevirtual 178, 3) := by decide +kernel
theorem dX12_silverFor_5 : decode cX12_silverFor 5 = .ok (.ifCond .eq 10, 3) := by decide +kernel
theorem dX12_silverFor_8 : decode cX12_silverFor 8 = .ok (.iload_n 2, 1) := by decide +kernel
theorem dX12_silverFor_9 : decode cX12_silverFor 9 = .ok (.invokestatic 248, 3) := by decide +kernel
theorem dX12_silverFor_12 : decode cX12_silverFor 12 = .ok (.ifCond .ne 9, 3) := by decide +kernel
theorem dX12_silverFor_15 : decode cX12_silverFor 15 = .ok (.aload_n 0, 1) := by decide +kernel
theorem dX12_silverFor_16 : decode cX12_silverFor 16 = .ok (.iconst 1, 1) := by decide +kernel
theorem dX12_silverFor_17 : decode cX12_silverFor 17 = .ok (.invokevirtual 131, 3) := by decide +kernel
theorem dX12_silverFor_20 : decode cX12_silverFor 20 = .ok (.ireturn, 1) := by decide +kernel
theorem dX12_silverFor_21 : decode cX12_silverFor 21 = .ok (.aload_n 0, 1) := by decide +kernel
theorem dX12_silverFor_22 : decode cX12_silverFor 22 = .ok (.invokevirtual 251, 3) := by decide +kernel
theorem dX12_silverFor_25 : decode cX12_silverFor 25 = .ok (.iconst 1, 1) := by decide +kernel
theorem dX12_silverFor_26 : decode cX12_silverFor 26 = .ok (.istore_n 3, 1) := by decide +kernel
theorem dX12_silverFor_27 : decode cX12_silverFor 27 = .ok (.iload_n 3, 1) := by decide +kernel
theorem dX12_silverFor_28 : decode cX12_silverFor 28 = .ok (.bipush 99, 2) := by decide +kernel
theorem dX12_silverFor_30 : decode cX12_silverFor 30 = .ok (.if_icmp .gt 47, 3) := by decide +kernel
theorem dX12_silverFor_33 : decode cX12_silverFor 33 = .ok (.aload_n 0, 1) := by decide +kernel
theorem dX12_silverFor_34 : decode cX12_silverFor 34 = .ok (.iload_n 1, 1) := by decide +kernel
theorem dX12_silverFor_35 : decode cX12_silverFor 35 = .ok (.iconst 2, 1) := by decide +kernel
theorem dX12_silverFor_36 : decode cX12_silverFor 36 = .ok (.iload_n 3, 1) := by decide +kernel
theorem dX12_silverFor_37 : decode cX12_silverFor 37 = .ok (.invokevirtual 166, 3) := by decide +kernel
theorem dX12_silverFor_40 : decode cX12_silverFor 40 = .ok (.aload_n 0, 1) := by decide +kernel
theorem dX12_silverFor_41 : decode cX12_silverFor 41 = .ok (.iload_n 2, 1) := by decide +kernel
theorem dX12_silverFor_42 : decode cX12_silverFor 42 = .ok (.invokevirtual 239, 3) := by decide +kernel
theorem dX12_silverFor_45 : decode cX12_silverFor 45 = .ok (.aload_n 0, 1) := by decide +kernel
theorem dX12_silverFor_46 : decode cX12_silverFor 46 = .ok (.iload_n 1, 1) := by decide +kernel
theorem dX12_silverFor_47 : decode cX12_silverFor 47 = .ok (.invokevirtual 175, 3) := by decide +kernel
theorem dX12_silverFor_50 : decode cX12_silverFor 50 = .ok (.ifCond .ne 7, 3) := by decide +kernel
theorem dX12_silverFor_53 : decode cX12_silverFor 53 = .ok (.iconst 1, 1) := by decide +kernel
theorem dX12_silverFor_54 : decode cX12_silverFor 54 = .ok (.goto 4, 3) := by decide +kernel
theorem dX12_silverFor_57 : decode cX12_silverFor 57 = .ok (.iconst 0, 1) := by decide +kernel
theorem dX12_silverFor_58 : decode cX12_silverFor 58 = .ok (.istore 4, 2) := by decide +kernel
theorem dX12_silverFor_60 : decode cX12_silverFor 60 = .ok (.aload_n 0, 1) := by decide +kernel
theorem dX12_silverFor_61 : decode cX12_silverFor 61 = .ok (.invokevirtual 254, 3) := by decide +kernel
theorem dX12_silverFor_64 : decode cX12_silverFor 64 = .ok (.iload 4, 2) := by decide +kernel
theorem dX12_silverFor_66 : decode cX12_silverFor 66 = .ok (.ifCond .eq 5, 3) := by decide +kernel
theorem dX12_silverFor_69 : decode cX12_silverFor 69 = .ok (.iload_n 3, 1) := by decide +kernel
theorem dX12_silverFor_70 : decode cX12_silverFor 70 = .ok (.ireturn, 1) := by decide +kernel
theorem dX12_silverFor_71 : decode cX12_silverFor 71 = .ok (.iinc 3 1, 3) := by decide +kernel
theorem dX12_silverFor_74 : decode cX12_silverFor 74 = .ok (.goto (-47), 3) := by decide +kernel
theorem dX12_silverFor_77 : decode cX12_silverFor 77 = .ok (.aload_n 0, 1) := by decide +kernel
theorem dX12_silverFor_78 : decode cX12_silverFor 78 = .ok (.iconst 2, 1) := by decide +kernel
theorem dX12_silverFor_79 : decode cX12_silverFor 79 = .ok (.invokevirtual 131, 3) := by decide +kernel
theorem dX12_silverFor_82 : decode cX12_silverFor 82 = .ok (.ireturn, 1) := by decide +kernel
set_option maxRecDepth 20000 in
theorem ggX12_bestOf_X12_keepAside : GoodIn wsX12_bestOf wsX12_keepAside := goodIn_r _ [6, 7, 1, 90, 91, 92, 93, 94, 95, 96, 97, 98, 99, 100, 101, 102, 103, 104, 105, 106, 107, 108, 109, 110, 111, 112] rfl (by decide +kernel)
set_option maxRecDepth 20000 in
theorem gX12_bestOf_X12_keepAside : GoodIn wsX12_bestOf (wsV RX12 251 RX12 yX12_keepAside wsX12_keepAside) := goodIn_app (goodIn_r _ [2, 3, 4, 5] rfl (by decide +kernel)) ggX12_bestOf_X12_keepAside
set_option maxRecDepth 20000 in
theorem ggX12_bestOf_X12_spreadsBehind : GoodIn wsX12_bestOf wsX12_spreadsBehind := goodIn_r _ [11, 1, 12, 13, 14, 5, 15, 16, 17, 18, 19, 20, 21, 22, 23, 24, 25, 26, 27, 28, 29, 30, 31, 32, 33, 34, 35, 36, 37, 38, 39, 40, 41, 42, 43, 44, 45, 46, 47, 48, 49, 50, 51, 52, 53, 54, 55, 56, 57, 58, 59, 60, 61, 62, 63, 64, 65, 66, 67, 68, 69, 70, 71, 72, 73, 74, 75, 76, 77, 78, 79, 80, 81, 82, 83, 84, 85, 86, 87, 88, 89, 7, 90, 91, 92, 93, 94, 95, 96, 97, 98, 99, 100, 101, 102, 103, 104, 105, 106, 107, 108, 109, 110, 111, 112] rfl (by decide +kernel)
set_option maxRecDepth 20000 in
theorem gX12_bestOf_X12_spreadsBehind : GoodIn wsX12_bestOf (wsV RX12 257 RX12 yX12_spreadsBehind wsX12_spreadsBehind) := goodIn_app (goodIn_r _ [8, 9, 10, 5] rfl (by decide +kernel)) ggX12_bestOf_X12_spreadsBehind
theorem dX12_bestOf_0 : decode cX12_bestOf 0 = .ok (.aload_n 0, 1) := by decide +kernel
theorem dX12_bestOf_1 : decode cX12_bestOf 1 = .ok (.invokevirtual 251, 3) := by decide +kernel
theorem dX12_bestOf_4 : decode cX12_bestOf 4 = .ok (.iload_n 2, 1) := by decide +kernel
theorem dX12_bestOf_5 : decode cX12_bestOf 5 = .ok (.istore 5, 2) := by decide +kernel
theorem dX12_bestOf_7 : decode cX12_bestOf 7 = .ok (.bipush 13, 2) := by decide +kernel
theorem dX12_bestOf_9 : decode cX12_bestOf 9 = .ok (.istore 6, 2) := by decide +kernel
theorem dX12_bestOf_11 : decode cX12_bestOf 11 = .ok (.iload_n 2, 1) := by decide +kernel
theorem dX12_bestOf_12 : decode cX12_bestOf 12 = .ok (.istore 7, 2) := by decide +kernel
theorem dX12_bestOf_14 : decode cX12_bestOf 14 = .ok (.iload 7, 2) := by decide +kernel
theorem dX12_bestOf_16 : decode cX12_bestOf 16 = .ok (.iload_n 3, 1) := by decide +kernel
theorem dX12_bestOf_17 : decode cX12_bestOf 17 = .ok (.if_icmp .gt 40, 3) := by decide +kernel
theorem dX12_bestOf_20 : decode cX12_bestOf 20 = .ok (.aload_n 0, 1) := by decide +kernel
theorem dX12_bestOf_21 : decode cX12_bestOf 21 = .ok (.getfield 7, 3) := by decide +kernel
theorem dX12_bestOf_24 : decode cX12_bestOf 24 = .ok (.iload_n 1, 1) := by decide +kernel
theorem dX12_bestOf_25 : decode cX12_bestOf 25 = .ok (.iload 7, 2) := by decide +kernel
theorem dX12_bestOf_27 : decode cX12_bestOf 27 = .ok (.iastore, 1) := by decide +kernel
theorem dX12_bestOf_28 : decode cX12_bestOf 28 = .ok (.aload_n 0, 1) := by decide +kernel
theorem dX12_bestOf_29 : decode cX12_bestOf 29 = .ok (.iload 4, 2) := by decide +kernel
theorem dX12_bestOf_31 : decode cX12_bestOf 31 = .ok (.invokevirtual 257, 3) := by decide +kernel
theorem dX12_bestOf_34 : decode cX12_bestOf 34 = .ok (.istore 8, 2) := by decide +kernel
theorem dX12_bestOf_36 : decode cX12_bestOf 36 = .ok (.iload 8, 2) := by decide +kernel
theorem dX12_bestOf_38 : decode cX12_bestOf 38 = .ok (.iload 6, 2) := by decide +kernel
theorem dX12_bestOf_40 : decode cX12_bestOf 40 = .ok (.if_icmp .ge 11, 3) := by decide +kernel
theorem dX12_bestOf_43 : decode cX12_bestOf 43 = .ok (.iload 7, 2) := by decide +kernel
theorem dX12_bestOf_45 : decode cX12_bestOf 45 = .ok (.istore 5, 2) := by decide +kernel
theorem dX12_bestOf_47 : decode cX12_bestOf 47 = .ok (.iload 8, 2) := by decide +kernel
theorem dX12_bestOf_49 : decode cX12_bestOf 49 = .ok (.istore 6, 2) := by decide +kernel
theorem dX12_bestOf_51 : decode cX12_bestOf 51 = .ok (.iinc 7 1, 3) := by decide +kernel
theorem dX12_bestOf_54 : decode cX12_bestOf 54 = .ok (.goto (-40), 3) := by decide +kernel
theorem dX12_bestOf_57 : decode cX12_bestOf 57 = .ok (.iload 5, 2) := by decide +kernel
theorem dX12_bestOf_59 : decode cX12_bestOf 59 = .ok (.ireturn, 1) := by decide +kernel
set_option maxRecDepth 20000 in
theorem ggX12_washFor_X12_in : GoodIn wsX12_washFor wsX12_in := goodIn_r _ [5] rfl (by decide +kernel)
set_option maxRecDepth 20000 in
theorem gX12_washFor_X12_in : GoodIn wsX12_washFor (va_wsS RX12 50 yX12_in wsX12_in) := goodIn_app (goodIn_r _ [2, 3, 4] rfl (by decide +kernel)) ggX12_washFor_X12_in
set_option maxRecDepth 20000 in
theorem ggX12_washFor_X12_isAhead : GoodIn wsX12_washFor wsX12_isAhead := goodIn_r _ [8, 9, 2, 3, 4, 5] rfl (by decide +kernel)
set_option maxRecDepth 20000 in
theorem gX12_washFor_X12_isAhead : GoodIn wsX12_washFor (va_wsS RX12 248 yX12_isAhead wsX12_isAhead) := goodIn_app (goodIn_r _ [6, 7, 4] rfl (by decide +kernel)) ggX12_washFor_X12_isAhead
set_option maxRecDepth 20000 in
theorem ggX12_washFor_X12_bestOf : GoodIn wsX12_washFor wsX12_bestOf := goodIn_r _ [13, 14, 15, 16, 17, 4, 18, 19, 20, 21, 22, 23, 24, 25, 26, 27, 28, 29, 30, 31, 32, 33, 34, 35, 2, 3, 5, 36, 37, 38, 39, 40, 41, 42, 43, 44, 45, 46, 47, 48, 49, 50, 51, 52, 53, 54, 55, 56, 57, 58, 59, 60, 61, 62, 63, 64, 65, 66, 67, 68, 69, 70, 71, 72, 73, 74, 75, 76, 77, 78, 79, 80, 81, 82, 83, 84, 85, 86, 87, 88, 89, 90, 91, 92, 93, 94, 95, 96, 97, 98, 105, 106, 107, 108, 109, 110, 111, 112, 113, 114, 115, 116, 117, 118, 119, 120, 121, 122, 123, 124, 125, 126, 127] rfl (by decide +kernel)
set_option maxRecDepth 20000 in
theorem gX12_washFor_X12_bestOf : GoodIn wsX12_washFor (wsV RX12 260 RX12 yX12_bestOf wsX12_bestOf) := goodIn_app (goodIn_r _ [10, 11, 12, 4] rfl (by decide +kernel)) ggX12_washFor_X12_bestOf
set_option maxRecDepth 20000 in
theorem ggX12_washFor_X12_finds : GoodIn wsX12_washFor wsX12_finds := goodIn_r _ [102, 103, 104, 105, 106, 107, 108, 109, 110, 111, 112, 113, 114, 115, 116, 117, 118, 119, 120, 121, 122, 123, 124, 125, 126, 127] rfl (by decide +kernel)
set_option maxRecDepth 20000 in
theorem gX12_washFor_X12_finds : GoodIn wsX12_washFor (wsV RX12 131 RX12 yX12_finds wsX12_finds) := goodIn_app (goodIn_r _ [99, 100, 101, 4] rfl (by decide +kernel)) ggX12_washFor_X12_finds
theorem dX12_washFor_0 : decode cX12_washFor 0 = .ok (.iload_n 1, 1) := by decide +kernel
theorem dX12_washFor_1 : decode cX12_washFor 1 = .ok (.i2l, 1) := by decide +kernel
theorem dX12_washFor_2 : decode cX12_washFor 2 = .ok (.lconst 0, 1) := by decide +kernel
theorem dX12_washFor_3 : decode cX12_washFor 3 = .ok (.ldc2_w 216, 3) := by decide +kernel
theorem dX12_washFor_6 : decode cX12_washFor 6 = .ok (.invokestatic 50, 3) := by decide +kernel
theorem dX12_washFor_9 : decode cX12_washFor 9 = .ok (.ifCond .eq 27, 3) := by decide +kernel
theorem dX12_washFor_12 : decode cX12_washFor 12 = .ok (.iload_n 2, 1) := by decide +kernel
theorem dX12_washFor_13 : decode cX12_washFor 13 = .ok (.invokestatic 248, 3) := by decide +kernel
theorem dX12_washFor_16 : decode cX12_washFor 16 = .ok (.ifCond .eq 20, 3) := by decide +kernel
theorem dX12_washFor_19 : decode cX12_washFor 19 = .ok (.iconst 1, 1) := by decide +kernel
theorem dX12_washFor_20 : decode cX12_washFor 20 = .ok (.aload_n 0, 1) := by decide +kernel
theorem dX12_washFor_21 : decode cX12_washFor 21 = .ok (.bipush 30, 2) := by decide +kernel
theorem dX12_washFor_23 : decode cX12_washFor 23 = .ok (.iload_n 1, 1) := by decide +kernel
theorem dX12_washFor_24 : decode cX12_washFor 24 = .ok (.iadd, 1) := by decide +kernel
theorem dX12_washFor_25 : decode cX12_washFor 25 = .ok (.iconst (-1), 1) := by decide +kernel
theorem dX12_washFor_26 : decode cX12_washFor 26 = .ok (.bipush 7, 2) := by decide +kernel
theorem dX12_washFor_28 : decode cX12_washFor 28 = .ok (.iload_n 2, 1) := by decide +kernel
theorem dX12_washFor_29 : decode cX12_washFor 29 = .ok (.invokevirtual 260, 3) := by decide +kernel
theorem dX12_washFor_32 : decode cX12_washFor 32 = .ok (.iadd, 1) := by decide +kernel
theorem dX12_washFor_33 : decode cX12_washFor 33 = .ok (.goto 8, 3) := by decide +kernel
theorem dX12_washFor_36 : decode cX12_washFor 36 = .ok (.aload_n 0, 1) := by decide +kernel
theorem dX12_washFor_37 : decode cX12_washFor 37 = .ok (.iconst 1, 1) := by decide +kernel
theorem dX12_washFor_38 : decode cX12_washFor 38 = .ok (.invokevirtual 131, 3) := by decide +kernel
theorem dX12_washFor_41 : decode cX12_washFor 41 = .ok (.ireturn, 1) := by decide +kernel
set_option maxRecDepth 20000 in
theorem ggX12_kindFor_X12_isSpoon : GoodIn wsX12_kindFor wsX12_isSpoon := goodIn_r _ [5, 6, 7, 8, 4, 9, 104, 105, 106, 107, 108, 109, 110, 111, 112, 113, 114, 115, 116, 117, 118, 119, 120, 121, 122, 123, 124, 125, 126] rfl (by decide +kernel)
set_option maxRecDepth 20000 in
theorem gX12_kindFor_X12_isSpoon : GoodIn wsX12_kindFor (wsV RX12 178 RX12 yX12_isSpoon wsX12_isSpoon) := goodIn_app (goodIn_r _ [1, 2, 3, 4] rfl (by decide +kernel)) ggX12_kindFor_X12_isSpoon
set_option maxRecDepth 20000 in
theorem ggX12_kindFor_X12_isAhead : GoodIn wsX12_kindFor wsX12_isAhead := goodIn_r _ [12, 13, 7, 8, 4, 9] rfl (by decide +kernel)
set_option maxRecDepth 20000 in
theorem gX12_kindFor_X12_isAhead : GoodIn wsX12_kindFor (va_wsS RX12 248 yX12_isAhead wsX12_isAhead) := goodIn_app (goodIn_r _ [10, 11, 4] rfl (by decide +kernel)) ggX12_kindFor_X12_isAhead
set_option maxRecDepth 20000 in
theorem ggX12_kindFor_X12_bestOf : GoodIn wsX12_kindFor wsX12_bestOf := goodIn_r _ [17, 6, 18, 19, 20, 4, 21, 22, 23, 24, 25, 26, 27, 28, 29, 30, 31, 32, 33, 34, 1, 2, 3, 5, 7, 8, 9, 35, 36, 37, 38, 39, 40, 41, 42, 43, 44, 45, 46, 47, 48, 49, 50, 51, 52, 53, 54, 55, 56, 57, 58, 59, 60, 61, 62, 63, 64, 65, 66, 67, 68, 69, 70, 71, 72, 73, 74, 75, 76, 77, 78, 79, 80, 81, 82, 83, 84, 85, 86, 87, 88, 89, 90, 91, 92, 93, 94, 95, 96, 97, 104, 105, 106, 107, 108, 109, 110, 111, 112, 113, 114, 115, 116, 117, 118, 119, 120, 121, 122, 123, 124, 125, 126] rfl (by decide +kernel)
set_option maxRecDepth 20000 in
theorem gX12_kindFor_X12_bestOf : GoodIn wsX12_kindFor (wsV RX12 260 RX12 yX12_bestOf wsX12_bestOf) := goodIn_app (goodIn_r _ [14, 15, 16, 4] rfl (by decide +kernel)) ggX12_kindFor_X12_bestOf
set_option maxRecDepth 20000 in
theorem ggX12_kindFor_X12_finds : GoodIn wsX12_kindFor wsX12_finds := goodIn_r _ [101, 102, 103, 104, 105, 106, 107, 108, 109, 110, 111, 112, 113, 114, 115, 116, 117, 118, 119, 120, 121, 122, 123, 124, 125, 126] rfl (by decide +kernel)
set_option maxRecDepth 20000 in
theorem gX12_kindFor_X12_finds : GoodIn wsX12_kindFor (wsV RX12 131 RX12 yX12_finds wsX12_finds) := goodIn_app (goodIn_r _ [98, 99, 100, 4] rfl (by decide +kernel)) ggX12_kindFor_X12_finds
theorem dX12_kindFor_0 : decode cX12_kindFor 0 = .ok (.aload_n 0, 1) := by decide +kernel
theorem dX12_kindFor_1 : decode cX12_kindFor 1 = .ok (.iload_n 1, 1) := by decide +kernel
theorem dX12_kindFor_2 : decode cX12_kindFor 2 = .ok (.invokevirtual 178, 3) := by decide +kernel
theorem dX12_kindFor_5 : decode cX12_kindFor 5 = .ok (.ifCond .eq 28, 3) := by decide +kernel
theorem dX12_kindFor_8 : decode cX12_kindFor 8 = .ok (.iload_n 2, 1) := by decide +kernel
theorem dX12_kindFor_9 : decode cX12_kindFor 9 = .ok (.invokestatic 248, 3) := by decide +kernel
theorem dX12_kindFor_12 : decode cX12_kindFor 12 = .ok (.ifCond .eq 21, 3) := by decide +kernel
theorem dX12_kindFor_15 : decode cX12_kindFor 15 = .ok (.aload_n 0, 1) := by decide +kernel
theorem dX12_kindFor_16 : decode cX12_kindFor 16 = .ok (.bipush 34, 2) := by decide +kernel
theorem dX12_kindFor_18 : decode cX12_kindFor 18 = .ok (.bipush 15, 2) := by decide +kernel
theorem dX12_kindFor_20 : decode cX12_kindFor 20 = .ok (.iload_n 1, 1) := by decide +kernel
theorem dX12_kindFor_21 : decode cX12_kindFor 21 = .ok (.imul, 1) := by decide +kernel
theorem dX12_kindFor_22 : decode cX12_kindFor 22 = .ok (.iadd, 1) := by decide +kernel
theorem dX12_kindFor_23 : decode cX12_kindFor 23 = .ok (.iconst 0, 1) := by decide +kernel
theorem dX12_kindFor_24 : decode cX12_kindFor 24 = .ok (.bipush 6, 2) := by decide +kernel
theorem dX12_kindFor_26 : decode cX12_kindFor 26 = .ok (.iload_n 2, 1) := by decide +kernel
theorem dX12_kindFor_27 : decode cX12_kindFor 27 = .ok (.invokevirtual 260, 3) := by decide +kernel
theorem dX12_kindFor_30 : decode cX12_kindFor 30 = .ok (.goto 8, 3) := by decide +kernel
theorem dX12_kindFor_33 : decode cX12_kindFor 33 = .ok (.aload_n 0, 1) := by decide +kernel
theorem dX12_kindFor_34 : decode cX12_kindFor 34 = .ok (.iconst 1, 1) := by decide +kernel
theorem dX12_kindFor_35 : decode cX12_kindFor 35 = .ok (.invokevirtual 131, 3) := by decide +kernel
theorem dX12_kindFor_38 : decode cX12_kindFor 38 = .ok (.ireturn, 1) := by decide +kernel
set_option maxRecDepth 20000 in
theorem ggX12_isTold_X12_hourGoes : GoodIn wsX12_isTold wsX12_hourGoes := goodIn_r _ [8, 3, 9, 10, 11, 7, 12, 13, 14, 15, 16, 17, 18, 19, 20, 21, 22, 23, 24, 25, 26, 27, 28, 29, 30, 31, 32, 33, 34, 35, 36, 37, 38, 39, 40, 41, 42, 43, 44, 45, 46, 47, 48, 49, 50, 51, 52, 53, 54, 55, 56, 57, 58, 59, 60, 61, 62, 63, 64, 65, 66, 67, 68, 69, 70, 71, 72, 73, 74, 80, 81, 82, 83, 84, 85, 86, 87, 88, 89, 90, 91, 92, 93, 94, 95, 96, 97, 98, 99, 100, 101, 102] rfl (by decide +kernel)
set_option maxRecDepth 20000 in
theorem gX12_isTold_X12_hourGoes : GoodIn wsX12_isTold (wsV RX12 188 RX12 yX12_hourGoes wsX12_hourGoes) := goodIn_app (goodIn_r _ [4, 5, 6, 7] rfl (by decide +kernel)) ggX12_isTold_X12_hourGoes
set_option maxRecDepth 20000 in
theorem ggX12_isTold_X12_ones : GoodIn wsX12_isTold wsX12_ones := goodIn_r _ [70] rfl (by decide +kernel)
set_option maxRecDepth 20000 in
theorem gX12_isTold_X12_ones : GoodIn wsX12_isTold (va_wsS RX12 157 yX12_ones wsX12_ones) := goodIn_app (goodIn_r _ [68, 69, 7] rfl (by decide +kernel)) ggX12_isTold_X12_ones
set_option maxRecDepth 20000 in
theorem ggX12_isTold_X12_putBack : GoodIn wsX12_isTold wsX12_putBack := goodIn_r _ [78, 3, 79, 80, 81, 82, 83, 84, 85, 86, 87, 88, 89, 90, 91, 92, 93, 94, 95, 96, 97, 98, 99, 100, 101, 102] rfl (by decide +kernel)
set_option maxRecDepth 20000 in
theorem gX12_isTold_X12_putBack : GoodIn wsX12_isTold (wsV RX12 254 RX12 yX12_putBack wsX12_putBack) := goodIn_app (goodIn_r _ [75, 76, 77, 7] rfl (by decide +kernel)) ggX12_isTold_X12_putBack
theorem dX12_isTold_0 : decode cX12_isTold 0 = .ok (.iconst 1, 1) := by decide +kernel
theorem dX12_isTold_1 : decode cX12_isTold 1 = .ok (.istore_n 2, 1) := by decide +kernel
theorem dX12_isTold_2 : decode cX12_isTold 2 = .ok (.iconst 0, 1) := by decide +kernel
theorem dX12_isTold_3 : decode cX12_isTold 3 = .ok (.istore_n 3, 1) := by decide +kernel
theorem dX12_isTold_4 : decode cX12_isTold 4 = .ok (.iload_n 3, 1) := by decide +kernel
theorem dX12_isTold_5 : decode cX12_isTold 5 = .ok (.aload_n 0, 1) := by decide +kernel
theorem dX12_isTold_6 : decode cX12_isTold 6 = .ok (.getfield 40, 3) := by decide +kernel
theorem dX12_isTold_9 : decode cX12_isTold 9 = .ok (.iload_n 1, 1) := by decide +kernel
theorem dX12_isTold_10 : decode cX12_isTold 10 = .ok (.iaload, 1) := by decide +kernel
theorem dX12_isTold_11 : decode cX12_isTold 11 = .ok (.if_icmp .ge 46, 3) := by decide +kernel
theorem dX12_isTold_14 : decode cX12_isTold 14 = .ok (.iload_n 2, 1) := by decide +kernel
theorem dX12_isTold_15 : decode cX12_isTold 15 = .ok (.ifCond .eq 42, 3) := by decide +kernel
theorem dX12_isTold_18 : decode cX12_isTold 18 = .ok (.aload_n 0, 1) := by decide +kernel
theorem dX12_isTold_19 : decode cX12_isTold 19 = .ok (.invokevirtual 188, 3) := by decide +kernel
theorem dX12_isTold_22 : decode cX12_isTold 22 = .ok (.aload_n 0, 1) := by decide +kernel
theorem dX12_isTold_23 : decode cX12_isTold 23 = .ok (.getfield 43, 3) := by decide +kernel
theorem dX12_isTold_26 : decode cX12_isTold 26 = .ok (.bipush 40, 2) := by decide +kernel
theorem dX12_isTold_28 : decode cX12_isTold 28 = .ok (.iload_n 1, 1) := by decide +kernel
theorem dX12_isTold_29 : decode cX12_isTold 29 = .ok (.imul, 1) := by decide +kernel
theorem dX12_isTold_30 : decode cX12_isTold 30 = .ok (.iload_n 3, 1) := by decide +kernel
theorem dX12_isTold_31 : decode cX12_isTold 31 = .ok (.iadd, 1) := by decide +kernel
theorem dX12_isTold_32 : decode cX12_isTold 32 = .ok (.iaload, 1) := by decide +kernel
theorem dX12_isTold_33 : decode cX12_isTold 33 = .ok (.aload_n 0, 1) := by decide +kernel
theorem dX12_isTold_34 : decode cX12_isTold 34 = .ok (.getfield 7, 3) := by decide +kernel
theorem dX12_isTold_37 : decode cX12_isTold 37 = .ok (.iconst 2, 1) := by decide +kernel
theorem dX12_isTold_38 : decode cX12_isTold 38 = .ok (.iaload, 1) := by decide +kernel
theorem dX12_isTold_39 : decode cX12_isTold 39 = .ok (.invokestatic 157, 3) := by decide +kernel
theorem dX12_isTold_42 : decode cX12_isTold 42 = .ok (.if_icmp .ne 7, 3) := by decide +kernel
theorem dX12_isTold_45 : decode cX12_isTold 45 = .ok (.iconst 1, 1) := by decide +kernel
theorem dX12_isTold_46 : decode cX12_isTold 46 = .ok (.goto 4, 3) := by decide +kernel
theorem dX12_isTold_49 : decode cX12_isTold 49 = .ok (.iconst 0, 1) := by decide +kernel
theorem dX12_isTold_50 : decode cX12_isTold 50 = .ok (.istore_n 2, 1) := by decide +kernel
theorem dX12_isTold_51 : decode cX12_isTold 51 = .ok (.iinc 3 1, 3) := by decide +kernel
theorem dX12_isTold_54 : decode cX12_isTold 54 = .ok (.goto (-50), 3) := by decide +kernel
theorem dX12_isTold_57 : decode cX12_isTold 57 = .ok (.aload_n 0, 1) := by decide +kernel
theorem dX12_isTold_58 : decode cX12_isTold 58 = .ok (.invokevirtual 254, 3) := by decide +kernel
theorem dX12_isTold_61 : decode cX12_isTold 61 = .ok (.iload_n 2, 1) := by decide +kernel
theorem dX12_isTold_62 : decode cX12_isTold 62 = .ok (.ireturn, 1) := by decide +kernel
set_option maxRecDepth 20000 in
theorem ggX12_rubbed_X12_isSheet : GoodIn wsX12_rubbed wsX12_isSheet := goodIn_r _ [5, 6, 7, 8, 4, 9] rfl (by decide +kernel)
set_option maxRecDepth 20000 in
theorem gX12_rubbed_X12_isSheet : GoodIn wsX12_rubbed (va_wsS RX12 263 yX12_isSheet wsX12_isSheet) := goodIn_app (goodIn_r _ [2, 3, 4] rfl (by decide +kernel)) ggX12_rubbed_X12_isSheet
set_option maxRecDepth 20000 in
theorem ggX12_rubbed_X12_isSpoon : GoodIn wsX12_rubbed wsX12_isSpoon := goodIn_r _ [13, 14, 7, 8, 4, 9, 99, 100, 101, 102, 103, 104, 105, 106, 107, 108, 109, 110, 111, 112, 113, 114, 115, 116, 117, 118, 119, 120, 121] rfl (by decide +kernel)
set_option maxRecDepth 20000 in
theorem gX12_rubbed_X12_isSpoon : GoodIn wsX12_rubbed (wsV RX12 178 RX12 yX12_isSpoon wsX12_isSpoon) := goodIn_app (goodIn_r _ [10, 11, 12, 4] rfl (by decide +kernel)) ggX12_rubbed_X12_isSpoon
set_option maxRecDepth 20000 in
theorem ggX12_rubbed_X12_in : GoodIn wsX12_rubbed wsX12_in := goodIn_r _ [9] rfl (by decide +kernel)
set_option maxRecDepth 20000 in
theorem gX12_rubbed_X12_in : GoodIn wsX12_rubbed (va_wsS RX12 50 yX12_in wsX12_in) := goodIn_app (goodIn_r _ [7, 8, 4] rfl (by decide +kernel)) ggX12_rubbed_X12_in
set_option maxRecDepth 20000 in
theorem ggX12_rubbed_X12_finds : GoodIn wsX12_rubbed wsX12_finds := goodIn_r _ [18, 19, 20, 99, 100, 101, 102, 103, 104, 105, 106, 107, 108, 109, 110, 111, 112, 113, 114, 115, 116, 117, 118, 119, 120, 121] rfl (by decide +kernel)
set_option maxRecDepth 20000 in
theorem gX12_rubbed_X12_finds : GoodIn wsX12_rubbed (wsV RX12 131 RX12 yX12_finds wsX12_finds) := goodIn_app (goodIn_r _ [15, 16, 17, 4] rfl (by decide +kernel)) ggX12_rubbed_X12_finds
set_option maxRecDepth 20000 in
theorem ggX12_rubbed_X12_keepAside : GoodIn wsX12_rubbed wsX12_keepAside := goodIn_r _ [24, 25, 14, 99, 100, 101, 102, 103, 104, 105, 106, 107, 108, 109, 110, 111, 112, 113, 114, 115, 116, 117, 118, 119, 120, 121] rfl (by decide +kernel)
set_option maxRecDepth 20000 in
theorem gX12_rubbed_X12_keepAside : GoodIn wsX12_rubbed (wsV RX12 251 RX12 yX12_keepAside wsX12_keepAside) := goodIn_app (goodIn_r _ [21, 22, 23, 4] rfl (by decide +kernel)) ggX12_rubbed_X12_keepAside
set_option maxRecDepth 20000 in
theorem ggX12_rubbed_X12_sets : GoodIn wsX12_rubbed wsX12_sets := goodIn_r _ [29, 14, 99, 100, 101, 102, 103, 104, 105, 106, 107, 108, 109, 110, 111, 112, 113, 114, 115, 116, 117, 118, 119, 120, 121] rfl (by decide +kernel)
set_option maxRecDepth 20000 in
theorem gX12_rubbed_X12_sets : GoodIn wsX12_rubbed (wsV RX12 166 RX12 yX12_sets wsX12_sets) := goodIn_app (goodIn_r _ [26, 27, 28, 4] rfl (by decide +kernel)) ggX12_rubbed_X12_sets
set_option maxRecDepth 20000 in
theorem ggX12_rubbed_X12_isTold : GoodIn wsX12_rubbed wsX12_isTold := goodIn_r _ [33, 34, 35, 14, 36, 37, 38, 4, 39, 10, 11, 12, 13, 7, 8, 9, 40, 41, 42, 43, 44, 45, 46, 47, 48, 49, 50, 51, 52, 53, 54, 55, 56, 57, 58, 59, 60, 61, 62, 63, 64, 65, 66, 67, 68, 69, 70, 71, 26, 27, 28, 29, 72, 73, 74, 75, 76, 77, 78, 79, 80, 81, 82, 83, 84, 85, 86, 87, 88, 89, 90, 91, 92, 93, 94, 95, 96, 97, 98, 25, 99, 100, 101, 102, 103, 104, 105, 106, 107, 108, 109, 110, 111, 112, 113, 114, 115, 116, 117, 118, 119, 120, 121] rfl (by decide +kernel)
set_option maxRecDepth 20000 in
theorem gX12_rubbed_X12_isTold : GoodIn wsX12_rubbed (wsV RX12 266 RX12 yX12_isTold wsX12_isTold) := goodIn_app (goodIn_r _ [30, 31, 32, 4] rfl (by decide +kernel)) ggX12_rubbed_X12_isTold
theorem dX12_rubbed_0 : decode cX12_rubbed 0 = .ok (.iload_n 1, 1) := by decide +kernel
theorem dX12_rubbed_1 : decode cX12_rubbed 1 = .ok (.invokestatic 263, 3) := by decide +kernel
theorem dX12_rubbed_4 : decode cX12_rubbed 4 = .ok (.ifCond .eq 21, 3) := by decide +kernel
theorem dX12_rubbed_7 : decode cX12_rubbed 7 = .ok (.aload_n 0, 1) := by decide +kernel
theorem dX12_rubbed_8 : decode cX12_rubbed 8 = .ok (.iload_n 2, 1) := by decide +kernel
theorem dX12_rubbed_9 : decode cX12_rubbed 9 = .ok (.invokevirtual 178, 3) := by decide +kernel
theorem dX12_rubbed_12 : decode cX12_rubbed 12 = .ok (.ifCond .eq 13, 3) := by decide +kernel
theorem dX12_rubbed_15 : decode cX12_rubbed 15 = .ok (.iload_n 3, 1) := by decide +kernel
theorem dX12_rubbed_16 : decode cX12_rubbed 16 = .ok (.i2l, 1) := by decide +kernel
theorem dX12_rubbed_17 : decode cX12_rubbed 17 = .ok (.lconst 0, 1) := by decide +kernel
theorem dX12_rubbed_18 : decode cX12_rubbed 18 = .ok (.lconst 1, 1) := by decide +kernel
theorem dX12_rubbed_19 : decode cX12_rubbed 19 = .ok (.invokestatic 50, 3) := by decide +kernel
theorem dX12_rubbed_22 : decode cX12_rubbed 22 = .ok (.ifCond .ne 9, 3) := by decide +kernel
theorem dX12_rubbed_25 : decode cX12_rubbed 25 = .ok (.aload_n 0, 1) := by decide +kernel
theorem dX12_rubbed_26 : decode cX12_rubbed 26 = .ok (.iconst 1, 1) := by decide +kernel
theorem dX12_rubbed_27 : decode cX12_rubbed 27 = .ok (.invokevirtual 131, 3) := by decide +kernel
theorem dX12_rubbed_30 : decode cX12_rubbed 30 = .ok (.ireturn, 1) := by decide +kernel
theorem dX12_rubbed_31 : decode cX12_rubbed 31 = .ok (.aload_n 0, 1) := by decide +kernel
theorem dX12_rubbed_32 : decode cX12_rubbed 32 = .ok (.getfield 37, 3) := by decide +kernel
theorem dX12_rubbed_35 : decode cX12_rubbed 35 = .ok (.iload_n 1, 1) := by decide +kernel
theorem dX12_rubbed_36 : decode cX12_rubbed 36 = .ok (.iaload, 1) := by decide +kernel
theorem dX12_rubbed_37 : decode cX12_rubbed 37 = .ok (.ifCond .ne 9, 3) := by decide +kernel
theorem dX12_rubbed_40 : decode cX12_rubbed 40 = .ok (.aload_n 0, 1) := by decide +kernel
theorem dX12_rubbed_41 : decode cX12_rubbed 41 = .ok (.iconst 2, 1) := by decide +kernel
theorem dX12_rubbed_42 : decode cX12_rubbed 42 = .ok (.invokevirtual 131, 3) := by decide +kernel
theorem dX12_rubbed_45 : decode cX12_rubbed 45 = .ok (.ireturn, 1) := by decide +kernel
theorem dX12_rubbed_46 : decode cX12_rubbed 46 = .ok (.aload_n 0, 1) := by decide +kernel
theorem dX12_rubbed_47 : decode cX12_rubbed 47 = .ok (.invokevirtual 251, 3) := by decide +kernel
theorem dX12_rubbed_50 : decode cX12_rubbed 50 = .ok (.iconst 0, 1) := by decide +kernel
theorem dX12_rubbed_51 : decode cX12_rubbed 51 = .ok (.istore 4, 2) := by decide +kernel
theorem dX12_rubbed_53 : decode cX12_rubbed 53 = .ok (.iconst (-1), 1) := by decide +kernel
theorem dX12_rubbed_54 : decode cX12_rubbed 54 = .ok (.istore 5, 2) := by decide +kernel
theorem dX12_rubbed_56 : decode cX12_rubbed 56 = .ok (.bipush 99, 2) := by decide +kernel
theorem dX12_rubbed_58 : decode cX12_rubbed 58 = .ok (.istore 6, 2) := by decide +kernel
theorem dX12_rubbed_60 : decode cX12_rubbed 60 = .ok (.iload 6, 2) := by decide +kernel
theorem dX12_rubbed_62 : decode cX12_rubbed 62 = .ok (.ifCond .lt 53, 3) := by decide +kernel
theorem dX12_rubbed_65 : decode cX12_rubbed 65 = .ok (.aload_n 0, 1) := by decide +kernel
theorem dX12_rubbed_66 : decode cX12_rubbed 66 = .ok (.iload_n 2, 1) := by decide +kernel
theorem dX12_rubbed_67 : decode cX12_rubbed 67 = .ok (.iconst 2, 1) := by decide +kernel
theorem dX12_rubbed_68 : decode cX12_rubbed 68 = .ok (.iload 6, 2) := by decide +kernel
theorem dX12_rubbed_70 : decode cX12_rubbed 70 = .ok (.invokevirtual 166, 3) := by decide +kernel
theorem dX12_rubbed_73 : decode cX12_rubbed 73 = .ok (.aload_n 0, 1) := by decide +kernel
theorem dX12_rubbed_74 : decode cX12_rubbed 74 = .ok (.iload_n 1, 1) := by decide +kernel
theorem dX12_rubbed_75 : decode cX12_rubbed 75 = .ok (.invokevirtual 266, 3) := by decide +kernel
theorem dX12_rubbed_78 : decode cX12_rubbed 78 = .ok (.istore 7, 2) := by decide +kernel
theorem dX12_rubbed_80 : decode cX12_rubbed 80 = .ok (.iload 4, 2) := by decide +kernel
theorem dX12_rubbed_82 : decode cX12_rubbed 82 = .ok (.iload 7, 2) := by decide +kernel
theorem dX12_rubbed_84 : decode cX12_rubbed 84 = .ok (.ifCond .eq 7, 3) := by decide +kernel
theorem dX12_rubbed_87 : decode cX12_rubbed 87 = .ok (.iconst 1, 1) := by decide +kernel
theorem dX12_rubbed_88 : decode cX12_rubbed 88 = .ok (.goto 4, 3) := by decide +kernel
theorem dX12_rubbed_91 : decode cX12_rubbed 91 = .ok (.iconst 0, 1) := by decide +kernel
theorem dX12_rubbed_92 : decode cX12_rubbed 92 = .ok (.iadd, 1) := by decide +kernel
theorem dX12_rubbed_93 : decode cX12_rubbed 93 = .ok (.istore 4, 2) := by decide +kernel
theorem dX12_rubbed_95 : decode cX12_rubbed 95 = .ok (.iload 7, 2) := by decide +kernel
theorem dX12_rubbed_97 : decode cX12_rubbed 97 = .ok (.ifCond .eq 8, 3) := by decide +kernel
theorem dX12_rubbed_100 : decode cX12_rubbed 100 = .ok (.iload 6, 2) := by decide +kernel
theorem dX12_rubbed_102 : decode cX12_rubbed 102 = .ok (.goto 5, 3) := by decide +kernel
theorem dX12_rubbed_105 : decode cX12_rubbed 105 = .ok (.iload 5, 2) := by decide +kernel
theorem dX12_rubbed_107 : decode cX12_rubbed 107 = .ok (.istore 5, 2) := by decide +kernel
theorem dX12_rubbed_109 : decode cX12_rubbed 109 = .ok (.iinc 6 (-1), 3) := by decide +kernel
theorem dX12_rubbed_112 : decode cX12_rubbed 112 = .ok (.goto (-52), 3) := by decide +kernel
theorem dX12_rubbed_115 : decode cX12_rubbed 115 = .ok (.iload_n 3, 1) := by decide +kernel
theorem dX12_rubbed_116 : decode cX12_rubbed 116 = .ok (.ifCond .ne 8, 3) := by decide +kernel
theorem dX12_rubbed_119 : decode cX12_rubbed 119 = .ok (.iload 4, 2) := by decide +kernel
theorem dX12_rubbed_121 : decode cX12_rubbed 121 = .ok (.goto 18, 3) := by decide +kernel
theorem dX12_rubbed_124 : decode cX12_rubbed 124 = .ok (.iload 5, 2) := by decide +kernel
theorem dX12_rubbed_126 : decode cX12_rubbed 126 = .ok (.ifCond .ge 11, 3) := by decide +kernel
theorem dX12_rubbed_129 : decode cX12_rubbed 129 = .ok (.aload_n 0, 1) := by decide +kernel
theorem dX12_rubbed_130 : decode cX12_rubbed 130 = .ok (.iconst 2, 1) := by decide +kernel
theorem dX12_rubbed_131 : decode cX12_rubbed 131 = .ok (.invokevirtual 131, 3) := by decide +kernel
theorem dX12_rubbed_134 : decode cX12_rubbed 134 = .ok (.goto 5, 3) := by decide +kernel
theorem dX12_rubbed_137 : decode cX12_rubbed 137 = .ok (.iload 5, 2) := by decide +kernel
theorem dX12_rubbed_139 : decode cX12_rubbed 139 = .ok (.ireturn, 1) := by decide +kernel
set_option maxRecDepth 20000 in
theorem ggX12_which_X12_isSheet : GoodIn wsX12_which wsX12_isSheet := goodIn_r _ [5, 6, 7, 8, 4, 9] rfl (by decide +kernel)
set_option maxRecDepth 20000 in
theorem gX12_which_X12_isSheet : GoodIn wsX12_which (va_wsS RX12 263 yX12_isSheet wsX12_isSheet) := goodIn_app (goodIn_r _ [2, 3, 4] rfl (by decide +kernel)) ggX12_which_X12_isSheet
set_option maxRecDepth 20000 in
theorem ggX12_which_X12_isSpoon : GoodIn wsX12_which wsX12_isSpoon := goodIn_r _ [13, 14, 7, 8, 4, 9, 99, 100, 101, 102, 103, 104, 105, 106, 107, 108, 109, 110, 111, 112, 113, 114, 115, 116, 117, 118, 119, 120, 121] rfl (by decide +kernel)
set_option maxRecDepth 20000 in
theorem gX12_which_X12_isSpoon : GoodIn wsX12_which (wsV RX12 178 RX12 yX12_isSpoon wsX12_isSpoon) := goodIn_app (goodIn_r _ [10, 11, 12, 4] rfl (by decide +kernel)) ggX12_which_X12_isSpoon
set_option maxRecDepth 20000 in
theorem ggX12_which_X12_finds : GoodIn wsX12_which wsX12_finds := goodIn_r _ [18, 19, 20, 99, 100, 101, 102, 103, 104, 105, 106, 107, 108, 109, 110, 111, 112, 113, 114, 115, 116, 117, 118, 119, 120, 121] rfl (by decide +kernel)
set_option maxRecDepth 20000 in
theorem gX12_which_X12_finds : GoodIn wsX12_which (wsV RX12 131 RX12 yX12_finds wsX12_finds) := goodIn_app (goodIn_r _ [15, 16, 17, 4] rfl (by decide +kernel)) ggX12_which_X12_finds
set_option maxRecDepth 20000 in
theorem ggX12_which_X12_keepAside : GoodIn wsX12_which wsX12_keepAside := goodIn_r _ [24, 25, 14, 99, 100, 101, 102, 103, 104, 105, 106, 107, 108, 109, 110, 111, 112, 113, 114, 115, 116, 117, 118, 119, 120, 121] rfl (by decide +kernel)
set_option maxRecDepth 20000 in
theorem gX12_which_X12_keepAside : GoodIn wsX12_which (wsV RX12 251 RX12 yX12_keepAside wsX12_keepAside) := goodIn_app (goodIn_r _ [21, 22, 23, 4] rfl (by decide +kernel)) ggX12_which_X12_keepAside
set_option maxRecDepth 20000 in
theorem ggX12_which_X12_sets : GoodIn wsX12_which wsX12_sets := goodIn_r _ [29, 14, 99, 100, 101, 102, 103, 104, 105, 106, 107, 108, 109, 110, 111, 112, 113, 114, 115, 116, 117, 118, 119, 120, 121] rfl (by decide +kernel)
set_option maxRecDepth 20000 in
theorem gX12_which_X12_sets : GoodIn wsX12_which (wsV RX12 166 RX12 yX12_sets wsX12_sets) := goodIn_app (goodIn_r _ [26, 27, 28, 4] rfl (by decide +kernel)) ggX12_which_X12_sets
set_option maxRecDepth 20000 in
theorem ggX12_which_X12_isTold : GoodIn wsX12_which wsX12_isTold := goodIn_r _ [33, 34, 35, 14, 36, 37, 38, 4, 39, 10, 11, 12, 13, 7, 8, 9, 40, 41, 42, 43, 44, 45, 46, 47, 48, 49, 50, 51, 52, 53, 54, 55, 56, 57, 58, 59, 60, 61, 62, 63, 64, 65, 66, 67, 68, 69, 70, 71, 26, 27, 28, 29, 72, 73, 74, 75, 76, 77, 78, 79, 80, 81, 82, 83, 84, 85, 86, 87, 88, 89, 90, 91, 92, 93, 94, 95, 96, 97, 98, 25, 99, 100, 101, 102, 103, 104, 105, 106, 107, 108, 109, 110, 111, 112, 113, 114, 115, 116, 117, 118, 119, 120, 121] rfl (by decide +kernel)
set_option maxRecDepth 20000 in
theorem gX12_which_X12_isTold : GoodIn wsX12_which (wsV RX12 266 RX12 yX12_isTold wsX12_isTold) := goodIn_app (goodIn_r _ [30, 31, 32, 4] rfl (by decide +kernel)) ggX12_which_X12_isTold
theorem dX12_which_0 : decode cX12_which 0 = .ok (.iload_n 1, 1) := by decide +kernel
theorem dX12_which_1 : decode cX12_which 1 = .ok (.invokestatic 263, 3) := by decide +kernel
theorem dX12_which_4 : decode cX12_which 4 = .ok (.ifCond .eq 11, 3) := by decide +kernel
theorem dX12_which_7 : decode cX12_which 7 = .ok (.aload_n 0, 1) := by decide +kernel
theorem dX12_which_8 : decode cX12_which 8 = .ok (.iload_n 2, 1) := by decide +kernel
theorem dX12_which_9 : decode cX12_which 9 = .ok (.invokevirtual 178, 3) := by decide +kernel
theorem dX12_which_12 : decode cX12_which 12 = .ok (.ifCond .ne 9, 3) := by decide +kernel
theorem dX12_which_15 : decode cX12_which 15 = .ok (.aload_n 0, 1) := by decide +kernel
theorem dX12_which_16 : decode cX12_which 16 = .ok (.iconst 1, 1) := by decide +kernel
theorem dX12_which_17 : decode cX12_which 17 = .ok (.invokevirtual 131, 3) := by decide +kernel
theorem dX12_which_20 : decode cX12_which 20 = .ok (.ireturn, 1) := by decide +kernel
theorem dX12_which_21 : decode cX12_which 21 = .ok (.aload_n 0, 1) := by decide +kernel
theorem dX12_which_22 : decode cX12_which 22 = .ok (.getfield 37, 3) := by decide +kernel
theorem dX12_which_25 : decode cX12_which 25 = .ok (.iload_n 1, 1) := by decide +kernel
theorem dX12_which_26 : decode cX12_which 26 = .ok (.iaload, 1) := by decide +kernel
theorem dX12_which_27 : decode cX12_which 27 = .ok (.ifCond .ne 9, 3) := by decide +kernel
theorem dX12_which_30 : decode cX12_which 30 = .ok (.aload_n 0, 1) := by decide +kernel
theorem dX12_which_31 : decode cX12_which 31 = .ok (.iconst 2, 1) := by decide +kernel
theorem dX12_which_32 : decode cX12_which 32 = .ok (.invokevirtual 131, 3) := by decide +kernel
theorem dX12_which_35 : decode cX12_which 35 = .ok (.ireturn, 1) := by decide +kernel
theorem dX12_which_36 : decode cX12_which 36 = .ok (.aload_n 0, 1) := by decide +kernel
theorem dX12_which_37 : decode cX12_which 37 = .ok (.invokevirtual 251, 3) := by decide +kernel
theorem dX12_which_40 : decode cX12_which 40 = .ok (.iconst 0, 1) := by decide +kernel
theorem dX12_which_41 : decode cX12_which 41 = .ok (.istore_n 3, 1) := by decide +kernel
theorem dX12_which_42 : decode cX12_which 42 = .ok (.iconst 0, 1) := by decide +kernel
theorem dX12_which_43 : decode cX12_which 43 = .ok (.istore 4, 2) := by decide +kernel
theorem dX12_which_45 : decode cX12_which 45 = .ok (.iload 4, 2) := by decide +kernel
theorem dX12_which_47 : decode cX12_which 47 = .ok (.bipush 6, 2) := by decide +kernel
theorem dX12_which_49 : decode cX12_which 49 = .ok (.if_icmp .gt 36, 3) := by decide +kernel
theorem dX12_which_52 : decode cX12_which 52 = .ok (.aload_n 0, 1) := by decide +kernel
theorem dX12_which_53 : decode cX12_which 53 = .ok (.iload_n 2, 1) := by decide +kernel
theorem dX12_which_54 : decode cX12_which 54 = .ok (.iconst 0, 1) := by decide +kernel
theorem dX12_which_55 : decode cX12_which 55 = .ok (.iload 4, 2) := by decide +kernel
theorem dX12_which_57 : decode cX12_which 57 = .ok (.invokevirtual 166, 3) := by decide +kernel
theorem dX12_which_60 : decode cX12_which 60 = .ok (.iload_n 3, 1) := by decide +kernel
theorem dX12_which_61 : decode cX12_which 61 = .ok (.aload_n 0, 1) := by decide +kernel
theorem dX12_which_62 : decode cX12_which 62 = .ok (.iload_n 1, 1) := by decide +kernel
theorem dX12_which_63 : decode cX12_which 63 = .ok (.invokevirtual 266, 3) := by decide +kernel
theorem dX12_which_66 : decode cX12_which 66 = .ok (.ifCond .eq 10, 3) := by decide +kernel
theorem dX12_which_69 : decode cX12_which 69 = .ok (.iconst 1, 1) := by decide +kernel
theorem dX12_which_70 : decode cX12_which 70 = .ok (.iload 4, 2) := by decide +kernel
theorem dX12_which_72 : decode cX12_which 72 = .ok (.ishl, 1) := by decide +kernel
theorem dX12_which_73 : decode cX12_which 73 = .ok (.goto 4, 3) := by decide +kernel
theorem dX12_which_76 : decode cX12_which 76 = .ok (.iconst 0, 1) := by decide +kernel
theorem dX12_which_77 : decode cX12_which 77 = .ok (.ior, 1) := by decide +kernel
theorem dX12_which_78 : decode cX12_which 78 = .ok (.istore_n 3, 1) := by decide +kernel
theorem dX12_which_79 : decode cX12_which 79 = .ok (.iinc 4 1, 3) := by decide +kernel
theorem dX12_which_82 : decode cX12_which 82 = .ok (.goto (-37), 3) := by decide +kernel
theorem dX12_which_85 : decode cX12_which 85 = .ok (.iload_n 3, 1) := by decide +kernel
theorem dX12_which_86 : decode cX12_which 86 = .ok (.ireturn, 1) := by decide +kernel
set_option maxRecDepth 20000 in
theorem ggX12_isAlone_X12_on : GoodIn wsX12_isAlone wsX12_on := goodIn_r _ [6, 7, 8, 9, 5, 10, 1, 11, 12, 13, 14, 15, 16, 17, 18, 19, 20, 21, 22, 23, 24, 25, 26, 27, 28, 29, 30, 31, 32, 33] rfl (by decide +kernel)
set_option maxRecDepth 20000 in
theorem gX12_isAlone_X12_on : GoodIn wsX12_isAlone (wsV RX12 154 RX12 yX12_on wsX12_on) := goodIn_app (goodIn_r _ [2, 3, 4, 5] rfl (by decide +kernel)) ggX12_isAlone_X12_on
theorem dX12_isAlone_0 : decode cX12_isAlone 0 = .ok (.iconst 0, 1) := by decide +kernel
theorem dX12_isAlone_1 : decode cX12_isAlone 1 = .ok (.istore_n 2, 1) := by decide +kernel
theorem dX12_isAlone_2 : decode cX12_isAlone 2 = .ok (.iconst 0, 1) := by decide +kernel
theorem dX12_isAlone_3 : decode cX12_isAlone 3 = .ok (.istore_n 3, 1) := by decide +kernel
theorem dX12_isAlone_4 : decode cX12_isAlone 4 = .ok (.iload_n 3, 1) := by decide +kernel
theorem dX12_isAlone_5 : decode cX12_isAlone 5 = .ok (.aload_n 0, 1) := by decide +kernel
theorem dX12_isAlone_6 : decode cX12_isAlone 6 = .ok (.getfield 7, 3) := by decide +kernel
theorem dX12_isAlone_9 : decode cX12_isAlone 9 = .ok (.iconst 0, 1) := by decide +kernel
theorem dX12_isAlone_10 : decode cX12_isAlone 10 = .ok (.iaload, 1) := by decide +kernel
theorem dX12_isAlone_11 : decode cX12_isAlone 11 = .ok (.if_icmp .ge 38, 3) := by decide +kernel
theorem dX12_isAlone_14 : decode cX12_isAlone 14 = .ok (.iload_n 1, 1) := by decide +kernel
theorem dX12_isAlone_15 : decode cX12_isAlone 15 = .ok (.iload_n 3, 1) := by decide +kernel
theorem dX12_isAlone_16 : decode cX12_isAlone 16 = .ok (.ishr, 1) := by decide +kernel
theorem dX12_isAlone_17 : decode cX12_isAlone 17 = .ok (.iconst 1, 1) := by decide +kernel
theorem dX12_isAlone_18 : decode cX12_isAlone 18 = .ok (.iand, 1) := by decide +kernel
theorem dX12_isAlone_19 : decode cX12_isAlone 19 = .ok (.iconst 1, 1) := by decide +kernel
theorem dX12_isAlone_20 : decode cX12_isAlone 20 = .ok (.if_icmp .ne 23, 3) := by decide +kernel
theorem dX12_isAlone_23 : decode cX12_isAlone 23 = .ok (.iload_n 2, 1) := by decide +kernel
theorem dX12_isAlone_24 : decode cX12_isAlone 24 = .ok (.aload_n 0, 1) := by decide +kernel
theorem dX12_isAlone_25 : decode cX12_isAlone 25 = .ok (.iload_n 3, 1) := by decide +kernel
theorem dX12_isAlone_26 : decode cX12_isAlone 26 = .ok (.invokevirtual 154, 3) := by decide +kernel
theorem dX12_isAlone_29 : decode cX12_isAlone 29 = .ok (.iand, 1) := by decide +kernel
theorem dX12_isAlone_30 : decode cX12_isAlone 30 = .ok (.ifCond .eq 5, 3) := by decide +kernel
theorem dX12_isAlone_33 : decode cX12_isAlone 33 = .ok (.iconst 0, 1) := by decide +kernel
theorem dX12_isAlone_34 : decode cX12_isAlone 34 = .ok (.ireturn, 1) := by decide +kernel
theorem dX12_isAlone_35 : decode cX12_isAlone 35 = .ok (.iload_n 2, 1) := by decide +kernel
theorem dX12_isAlone_36 : decode cX12_isAlone 36 = .ok (.aload_n 0, 1) := by decide +kernel
theorem dX12_isAlone_37 : decode cX12_isAlone 37 = .ok (.iload_n 3, 1) := by decide +kernel
theorem dX12_isAlone_38 : decode cX12_isAlone 38 = .ok (.invokevirtual 154, 3) := by decide +kernel
theorem dX12_isAlone_41 : decode cX12_isAlone 41 = .ok (.ior, 1) := by decide +kernel
theorem dX12_isAlone_42 : decode cX12_isAlone 42 = .ok (.istore_n 2, 1) := by decide +kernel
theorem dX12_isAlone_43 : decode cX12_isAlone 43 = .ok (.iinc 3 1, 3) := by decide +kernel
theorem dX12_isAlone_46 : decode cX12_isAlone 46 = .ok (.goto (-42), 3) := by decide +kernel
theorem dX12_isAlone_49 : decode cX12_isAlone 49 = .ok (.iconst 1, 1) := by decide +kernel
theorem dX12_isAlone_50 : decode cX12_isAlone 50 = .ok (.ireturn, 1) := by decide +kernel
set_option maxRecDepth 20000 in
theorem ggX12_washers_X12_isAlone : GoodIn wsX12_washers wsX12_isAlone := goodIn_r _ [7, 1, 8, 9, 10, 6, 11, 12, 13, 14, 15, 16, 17, 18, 19, 20, 21, 22, 23, 24, 25, 26, 27, 28, 29, 30, 31, 32, 33, 34, 35, 36, 37, 38] rfl (by decide +kernel)
set_option maxRecDepth 20000 in
theorem gX12_washers_X12_isAlone : GoodIn wsX12_washers (wsV RX12 269 RX12 yX12_isAlone wsX12_isAlone) := goodIn_app (goodIn_r _ [3, 4, 5, 6] rfl (by decide +kernel)) ggX12_washers_X12_isAlone
theorem dX12_washers_0 : decode cX12_washers 0 = .ok (.iconst 0, 1) := by decide +kernel
theorem dX12_washers_1 : decode cX12_washers 1 = .ok (.istore_n 1, 1) := by decide +kernel
theorem dX12_washers_2 : decode cX12_washers 2 = .ok (.iload_n 1, 1) := by decide +kernel
theorem dX12_washers_3 : decode cX12_washers 3 = .ok (.iconst 1, 1) := by decide +kernel
theorem dX12_washers_4 : decode cX12_washers 4 = .ok (.aload_n 0, 1) := by decide +kernel
theorem dX12_washers_5 : decode cX12_washers 5 = .ok (.getfield 7, 3) := by decide +kernel
theorem dX12_washers_8 : decode cX12_washers 8 = .ok (.iconst 0, 1) := by decide +kernel
theorem dX12_washers_9 : decode cX12_washers 9 = .ok (.iaload, 1) := by decide +kernel
theorem dX12_washers_10 : decode cX12_washers 10 = .ok (.ishl, 1) := by decide +kernel
theorem dX12_washers_11 : decode cX12_washers 11 = .ok (.if_icmp .ge 100, 3) := by decide +kernel
theorem dX12_washers_14 : decode cX12_washers 14 = .ok (.aload_n 0, 1) := by decide +kernel
theorem dX12_washers_15 : decode cX12_washers 15 = .ok (.getfield 31, 3) := by decide +kernel
theorem dX12_washers_18 : decode cX12_washers 18 = .ok (.iload_n 1, 1) := by decide +kernel
theorem dX12_washers_19 : decode cX12_washers 19 = .ok (.iload_n 1, 1) := by decide +kernel
theorem dX12_washers_20 : decode cX12_washers 20 = .ok (.ifCond .ne 7, 3) := by decide +kernel
theorem dX12_washers_23 : decode cX12_washers 23 = .ok (.iconst 0, 1) := by decide +kernel
theorem dX12_washers_24 : decode cX12_washers 24 = .ok (.goto 17, 3) := by decide +kernel
theorem dX12_washers_27 : decode cX12_washers 27 = .ok (.aload_n 0, 1) := by decide +kernel
theorem dX12_washers_28 : decode cX12_washers 28 = .ok (.iload_n 1, 1) := by decide +kernel
theorem dX12_washers_29 : decode cX12_washers 29 = .ok (.invokevirtual 269, 3) := by decide +kernel
theorem dX12_washers_32 : decode cX12_washers 32 = .ok (.ifCond .eq 7, 3) := by decide +kernel
theorem dX12_washers_35 : decode cX12_washers 35 = .ok (.iconst 1, 1) := by decide +kernel
theorem dX12_washers_36 : decode cX12_washers 36 = .ok (.goto 5, 3) := by decide +kernel
theorem dX12_washers_39 : decode cX12_washers 39 = .ok (.bipush 8, 2) := by decide +kernel
theorem dX12_washers_41 : decode cX12_washers 41 = .ok (.iastore, 1) := by decide +kernel
theorem dX12_washers_42 : decode cX12_washers 42 = .ok (.iload_n 1, 1) := by decide +kernel
theorem dX12_washers_43 : decode cX12_washers 43 = .ok (.iconst 1, 1) := by decide +kernel
theorem dX12_washers_44 : decode cX12_washers 44 = .ok (.isub, 1) := by decide +kernel
theorem dX12_washers_45 : decode cX12_washers 45 = .ok (.iload_n 1, 1) := by decide +kernel
theorem dX12_washers_46 : decode cX12_washers 46 = .ok (.iand, 1) := by decide +kernel
theorem dX12_washers_47 : decode cX12_washers 47 = .ok (.istore_n 2, 1) := by decide +kernel
theorem dX12_washers_48 : decode cX12_washers 48 = .ok (.iload_n 2, 1) := by decide +kernel
theorem dX12_washers_49 : decode cX12_washers 49 = .ok (.ifCond .le 56, 3) := by decide +kernel
theorem dX12_washers_52 : decode cX12_washers 52 = .ok (.aload_n 0, 1) := by decide +kernel
theorem dX12_washers_53 : decode cX12_washers 53 = .ok (.getfield 31, 3) := by decide +kernel
theorem dX12_washers_56 : decode cX12_washers 56 = .ok (.iload_n 2, 1) := by decide +kernel
theorem dX12_washers_57 : decode cX12_washers 57 = .ok (.iaload, 1) := by decide +kernel
theorem dX12_washers_58 : decode cX12_washers 58 = .ok (.aload_n 0, 1) := by decide +kernel
theorem dX12_washers_59 : decode cX12_washers 59 = .ok (.getfield 31, 3) := by decide +kernel
theorem dX12_washers_62 : decode cX12_washers 62 = .ok (.iload_n 1, 1) := by decide +kernel
theorem dX12_washers_63 : decode cX12_washers 63 = .ok (.iload_n 2, 1) := by decide +kernel
theorem dX12_washers_64 : decode cX12_washers 64 = .ok (.iconst (-1), 1) := by decide +kernel
theorem dX12_washers_65 : decode cX12_washers 65 = .ok (.ixor, 1) := by decide +kernel
theorem dX12_washers_66 : decode cX12_washers 66 = .ok (.iand, 1) := by decide +kernel
theorem dX12_washers_67 : decode cX12_washers 67 = .ok (.iaload, 1) := by decide +kernel
theorem dX12_washers_68 : decode cX12_washers 68 = .ok (.iadd, 1) := by decide +kernel
theorem dX12_washers_69 : decode cX12_washers 69 = .ok (.istore_n 3, 1) := by decide +kernel
theorem dX12_washers_70 : decode cX12_washers 70 = .ok (.aload_n 0, 1) := by decide +kernel
theorem dX12_washers_71 : decode cX12_washers 71 = .ok (.getfield 31, 3) := by decide +kernel
theorem dX12_washers_74 : decode cX12_washers 74 = .ok (.iload_n 1, 1) := by decide +kernel
theorem dX12_washers_75 : decode cX12_washers 75 = .ok (.iload_n 3, 1) := by decide +kernel
theorem dX12_washers_76 : decode cX12_washers 76 = .ok (.aload_n 0, 1) := by decide +kernel
theorem dX12_washers_77 : decode cX12_washers 77 = .ok (.getfield 31, 3) := by decide +kernel
theorem dX12_washers_80 : decode cX12_washers 80 = .ok (.iload_n 1, 1) := by decide +kernel
theorem dX12_washers_81 : decode cX12_washers 81 = .ok (.iaload, 1) := by decide +kernel
theorem dX12_washers_82 : decode cX12_washers 82 = .ok (.if_icmp .ge 7, 3) := by decide +kernel
theorem dX12_washers_85 : decode cX12_washers 85 = .ok (.iload_n 3, 1) := by decide +kernel
theorem dX12_washers_86 : decode cX12_washers 86 = .ok (.goto 9, 3) := by decide +kernel
theorem dX12_washers_89 : decode cX12_washers 89 = .ok (.aload_n 0, 1) := by decide +kernel
theorem dX12_washers_90 : decode cX12_washers 90 = .ok (.getfield 31, 3) := by decide +kernel
theorem dX12_washers_93 : decode cX12_washers 93 = .ok (.iload_n 1, 1) := by decide +kernel
theorem dX12_washers_94 : decode cX12_washers 94 = .ok (.iaload, 1) := by decide +kernel
theorem dX12_washers_95 : decode cX12_washers 95 = .ok (.iastore, 1) := by decide +kernel
theorem dX12_washers_96 : decode cX12_washers 96 = .ok (.iload_n 2, 1) := by decide +kernel
theorem dX12_washers_97 : decode cX12_washers 97 = .ok (.iconst 1, 1) := by decide +kernel
theorem dX12_washers_98 : decode cX12_washers 98 = .ok (.isub, 1) := by decide +kernel
theorem dX12_washers_99 : decode cX12_washers 99 = .ok (.iload_n 1, 1) := by decide +kernel
theorem dX12_washers_100 : decode cX12_washers 100 = .ok (.iand, 1) := by decide +kernel
theorem dX12_washers_101 : decode cX12_washers 101 = .ok (.istore_n 2, 1) := by decide +kernel
theorem dX12_washers_102 : decode cX12_washers 102 = .ok (.goto (-54), 3) := by decide +kernel
theorem dX12_washers_105 : decode cX12_washers 105 = .ok (.iinc 1 1, 3) := by decide +kernel
theorem dX12_washers_108 : decode cX12_washers 108 = .ok (.goto (-106), 3) := by decide +kernel
theorem dX12_washers_111 : decode cX12_washers 111 = .ok (.aload_n 0, 1) := by decide +kernel
theorem dX12_washers_112 : decode cX12_washers 112 = .ok (.getfield 31, 3) := by decide +kernel
theorem dX12_washers_115 : decode cX12_washers 115 = .ok (.iconst 1, 1) := by decide +kernel
theorem dX12_washers_116 : decode cX12_washers 116 = .ok (.aload_n 0, 1) := by decide +kernel
theorem dX12_washers_117 : decode cX12_washers 117 = .ok (.getfield 7, 3) := by decide +kernel
theorem dX12_washers_120 : decode cX12_washers 120 = .ok (.iconst 0, 1) := by decide +kernel
theorem dX12_washers_121 : decode cX12_washers 121 = .ok (.iaload, 1) := by decide +kernel
theorem dX12_washers_122 : decode cX12_washers 122 = .ok (.ishl, 1) := by decide +kernel
theorem dX12_washers_123 : decode cX12_washers 123 = .ok (.iconst 1, 1) := by decide +kernel
theorem dX12_washers_124 : decode cX12_washers 124 = .ok (.isub, 1) := by decide +kernel
theorem dX12_washers_125 : decode cX12_washers 125 = .ok (.iaload, 1) := by decide +kernel
theorem dX12_washers_126 : decode cX12_washers 126 = .ok (.ireturn, 1) := by decide +kernel
set_option maxRecDepth 20000 in
theorem ggX12_telling_X12_areWords : GoodIn wsX12_telling wsX12_areWords := goodIn_r _ [5, 6, 7, 8, 4, 9] rfl (by decide +kernel)
set_option maxRecDepth 20000 in
theorem gX12_telling_X12_areWords : GoodIn wsX12_telling (va_wsS RX12 204 yX12_areWords wsX12_areWords) := goodIn_app (goodIn_r _ [2, 3, 4] rfl (by decide +kernel)) ggX12_telling_X12_areWords
set_option maxRecDepth 20000 in
theorem ggX12_telling_X12_finds : GoodIn wsX12_telling wsX12_finds := goodIn_r _ [13, 14, 15, 27, 28, 29, 30, 31, 32, 33, 34, 35, 36, 37, 38, 39, 40, 41, 42, 43, 44, 45, 46, 47, 48, 49] rfl (by decide +kernel)
set_option maxRecDepth 20000 in
theorem gX12_telling_X12_finds : GoodIn wsX12_telling (wsV RX12 131 RX12 yX12_finds wsX12_finds) := goodIn_app (goodIn_r _ [10, 11, 12, 4] rfl (by decide +kernel)) ggX12_telling_X12_finds
set_option maxRecDepth 20000 in
theorem ggX12_telling_X12_on : GoodIn wsX12_telling wsX12_on := goodIn_r _ [19, 20, 21, 22, 4, 23, 1, 27, 28, 29, 30, 31, 32, 33, 34, 35, 36, 37, 38, 39, 40, 41, 42, 43, 44, 45, 46, 47, 48, 49] rfl (by decide +kernel)
set_option maxRecDepth 20000 in
theorem gX12_telling_X12_on : GoodIn wsX12_telling (wsV RX12 154 RX12 yX12_on wsX12_on) := goodIn_app (goodIn_r _ [16, 17, 18, 4] rfl (by decide +kernel)) ggX12_telling_X12_on
set_option maxRecDepth 20000 in
theorem ggX12_telling_X12_ones : GoodIn wsX12_telling wsX12_ones := goodIn_r _ [26] rfl (by decide +kernel)
set_option maxRecDepth 20000 in
theorem gX12_telling_X12_ones : GoodIn wsX12_telling (va_wsS RX12 157 yX12_ones wsX12_ones) := goodIn_app (goodIn_r _ [24, 25, 4] rfl (by decide +kernel)) ggX12_telling_X12_ones
theorem dX12_telling_0 : decode cX12_telling 0 = .ok (.iload_n 1, 1) := by decide +kernel
theorem dX12_telling_1 : decode cX12_telling 1 = .ok (.invokestatic 204, 3) := by decide +kernel
theorem dX12_telling_4 : decode cX12_telling 4 = .ok (.ifCond .ne 9, 3) := by decide +kernel
theorem dX12_telling_7 : decode cX12_telling 7 = .ok (.aload_n 0, 1) := by decide +kernel
theorem dX12_telling_8 : decode cX12_telling 8 = .ok (.iconst 1, 1) := by decide +kernel
theorem dX12_telling_9 : decode cX12_telling 9 = .ok (.invokevirtual 131, 3) := by decide +kernel
theorem dX12_telling_12 : decode cX12_telling 12 = .ok (.ireturn, 1) := by decide +kernel
theorem dX12_telling_13 : decode cX12_telling 13 = .ok (.iconst (-1), 1) := by decide +kernel
theorem dX12_telling_14 : decode cX12_telling 14 = .ok (.istore_n 2, 1) := by decide +kernel
theorem dX12_telling_15 : decode cX12_telling 15 = .ok (.iconst 0, 1) := by decide +kernel
theorem dX12_telling_16 : decode cX12_telling 16 = .ok (.istore_n 3, 1) := by decide +kernel
theorem dX12_telling_17 : decode cX12_telling 17 = .ok (.iload_n 3, 1) := by decide +kernel
theorem dX12_telling_18 : decode cX12_telling 18 = .ok (.iconst 1, 1) := by decide +kernel
theorem dX12_telling_19 : decode cX12_telling 19 = .ok (.aload_n 0, 1) := by decide +kernel
theorem dX12_telling_20 : decode cX12_telling 20 = .ok (.getfield 7, 3) := by decide +kernel
theorem dX12_telling_23 : decode cX12_telling 23 = .ok (.iconst 0, 1) := by decide +kernel
theorem dX12_telling_24 : decode cX12_telling 24 = .ok (.iaload, 1) := by decide +kernel
theorem dX12_telling_25 : decode cX12_telling 25 = .ok (.ishl, 1) := by decide +kernel
theorem dX12_telling_26 : decode cX12_telling 26 = .ok (.if_icmp .ge 85, 3) := by decide +kernel
theorem dX12_telling_29 : decode cX12_telling 29 = .ok (.iload_n 1, 1) := by decide +kernel
theorem dX12_telling_30 : decode cX12_telling 30 = .ok (.istore 4, 2) := by decide +kernel
theorem dX12_telling_32 : decode cX12_telling 32 = .ok (.iconst 0, 1) := by decide +kernel
theorem dX12_telling_33 : decode cX12_telling 33 = .ok (.istore 5, 2) := by decide +kernel
theorem dX12_telling_35 : decode cX12_telling 35 = .ok (.iload 5, 2) := by decide +kernel
theorem dX12_telling_37 : decode cX12_telling 37 = .ok (.aload_n 0, 1) := by decide +kernel
theorem dX12_telling_38 : decode cX12_telling 38 = .ok (.getfield 7, 3) := by decide +kernel
theorem dX12_telling_41 : decode cX12_telling 41 = .ok (.iconst 0, 1) := by decide +kernel
theorem dX12_telling_42 : decode cX12_telling 42 = .ok (.iaload, 1) := by decide +kernel
theorem dX12_telling_43 : decode cX12_telling 43 = .ok (.if_icmp .ge 36, 3) := by decide +kernel
theorem dX12_telling_46 : decode cX12_telling 46 = .ok (.iload 4, 2) := by decide +kernel
theorem dX12_telling_48 : decode cX12_telling 48 = .ok (.iload_n 3, 1) := by decide +kernel
theorem dX12_telling_49 : decode cX12_telling 49 = .ok (.iload 5, 2) := by decide +kernel
theorem dX12_telling_51 : decode cX12_telling 51 = .ok (.ishr, 1) := by decide +kernel
theorem dX12_telling_52 : decode cX12_telling 52 = .ok (.iconst 1, 1) := by decide +kernel
theorem dX12_telling_53 : decode cX12_telling 53 = .ok (.iand, 1) := by decide +kernel
theorem dX12_telling_54 : decode cX12_telling 54 = .ok (.iconst 1, 1) := by decide +kernel
theorem dX12_telling_55 : decode cX12_telling 55 = .ok (.if_icmp .ne 14, 3) := by decide +kernel
theorem dX12_telling_58 : decode cX12_telling 58 = .ok (.aload_n 0, 1) := by decide +kernel
theorem dX12_telling_59 : decode cX12_telling 59 = .ok (.iload 5, 2) := by decide +kernel
theorem dX12_telling_61 : decode cX12_telling 61 = .ok (.invokevirtual 154, 3) := by decide +kernel
theorem dX12_telling_64 : decode cX12_telling 64 = .ok (.iconst (-1), 1) := by decide +kernel
theorem dX12_telling_65 : decode cX12_telling 65 = .ok (.ixor, 1) := by decide +kernel
theorem dX12_telling_66 : decode cX12_telling 66 = .ok (.goto 4, 3) := by decide +kernel
theorem dX12_telling_69 : decode cX12_telling 69 = .ok (.iconst (-1), 1) := by decide +kernel
theorem dX12_telling_70 : decode cX12_telling 70 = .ok (.iand, 1) := by decide +kernel
theorem dX12_telling_71 : decode cX12_telling 71 = .ok (.istore 4, 2) := by decide +kernel
theorem dX12_telling_73 : decode cX12_telling 73 = .ok (.iinc 5 1, 3) := by decide +kernel
theorem dX12_telling_76 : decode cX12_telling 76 = .ok (.goto (-41), 3) := by decide +kernel
theorem dX12_telling_79 : decode cX12_telling 79 = .ok (.iload 4, 2) := by decide +kernel
theorem dX12_telling_81 : decode cX12_telling 81 = .ok (.ifCond .ne 22, 3) := by decide +kernel
theorem dX12_telling_84 : decode cX12_telling 84 = .ok (.iload_n 2, 1) := by decide +kernel
theorem dX12_telling_85 : decode cX12_telling 85 = .ok (.ifCond .lt 14, 3) := by decide +kernel
theorem dX12_telling_88 : decode cX12_telling 88 = .ok (.iload_n 3, 1) := by decide +kernel
theorem dX12_telling_89 : decode cX12_telling 89 = .ok (.invokestatic 157, 3) := by decide +kernel
theorem dX12_telling_92 : decode cX12_telling 92 = .ok (.iload_n 2, 1) := by decide +kernel
theorem dX12_telling_93 : decode cX12_telling 93 = .ok (.invokestatic 157, 3) := by decide +kernel
theorem dX12_telling_96 : decode cX12_telling 96 = .ok (.if_icmp .ge 7, 3) := by decide +kernel
theorem dX12_telling_99 : decode cX12_telling 99 = .ok (.iload_n 3, 1) := by decide +kernel
theorem dX12_telling_100 : decode cX12_telling 100 = .ok (.goto 4, 3) := by decide +kernel
theorem dX12_telling_103 : decode cX12_telling 103 = .ok (.iload_n 2, 1) := by decide +kernel
theorem dX12_telling_104 : decode cX12_telling 104 = .ok (.istore_n 2, 1) := by decide +kernel
theorem dX12_telling_105 : decode cX12_telling 105 = .ok (.iinc 3 1, 3) := by decide +kernel
theorem dX12_telling_108 : decode cX12_telling 108 = .ok (.goto (-91), 3) := by decide +kernel
theorem dX12_telling_111 : decode cX12_telling 111 = .ok (.iload_n 2, 1) := by decide +kernel
theorem dX12_telling_112 : decode cX12_telling 112 = .ok (.ifCond .ge 11, 3) := by decide +kernel
theorem dX12_telling_115 : decode cX12_telling 115 = .ok (.aload_n 0, 1) := by decide +kernel
theorem dX12_telling_116 : decode cX12_telling 116 = .ok (.iconst 2, 1) := by decide +kernel
theorem dX12_telling_117 : decode cX12_telling 117 = .ok (.invokevirtual 131, 3) := by decide +kernel
theorem dX12_telling_120 : decode cX12_telling 120 = .ok (.goto 4, 3) := by decide +kernel
theorem dX12_telling_123 : decode cX12_telling 123 = .ok (.iload_n 2, 1) := by decide +kernel
theorem dX12_telling_124 : decode cX12_telling 124 = .ok (.ireturn, 1) := by decide +kernel
set_option maxRecDepth 20000 in
theorem ggX12_gossip_X12_isAhead : GoodIn wsX12_gossip wsX12_isAhead := goodIn_r _ [5, 6, 7, 8, 4, 9] rfl (by decide +kernel)
set_option maxRecDepth 20000 in
theorem gX12_gossip_X12_isAhead : GoodIn wsX12_gossip (va_wsS RX12 248 yX12_isAhead wsX12_isAhead) := goodIn_app (goodIn_r _ [2, 3, 4] rfl (by decide +kernel)) ggX12_gossip_X12_isAhead
set_option maxRecDepth 20000 in
theorem ggX12_gossip_X12_finds : GoodIn wsX12_gossip wsX12_finds := goodIn_r _ [13, 14, 15, 96, 97, 98, 99, 100, 101, 102, 103, 104, 105, 106, 107, 108, 109, 110, 111, 112, 113, 114, 115, 116, 117, 118] rfl (by decide +kernel)
set_option maxRecDepth 20000 in
theorem gX12_gossip_X12_finds : GoodIn wsX12_gossip (wsV RX12 131 RX12 yX12_finds wsX12_finds) := goodIn_app (goodIn_r _ [10, 11, 12, 4] rfl (by decide +kernel)) ggX12_gossip_X12_finds
set_option maxRecDepth 20000 in
theorem ggX12_gossip_X12_keepAside : GoodIn wsX12_gossip wsX12_keepAside := goodIn_r _ [19, 20, 1, 96, 97, 98, 99, 100, 101, 102, 103, 104, 105, 106, 107, 108, 109, 110, 111, 112, 113, 114, 115, 116, 117, 118] rfl (by decide +kernel)
set_option maxRecDepth 20000 in
theorem gX12_gossip_X12_keepAside : GoodIn wsX12_gossip (wsV RX12 251 RX12 yX12_keepAside wsX12_keepAside) := goodIn_app (goodIn_r _ [16, 17, 18, 4] rfl (by decide +kernel)) ggX12_gossip_X12_keepAside
set_option maxRecDepth 20000 in
theorem ggX12_gossip_X12_hoursGo : GoodIn wsX12_gossip wsX12_hoursGo := goodIn_r _ [24, 25, 26, 27, 4, 28, 1, 29, 30, 31, 32, 7, 8, 9, 33, 34, 35, 36, 37, 38, 39, 40, 41, 42, 43, 44, 45, 46, 47, 48, 49, 50, 51, 52, 53, 54, 55, 56, 57, 58, 59, 60, 61, 62, 63, 64, 65, 66, 67, 68, 69, 70, 71, 72, 73, 74, 75, 76, 77, 78, 79, 80, 81, 82, 83, 84, 85, 86, 87, 88, 89, 90, 91, 96, 97, 98, 99, 100, 101, 102, 103, 104, 105, 106, 107, 108, 109, 110, 111, 112, 113, 114, 115, 116, 117, 118] rfl (by decide +kernel)
set_option maxRecDepth 20000 in
theorem gX12_gossip_X12_hoursGo : GoodIn wsX12_gossip (wsV RX12 239 RX12 yX12_hoursGo wsX12_hoursGo) := goodIn_app (goodIn_r _ [21, 22, 23, 4] rfl (by decide +kernel)) ggX12_gossip_X12_hoursGo
set_option maxRecDepth 20000 in
theorem ggX12_gossip_X12_putBack : GoodIn wsX12_gossip wsX12_putBack := goodIn_r _ [95, 1, 20, 96, 97, 98, 99, 100, 101, 102, 103, 104, 105, 106, 107, 108, 109, 110, 111, 112, 113, 114, 115, 116, 117, 118] rfl (by decide +kernel)
set_option maxRecDepth 20000 in
theorem gX12_gossip_X12_putBack : GoodIn wsX12_gossip (wsV RX12 254 RX12 yX12_putBack wsX12_putBack) := goodIn_app (goodIn_r _ [92, 93, 94, 4] rfl (by decide +kernel)) ggX12_gossip_X12_putBack
theorem dX12_gossip_0 : decode cX12_gossip 0 = .ok (.iload_n 1, 1) := by decide +kernel
theorem dX12_gossip_1 : decode cX12_gossip 1 = .ok (.invokestatic 248, 3) := by decide +kernel
theorem dX12_gossip_4 : decode cX12_gossip 4 = .ok (.ifCond .ne 9, 3) := by decide +kernel
theorem dX12_gossip_7 : decode cX12_gossip 7 = .ok (.aload_n 0, 1) := by decide +kernel
theorem dX12_gossip_8 : decode cX12_gossip 8 = .ok (.iconst 1, 1) := by decide +kernel
theorem dX12_gossip_9 : decode cX12_gossip 9 = .ok (.invokevirtual 131, 3) := by decide +kernel
theorem dX12_gossip_12 : decode cX12_gossip 12 = .ok (.ireturn, 1) := by decide +kernel
theorem dX12_gossip_13 : decode cX12_gossip 13 = .ok (.aload_n 0, 1) := by decide +kernel
theorem dX12_gossip_14 : decode cX12_gossip 14 = .ok (.invokevirtual 251, 3) := by decide +kernel
theorem dX12_gossip_17 : decode cX12_gossip 17 = .ok (.aload_n 0, 1) := by decide +kernel
theorem dX12_gossip_18 : decode cX12_gossip 18 = .ok (.iload_n 1, 1) := by decide +kernel
theorem dX12_gossip_19 : decode cX12_gossip 19 = .ok (.invokevirtual 239, 3) := by decide +kernel
theorem dX12_gossip_22 : decode cX12_gossip 22 = .ok (.iconst 0, 1) := by decide +kernel
theorem dX12_gossip_23 : decode cX12_gossip 23 = .ok (.istore_n 2, 1) := by decide +kernel
theorem dX12_gossip_24 : decode cX12_gossip 24 = .ok (.iconst 0, 1) := by decide +kernel
theorem dX12_gossip_25 : decode cX12_gossip 25 = .ok (.istore_n 3, 1) := by decide +kernel
theorem dX12_gossip_26 : decode cX12_gossip 26 = .ok (.iload_n 3, 1) := by decide +kernel
theorem dX12_gossip_27 : decode cX12_gossip 27 = .ok (.bipush 12, 2) := by decide +kernel
theorem dX12_gossip_29 : decode cX12_gossip 29 = .ok (.if_icmp .ge 32, 3) := by decide +kernel
theorem dX12_gossip_32 : decode cX12_gossip 32 = .ok (.iload_n 2, 1) := by decide +kernel
theorem dX12_gossip_33 : decode cX12_gossip 33 = .ok (.aload_n 0, 1) := by decide +kernel
theorem dX12_gossip_34 : decode cX12_gossip 34 = .ok (.getfield 7, 3) := by decide +kernel
theorem dX12_gossip_37 : decode cX12_gossip 37 = .ok (.iconst 2, 1) := by decide +kernel
theorem dX12_gossip_38 : decode cX12_gossip 38 = .ok (.iaload, 1) := by decide +kernel
theorem dX12_gossip_39 : decode cX12_gossip 39 = .ok (.iload_n 3, 1) := by decide +kernel
theorem dX12_gossip_40 : decode cX12_gossip 40 = .ok (.ishr, 1) := by decide +kernel
theorem dX12_gossip_41 : decode cX12_gossip 41 = .ok (.iconst 1, 1) := by decide +kernel
theorem dX12_gossip_42 : decode cX12_gossip 42 = .ok (.iand, 1) := by decide +kernel
theorem dX12_gossip_43 : decode cX12_gossip 43 = .ok (.aload_n 0, 1) := by decide +kernel
theorem dX12_gossip_44 : decode cX12_gossip 44 = .ok (.getfield 7, 3) := by decide +kernel
theorem dX12_gossip_47 : decode cX12_gossip 47 = .ok (.bipush 6, 2) := by decide +kernel
theorem dX12_gossip_49 : decode cX12_gossip 49 = .ok (.iload_n 3, 1) := by decide +kernel
theorem dX12_gossip_50 : decode cX12_gossip 50 = .ok (.iadd, 1) := by decide +kernel
theorem dX12_gossip_51 : decode cX12_gossip 51 = .ok (.iaload, 1) := by decide +kernel
theorem dX12_gossip_52 : decode cX12_gossip 52 = .ok (.imul, 1) := by decide +kernel
theorem dX12_gossip_53 : decode cX12_gossip 53 = .ok (.iadd, 1) := by decide +kernel
theorem dX12_gossip_54 : decode cX12_gossip 54 = .ok (.istore_n 2, 1) := by decide +kernel
theorem dX12_gossip_55 : decode cX12_gossip 55 = .ok (.iinc 3 1, 3) := by decide +kernel
theorem dX12_gossip_58 : decode cX12_gossip 58 = .ok (.goto (-32), 3) := by decide +kernel
theorem dX12_gossip_61 : decode cX12_gossip 61 = .ok (.aload_n 0, 1) := by decide +kernel
theorem dX12_gossip_62 : decode cX12_gossip 62 = .ok (.invokevirtual 254, 3) := by decide +kernel
theorem dX12_gossip_65 : decode cX12_gossip 65 = .ok (.iload_n 2, 1) := by decide +kernel
theorem dX12_gossip_66 : decode cX12_gossip 66 = .ok (.ireturn, 1) := by decide +kernel
set_option maxRecDepth 20000 in
theorem ggX12_much_X12_isSpoon : GoodIn wsX12_much wsX12_isSpoon := goodIn_r _ [5, 6, 7, 8, 4, 9, 20, 21, 22, 23, 24, 25, 26, 27, 28, 29, 30, 31, 32, 33, 34, 35, 36, 37, 38, 39, 40, 41, 42] rfl (by decide +kernel)
set_option maxRecDepth 20000 in
theorem gX12_much_X12_isSpoon : GoodIn wsX12_much (wsV RX12 178 RX12 yX12_isSpoon wsX12_isSpoon) := goodIn_app (goodIn_r _ [1, 2, 3, 4] rfl (by decide +kernel)) ggX12_much_X12_isSpoon
set_option maxRecDepth 20000 in
theorem ggX12_much_X12_finds : GoodIn wsX12_much wsX12_finds := goodIn_r _ [13, 14, 15, 20, 21, 22, 23, 24, 25, 26, 27, 28, 29, 30, 31, 32, 33, 34, 35, 36, 37, 38, 39, 40, 41, 42] rfl (by decide +kernel)
set_option maxRecDepth 20000 in
theorem gX12_much_X12_finds : GoodIn wsX12_much (wsV RX12 131 RX12 yX12_finds wsX12_finds) := goodIn_app (goodIn_r _ [10, 11, 12, 4] rfl (by decide +kernel)) ggX12_much_X12_finds
set_option maxRecDepth 20000 in
theorem ggX12_much_X12_of : GoodIn wsX12_much wsX12_of := goodIn_r _ [19, 6, 20, 21, 22, 23, 24, 25, 26, 27, 28, 29, 30, 31, 32, 33, 34, 35, 36, 37, 38, 39, 40, 41, 42] rfl (by decide +kernel)
set_option maxRecDepth 20000 in
theorem gX12_much_X12_of : GoodIn wsX12_much (wsV RX12 151 RX12 yX12_of wsX12_of) := goodIn_app (goodIn_r _ [16, 17, 18, 4] rfl (by decide +kernel)) ggX12_much_X12_of
theorem dX12_much_0 : decode cX12_much 0 = .ok (.aload_n 0, 1) := by decide +kernel
theorem dX12_much_1 : decode cX12_much 1 = .ok (.iload_n 1, 1) := by decide +kernel
theorem dX12_much_2 : decode cX12_much 2 = .ok (.invokevirtual 178, 3) := by decide +kernel
theorem dX12_much_5 : decode cX12_much 5 = .ok (.ifCond .ne 9, 3) := by decide +kernel
theorem dX12_much_8 : decode cX12_much 8 = .ok (.aload_n 0, 1) := by decide +kernel
theorem dX12_much_9 : decode cX12_much 9 = .ok (.iconst 1, 1) := by decide +kernel
theorem dX12_much_10 : decode cX12_much 10 = .ok (.invokevirtual 131, 3) := by decide +kernel
theorem dX12_much_13 : decode cX12_much 13 = .ok (.ireturn, 1) := by decide +kernel
theorem dX12_much_14 : decode cX12_much 14 = .ok (.iconst 0, 1) := by decide +kernel
theorem dX12_much_15 : decode cX12_much 15 = .ok (.istore_n 2, 1) := by decide +kernel
theorem dX12_much_16 : decode cX12_much 16 = .ok (.iconst 0, 1) := by decide +kernel
theorem dX12_much_17 : decode cX12_much 17 = .ok (.istore_n 3, 1) := by decide +kernel
theorem dX12_much_18 : decode cX12_much 18 = .ok (.iload_n 3, 1) := by decide +kernel
theorem dX12_much_19 : decode cX12_much 19 = .ok (.bipush 12, 2) := by decide +kernel
theorem dX12_much_21 : decode cX12_much 21 = .ok (.if_icmp .ge 34, 3) := by decide +kernel
theorem dX12_much_24 : decode cX12_much 24 = .ok (.aload_n 0, 1) := by decide +kernel
theorem dX12_much_25 : decode cX12_much 25 = .ok (.iload_n 1, 1) := by decide +kernel
theorem dX12_much_26 : decode cX12_much 26 = .ok (.iconst 3, 1) := by decide +kernel
theorem dX12_much_27 : decode cX12_much 27 = .ok (.iload_n 3, 1) := by decide +kernel
theorem dX12_much_28 : decode cX12_much 28 = .ok (.iadd, 1) := by decide +kernel
theorem dX12_much_29 : decode cX12_much 29 = .ok (.invokevirtual 151, 3) := by decide +kernel
theorem dX12_much_32 : decode cX12_much 32 = .ok (.iload_n 2, 1) := by decide +kernel
theorem dX12_much_33 : decode cX12_much 33 = .ok (.if_icmp .le 14, 3) := by decide +kernel
theorem dX12_much_36 : decode cX12_much 36 = .ok (.aload_n 0, 1) := by decide +kernel
theorem dX12_much_37 : decode cX12_much 37 = .ok (.iload_n 1, 1) := by decide +kernel
theorem dX12_much_38 : decode cX12_much 38 = .ok (.iconst 3, 1) := by decide +kernel
theorem dX12_much_39 : decode cX12_much 39 = .ok (.iload_n 3, 1) := by decide +kernel
theorem dX12_much_40 : decode cX12_much 40 = .ok (.iadd, 1) := by decide +kernel
theorem dX12_much_41 : decode cX12_much 41 = .ok (.invokevirtual 151, 3) := by decide +kernel
theorem dX12_much_44 : decode cX12_much 44 = .ok (.goto 4, 3) := by decide +kernel
theorem dX12_much_47 : decode cX12_much 47 = .ok (.iload_n 2, 1) := by decide +kernel
theorem dX12_much_48 : decode cX12_much 48 = .ok (.istore_n 2, 1) := by decide +kernel
theorem dX12_much_49 : decode cX12_much 49 = .ok (.iinc 3 1, 3) := by decide +kernel
theorem dX12_much_52 : decode cX12_much 52 = .ok (.goto (-34), 3) := by decide +kernel
theorem dX12_much_55 : decode cX12_much 55 = .ok (.iload_n 2, 1) := by decide +kernel
theorem dX12_much_56 : decode cX12_much 56 = .ok (.ireturn, 1) := by decide +kernel
theorem dX12_common_0 : decode cX12_common 0 = .ok (.iload_n 0, 1) := by decide +kernel
theorem dX12_common_1 : decode cX12_common 1 = .ok (.istore_n 2, 1) := by decide +kernel
theorem dX12_common_2 : decode cX12_common 2 = .ok (.iload_n 1, 1) := by decide +kernel
theorem dX12_common_3 : decode cX12_common 3 = .ok (.istore_n 3, 1) := by decide +kernel
theorem dX12_common_4 : decode cX12_common 4 = .ok (.iload_n 3, 1) := by decide +kernel
theorem dX12_common_5 : decode cX12_common 5 = .ok (.ifCond .eq 16, 3) := by decide +kernel
theorem dX12_common_8 : decode cX12_common 8 = .ok (.iload_n 2, 1) := by decide +kernel
theorem dX12_common_9 : decode cX12_common 9 = .ok (.iload_n 3, 1) := by decide +kernel
theorem dX12_common_10 : decode cX12_common 10 = .ok (.irem, 1) := by decide +kernel
theorem dX12_common_11 : decode cX12_common 11 = .ok (.istore 4, 2) := by decide +kernel
theorem dX12_common_13 : decode cX12_common 13 = .ok (.iload_n 3, 1) := by decide +kernel
theorem dX12_common_14 : decode cX12_common 14 = .ok (.istore_n 2, 1) := by decide +kernel
theorem dX12_common_15 : decode cX12_common 15 = .ok (.iload 4, 2) := by decide +kernel
theorem dX12_common_17 : decode cX12_common 17 = .ok (.istore_n 3, 1) := by decide +kernel
theorem dX12_common_18 : decode cX12_common 18 = .ok (.goto (-14), 3) := by decide +kernel
theorem dX12_common_21 : decode cX12_common 21 = .ok (.iload_n 2, 1) := by decide +kernel
theorem dX12_common_22 : decode cX12_common 22 = .ok (.ireturn, 1) := by decide +kernel
set_option maxRecDepth 20000 in
theorem ggX12_odds_X12_in : GoodIn wsX12_odds wsX12_in := goodIn_r _ [6] rfl (by decide +kernel)
set_option maxRecDepth 20000 in
theorem gX12_odds_X12_in : GoodIn wsX12_odds (va_wsS RX12 50 yX12_in wsX12_in) := goodIn_app (goodIn_r _ [3, 4, 5] rfl (by decide +kernel)) ggX12_odds_X12_in
set_option maxRecDepth 20000 in
theorem ggX12_odds_X12_isWord : GoodIn wsX12_odds wsX12_isWord := goodIn_r _ [9, 10, 3, 4, 5, 6] rfl (by decide +kernel)
set_option maxRecDepth 20000 in
theorem gX12_odds_X12_isWord : GoodIn wsX12_odds (va_wsS RX12 191 yX12_isWord wsX12_isWord) := goodIn_app (goodIn_r _ [7, 8, 5] rfl (by decide +kernel)) ggX12_odds_X12_isWord
set_option maxRecDepth 20000 in
theorem ggX12_odds_X12_finds : GoodIn wsX12_odds wsX12_finds := goodIn_r _ [14, 15, 16, 100, 101, 102, 103, 104, 105, 106, 107, 108, 109, 110, 111, 112, 113, 114, 115, 116, 117, 118, 119, 120, 121, 122] rfl (by decide +kernel)
set_option maxRecDepth 20000 in
theorem gX12_odds_X12_finds : GoodIn wsX12_odds (wsV RX12 131 RX12 yX12_finds wsX12_finds) := goodIn_app (goodIn_r _ [11, 12, 13, 5] rfl (by decide +kernel)) ggX12_odds_X12_finds
set_option maxRecDepth 20000 in
theorem ggX12_odds_X12_keepAside : GoodIn wsX12_odds wsX12_keepAside := goodIn_r _ [20, 21, 2, 100, 101, 102, 103, 104, 105, 106, 107, 108, 109, 110, 111, 112, 113, 114, 115, 116, 117, 118, 119, 120, 121, 122] rfl (by decide +kernel)
set_option maxRecDepth 20000 in
theorem gX12_odds_X12_keepAside : GoodIn wsX12_odds (wsV RX12 251 RX12 yX12_keepAside wsX12_keepAside) := goodIn_app (goodIn_r _ [17, 18, 19, 5] rfl (by decide +kernel)) ggX12_odds_X12_keepAside
set_option maxRecDepth 20000 in
theorem ggX12_odds_X12_hoursGo : GoodIn wsX12_odds wsX12_hoursGo := goodIn_r _ [25, 26, 27, 28, 5, 29, 2, 30, 31, 32, 33, 3, 4, 6, 34, 35, 36, 37, 38, 39, 40, 41, 42, 43, 44, 45, 46, 47, 48, 49, 50, 51, 52, 53, 54, 55, 56, 57, 58, 59, 60, 61, 62, 63, 64, 65, 66, 67, 68, 69, 70, 71, 72, 73, 74, 75, 76, 77, 78, 79, 80, 81, 82, 83, 84, 85, 86, 87, 88, 89, 90, 91, 92, 100, 101, 102, 103, 104, 105, 106, 107, 108, 109, 110, 111, 112, 113, 114, 115, 116, 117, 118, 119, 120, 121, 122] rfl (by decide +kernel)
set_option maxRecDepth 20000 in
theorem gX12_odds_X12_hoursGo : GoodIn wsX12_odds (wsV RX12 239 RX12 yX12_hoursGo wsX12_hoursGo) := goodIn_app (goodIn_r _ [22, 23, 24, 5] rfl (by decide +kernel)) ggX12_odds_X12_hoursGo
set_option maxRecDepth 20000 in
theorem ggX12_odds_X12_putBack : GoodIn wsX12_odds wsX12_putBack := goodIn_r _ [96, 2, 21, 100, 101, 102, 103, 104, 105, 106, 107, 108, 109, 110, 111, 112, 113, 114, 115, 116, 117, 118, 119, 120, 121, 122] rfl (by decide +kernel)
set_option maxRecDepth 20000 in
theorem gX12_odds_X12_putBack : GoodIn wsX12_odds (wsV RX12 254 RX12 yX12_putBack wsX12_putBack) := goodIn_app (goodIn_r _ [93, 94, 95, 5] rfl (by decide +kernel)) ggX12_odds_X12_putBack
set_option maxRecDepth 20000 in
theorem ggX12_odds_X12_common : GoodIn wsX12_odds wsX12_common := goodIn_r _ [99] rfl (by decide +kernel)
set_option maxRecDepth 20000 in
theorem gX12_odds_X12_common : GoodIn wsX12_odds (va_wsS RX12 274 yX12_common wsX12_common) := goodIn_app (goodIn_r _ [97, 98, 5] rfl (by decide +kernel)) ggX12_odds_X12_common
theorem dX12_odds_0 : decode cX12_odds 0 = .ok (.iload_n 1, 1) := by decide +kernel
theorem dX12_odds_1 : decode cX12_odds 1 = .ok (.i2l, 1) := by decide +kernel
theorem dX12_odds_2 : decode cX12_odds 2 = .ok (.lconst 0, 1) := by decide +kernel
theorem dX12_odds_3 : decode cX12_odds 3 = .ok (.ldc2_w 272, 3) := by decide +kernel
theorem dX12_odds_6 : decode cX12_odds 6 = .ok (.invokestatic 50, 3) := by decide +kernel
theorem dX12_odds_9 : decode cX12_odds 9 = .ok (.ifCond .eq 20, 3) := by decide +kernel
theorem dX12_odds_12 : decode cX12_odds 12 = .ok (.iload_n 2, 1) := by decide +kernel
theorem dX12_odds_13 : decode cX12_odds 13 = .ok (.invokestatic 191, 3) := by decide +kernel
theorem dX12_odds_16 : decode cX12_odds 16 = .ok (.ifCond .eq 13, 3) := by decide +kernel
theorem dX12_odds_19 : decode cX12_odds 19 = .ok (.iload_n 3, 1) := by decide +kernel
theorem dX12_odds_20 : decode cX12_odds 20 = .ok (.i2l, 1) := by decide +kernel
theorem dX12_odds_21 : decode cX12_odds 21 = .ok (.lconst 0, 1) := by decide +kernel
theorem dX12_odds_22 : decode cX12_odds 22 = .ok (.lconst 1, 1) := by decide +kernel
theorem dX12_odds_23 : decode cX12_odds 23 = .ok (.invokestatic 50, 3) := by decide +kernel
theorem dX12_odds_26 : decode cX12_odds 26 = .ok (.ifCond .ne 9, 3) := by decide +kernel
theorem dX12_odds_29 : decode cX12_odds 29 = .ok (.aload_n 0, 1) := by decide +kernel
theorem dX12_odds_30 : decode cX12_odds 30 = .ok (.iconst 1, 1) := by decide +kernel
theorem dX12_odds_31 : decode cX12_odds 31 = .ok (.invokevirtual 131, 3) := by decide +kernel
theorem dX12_odds_34 : decode cX12_odds 34 = .ok (.ireturn, 1) := by decide +kernel
theorem dX12_odds_35 : decode cX12_odds 35 = .ok (.aload_n 0, 1) := by decide +kernel
theorem dX12_odds_36 : decode cX12_odds 36 = .ok (.invokevirtual 251, 3) := by decide +kernel
theorem dX12_odds_39 : decode cX12_odds 39 = .ok (.iconst 0, 1) := by decide +kernel
theorem dX12_odds_40 : decode cX12_odds 40 = .ok (.istore 4, 2) := by decide +kernel
theorem dX12_odds_42 : decode cX12_odds 42 = .ok (.iconst 0, 1) := by decide +kernel
theorem dX12_odds_43 : decode cX12_odds 43 = .ok (.istore 5, 2) := by decide +kernel
theorem dX12_odds_45 : decode cX12_odds 45 = .ok (.iload 5, 2) := by decide +kernel
theorem dX12_odds_47 : decode cX12_odds 47 = .ok (.bipush 12, 2) := by decide +kernel
theorem dX12_odds_49 : decode cX12_odds 49 = .ok (.if_icmp .ge 52, 3) := by decide +kernel
theorem dX12_odds_52 : decode cX12_odds 52 = .ok (.aload_n 0, 1) := by decide +kernel
theorem dX12_odds_53 : decode cX12_odds 53 = .ok (.getfield 7, 3) := by decide +kernel
theorem dX12_odds_56 : decode cX12_odds 56 = .ok (.bipush 24, 2) := by decide +kernel
theorem dX12_odds_58 : decode cX12_odds 58 = .ok (.aload_n 0, 1) := by decide +kernel
theorem dX12_odds_59 : decode cX12_odds 59 = .ok (.getfield 7, 3) := by decide +kernel
theorem dX12_odds_62 : decode cX12_odds 62 = .ok (.iconst 1, 1) := by decide +kernel
theorem dX12_odds_63 : decode cX12_odds 63 = .ok (.iaload, 1) := by decide +kernel
theorem dX12_odds_64 : decode cX12_odds 64 = .ok (.bipush 6, 2) := by decide +kernel
theorem dX12_odds_66 : decode cX12_odds 66 = .ok (.irem, 1) := by decide +kernel
theorem dX12_odds_67 : decode cX12_odds 67 = .ok (.iadd, 1) := by decide +kernel
theorem dX12_odds_68 : decode cX12_odds 68 = .ok (.iload 5, 2) := by decide +kernel
theorem dX12_odds_70 : decode cX12_odds 70 = .ok (.iastore, 1) := by decide +kernel
theorem dX12_odds_71 : decode cX12_odds 71 = .ok (.aload_n 0, 1) := by decide +kernel
theorem dX12_odds_72 : decode cX12_odds 72 = .ok (.iload_n 1, 1) := by decide +kernel
theorem dX12_odds_73 : decode cX12_odds 73 = .ok (.invokevirtual 239, 3) := by decide +kernel
theorem dX12_odds_76 : decode cX12_odds 76 = .ok (.iload 4, 2) := by decide +kernel
theorem dX12_odds_78 : decode cX12_odds 78 = .ok (.aload_n 0, 1) := by decide +kernel
theorem dX12_odds_79 : decode cX12_odds 79 = .ok (.getfield 7, 3) := by decide +kernel
theorem dX12_odds_82 : decode cX12_odds 82 = .ok (.iconst 2, 1) := by decide +kernel
theorem dX12_odds_83 : decode cX12_odds 83 = .ok (.iaload, 1) := by decide +kernel
theorem dX12_odds_84 : decode cX12_odds 84 = .ok (.iload_n 2, 1) := by decide +kernel
theorem dX12_odds_85 : decode cX12_odds 85 = .ok (.ishr, 1) := by decide +kernel
theorem dX12_odds_86 : decode cX12_odds 86 = .ok (.iconst 1, 1) := by decide +kernel
theorem dX12_odds_87 : decode cX12_odds 87 = .ok (.iand, 1) := by decide +kernel
theorem dX12_odds_88 : decode cX12_odds 88 = .ok (.iadd, 1) := by decide +kernel
theorem dX12_odds_89 : decode cX12_odds 89 = .ok (.istore 4, 2) := by decide +kernel
theorem dX12_odds_91 : decode cX12_odds 91 = .ok (.aload_n 0, 1) := by decide +kernel
theorem dX12_odds_92 : decode cX12_odds 92 = .ok (.invokevirtual 254, 3) := by decide +kernel
theorem dX12_odds_95 : decode cX12_odds 95 = .ok (.iinc 5 1, 3) := by decide +kernel
theorem dX12_odds_98 : decode cX12_odds 98 = .ok (.goto (-53), 3) := by decide +kernel
theorem dX12_odds_101 : decode cX12_odds 101 = .ok (.iload_n 3, 1) := by decide +kernel
theorem dX12_odds_102 : decode cX12_odds 102 = .ok (.ifCond .ne 8, 3) := by decide +kernel
theorem dX12_odds_105 : decode cX12_odds 105 = .ok (.iload 4, 2) := by decide +kernel
theorem dX12_odds_107 : decode cX12_odds 107 = .ok (.goto 5, 3) := by decide +kernel
theorem dX12_odds_110 : decode cX12_odds 110 = .ok (.bipush 12, 2) := by decide +kernel
theorem dX12_odds_112 : decode cX12_odds 112 = .ok (.iload 4, 2) := by decide +kernel
theorem dX12_odds_114 : decode cX12_odds 114 = .ok (.bipush 12, 2) := by decide +kernel
theorem dX12_odds_116 : decode cX12_odds 116 = .ok (.invokestatic 274, 3) := by decide +kernel
theorem dX12_odds_119 : decode cX12_odds 119 = .ok (.idiv, 1) := by decide +kernel
theorem dX12_odds_120 : decode cX12_odds 120 = .ok (.ireturn, 1) := by decide +kernel
theorem dX12_ran_0 : decode cX12_ran 0 = .ok (.aload_n 0, 1) := by decide +kernel
theorem dX12_ran_1 : decode cX12_ran 1 = .ok (.getfield 277, 3) := by decide +kernel
theorem dX12_ran_4 : decode cX12_ran 4 = .ok (.bipush 40, 2) := by decide +kernel
theorem dX12_ran_6 : decode cX12_ran 6 = .ok (.if_icmp .ge 23, 3) := by decide +kernel
theorem dX12_ran_9 : decode cX12_ran 9 = .ok (.aload_n 0, 1) := by decide +kernel
theorem dX12_ran_10 : decode cX12_ran 10 = .ok (.getfield 34, 3) := by decide +kernel
theorem dX12_ran_13 : decode cX12_ran 13 = .ok (.aload_n 0, 1) := by decide +kernel
theorem dX12_ran_14 : decode cX12_ran 14 = .ok (.getfield 277, 3) := by decide +kernel
theorem dX12_ran_17 : decode cX12_ran 17 = .ok (.iload_n 1, 1) := by decide +kernel
theorem dX12_ran_18 : decode cX12_ran 18 = .ok (.iastore, 1) := by decide +kernel
theorem dX12_ran_19 : decode cX12_ran 19 = .ok (.aload_n 0, 1) := by decide +kernel
theorem dX12_ran_20 : decode cX12_ran 20 = .ok (.dup, 1) := by decide +kernel
theorem dX12_ran_21 : decode cX12_ran 21 = .ok (.getfield 277, 3) := by decide +kernel
theorem dX12_ran_24 : decode cX12_ran 24 = .ok (.iconst 1, 1) := by decide +kernel
theorem dX12_ran_25 : decode cX12_ran 25 = .ok (.iadd, 1) := by decide +kernel
theorem dX12_ran_26 : decode cX12_ran 26 = .ok (.putfield 277, 3) := by decide +kernel
theorem dX12_ran_29 : decode cX12_ran 29 = .ok (.return_, 1) := by decide +kernel
set_option maxRecDepth 20000 in
theorem ggX12_shinesBy_X12_ran : GoodIn wsX12_shinesBy wsX12_ran := goodIn_r _ [6, 7, 8, 15, 16, 17, 18, 19, 20, 21, 22, 23, 24, 25, 26, 27, 28, 29, 30, 31, 32, 33, 34, 35, 36, 37] rfl (by decide +kernel)
set_option maxRecDepth 20000 in
theorem gX12_shinesBy_X12_ran : GoodIn wsX12_shinesBy (wsV RX12 280 RX12 yX12_ran wsX12_ran) := goodIn_app (goodIn_r _ [2, 3, 4, 5] rfl (by decide +kernel)) ggX12_shinesBy_X12_ran
set_option maxRecDepth 20000 in
theorem ggX12_shinesBy_X12_above : GoodIn wsX12_shinesBy wsX12_above := goodIn_r _ [11] rfl (by decide +kernel)
set_option maxRecDepth 20000 in
theorem gX12_shinesBy_X12_above : GoodIn wsX12_shinesBy (va_wsS RX12 231 yX12_above wsX12_above) := goodIn_app (goodIn_r _ [9, 10, 5] rfl (by decide +kernel)) ggX12_shinesBy_X12_above
set_option maxRecDepth 20000 in
theorem ggX12_shinesBy_X12_shinesBy : GoodIn wsX12_shinesBy wsX12_shinesBy := goodIn_r _ [0, 1, 2, 3, 4, 5, 6, 7, 8, 9, 10, 11, 12, 13, 14, 15, 16, 17, 18, 19, 20, 21, 22, 23, 24, 25, 26, 27, 28, 29, 30, 31, 32, 33, 34, 35, 36, 37] rfl (by decide +kernel)
set_option maxRecDepth 20000 in
theorem gX12_shinesBy_X12_shinesBy : GoodIn wsX12_shinesBy (wsV RX12 286 RX12 yX12_shinesBy wsX12_shinesBy) := goodIn_app (goodIn_r _ [12, 13, 14, 5] rfl (by decide +kernel)) ggX12_shinesBy_X12_shinesBy
theorem dX12_shinesBy_0 : decode cX12_shinesBy 0 = .ok (.iload_n 1, 1) := by decide +kernel
theorem dX12_shinesBy_1 : decode cX12_shinesBy 1 = .ok (.lookupswitch 58 #[(0, 27), (1, 40)], 27) := by decide +kernel
theorem dX12_shinesBy_28 : decode cX12_shinesBy 28 = .ok (.aload_n 0, 1) := by decide +kernel
theorem dX12_shinesBy_29 : decode cX12_shinesBy 29 = .ok (.bipush 10, 2) := by decide +kernel
theorem dX12_shinesBy_31 : decode cX12_shinesBy 31 = .ok (.invokevirtual 280, 3) := by decide +kernel
theorem dX12_shinesBy_34 : decode cX12_shinesBy 34 = .ok (.iload_n 2, 1) := by decide +kernel
theorem dX12_shinesBy_35 : decode cX12_shinesBy 35 = .ok (.aload_n 0, 1) := by decide +kernel
theorem dX12_shinesBy_36 : decode cX12_shinesBy 36 = .ok (.getfield 283, 3) := by decide +kernel
theorem dX12_shinesBy_39 : decode cX12_shinesBy 39 = .ok (.iadd, 1) := by decide +kernel
theorem dX12_shinesBy_40 : decode cX12_shinesBy 40 = .ok (.ireturn, 1) := by decide +kernel
theorem dX12_shinesBy_41 : decode cX12_shinesBy 41 = .ok (.aload_n 0, 1) := by decide +kernel
theorem dX12_shinesBy_42 : decode cX12_shinesBy 42 = .ok (.bipush 20, 2) := by decide +kernel
theorem dX12_shinesBy_44 : decode cX12_shinesBy 44 = .ok (.invokevirtual 280, 3) := by decide +kernel
theorem dX12_shinesBy_47 : decode cX12_shinesBy 47 = .ok (.aload_n 0, 1) := by decide +kernel
theorem dX12_shinesBy_48 : decode cX12_shinesBy 48 = .ok (.iconst 1, 1) := by decide +kernel
theorem dX12_shinesBy_49 : decode cX12_shinesBy 49 = .ok (.invokestatic 231, 3) := by decide +kernel
theorem dX12_shinesBy_52 : decode cX12_shinesBy 52 = .ok (.iload_n 2, 1) := by decide +kernel
theorem dX12_shinesBy_53 : decode cX12_shinesBy 53 = .ok (.invokevirtual 286, 3) := by decide +kernel
theorem dX12_shinesBy_56 : decode cX12_shinesBy 56 = .ok (.iconst 3, 1) := by decide +kernel
theorem dX12_shinesBy_57 : decode cX12_shinesBy 57 = .ok (.imul, 1) := by decide +kernel
theorem dX12_shinesBy_58 : decode cX12_shinesBy 58 = .ok (.ireturn, 1) := by decide +kernel
theorem dX12_shinesBy_59 : decode cX12_shinesBy 59 = .ok (.aload_n 0, 1) := by decide +kernel
theorem dX12_shinesBy_60 : decode cX12_shinesBy 60 = .ok (.iload_n 1, 1) := by decide +kernel
theorem dX12_shinesBy_61 : decode cX12_shinesBy 61 = .ok (.invokestatic 231, 3) := by decide +kernel
theorem dX12_shinesBy_64 : decode cX12_shinesBy 64 = .ok (.iload_n 2, 1) := by decide +kernel
theorem dX12_shinesBy_65 : decode cX12_shinesBy 65 = .ok (.invokevirtual 286, 3) := by decide +kernel
theorem dX12_shinesBy_68 : decode cX12_shinesBy 68 = .ok (.ireturn, 1) := by decide +kernel
set_option maxRecDepth 20000 in
theorem ggX12_dullsBy_X12_ran : GoodIn wsX12_dullsBy wsX12_ran := goodIn_r _ [6, 7, 8, 28, 29, 30, 31, 32, 33, 34, 35, 36, 37, 38, 39, 40, 41, 42, 43, 44, 45, 46, 47, 48, 49, 50] rfl (by decide +kernel)
set_option maxRecDepth 20000 in
theorem gX12_dullsBy_X12_ran : GoodIn wsX12_dullsBy (wsV RX12 280 RX12 yX12_ran wsX12_ran) := goodIn_app (goodIn_r _ [2, 3, 4, 5] rfl (by decide +kernel)) ggX12_dullsBy_X12_ran
set_option maxRecDepth 20000 in
theorem ggX12_dullsBy_X12_of : GoodIn wsX12_dullsBy wsX12_of := goodIn_r _ [12, 13, 28, 29, 30, 31, 32, 33, 34, 35, 36, 37, 38, 39, 40, 41, 42, 43, 44, 45, 46, 47, 48, 49, 50] rfl (by decide +kernel)
set_option maxRecDepth 20000 in
theorem gX12_dullsBy_X12_of : GoodIn wsX12_dullsBy (wsV RX12 151 RX12 yX12_of wsX12_of) := goodIn_app (goodIn_r _ [9, 10, 11, 5] rfl (by decide +kernel)) ggX12_dullsBy_X12_of
set_option maxRecDepth 20000 in
theorem ggX12_dullsBy_X12_shinesBy : GoodIn wsX12_dullsBy wsX12_shinesBy := goodIn_r _ [17, 1, 2, 3, 4, 5, 6, 7, 8, 18, 19, 20, 14, 15, 16, 28, 29, 30, 31, 32, 33, 34, 35, 36, 37, 38, 39, 40, 41, 42, 43, 44, 45, 46, 47, 48, 49, 50] rfl (by decide +kernel)
set_option maxRecDepth 20000 in
theorem gX12_dullsBy_X12_shinesBy : GoodIn wsX12_dullsBy (wsV RX12 286 RX12 yX12_shinesBy wsX12_shinesBy) := goodIn_app (goodIn_r _ [14, 15, 16, 5] rfl (by decide +kernel)) ggX12_dullsBy_X12_shinesBy
set_option maxRecDepth 20000 in
theorem ggX12_dullsBy_X12_above : GoodIn wsX12_dullsBy wsX12_above := goodIn_r _ [20] rfl (by decide +kernel)
set_option maxRecDepth 20000 in
theorem gX12_dullsBy_X12_above : GoodIn wsX12_dullsBy (va_wsS RX12 231 yX12_above wsX12_above) := goodIn_app (goodIn_r _ [18, 19, 5] rfl (by decide +kernel)) ggX12_dullsBy_X12_above
set_option maxRecDepth 20000 in
theorem ggX12_dullsBy_X12_dullsBy : GoodIn wsX12_dullsBy wsX12_dullsBy := goodIn_r _ [0, 1, 2, 3, 4, 5, 6, 7, 8, 9, 10, 11, 12, 13, 14, 15, 16, 17, 18, 19, 20, 21, 22, 23, 24, 25, 26, 27, 28, 29, 30, 31, 32, 33, 34, 35, 36, 37, 38, 39, 40, 41, 42, 43, 44, 45, 46, 47, 48, 49, 50] rfl (by decide +kernel)
set_option maxRecDepth 20000 in
theorem gX12_dullsBy_X12_dullsBy : GoodIn wsX12_dullsBy (wsV RX12 289 RX12 yX12_dullsBy wsX12_dullsBy) := goodIn_app (goodIn_r _ [21, 22, 23, 5] rfl (by decide +kernel)) ggX12_dullsBy_X12_dullsBy
set_option maxRecDepth 20000 in
theorem ggX12_dullsBy_X12_holdsBy : GoodIn wsX12_dullsBy wsX12_holdsBy := goodIn_r _ [27, 1, 2, 3, 4, 5, 6, 7, 8, 9, 10, 11, 12, 13, 18, 19, 20, 24, 25, 26, 28, 29, 30, 31, 32, 33, 34, 35, 36, 37, 38, 39, 40, 41, 42, 43, 44, 45, 46, 47, 48, 49, 50] rfl (by decide +kernel)
set_option maxRecDepth 20000 in
theorem gX12_dullsBy_X12_holdsBy : GoodIn wsX12_dullsBy (wsV RX12 292 RX12 yX12_holdsBy wsX12_holdsBy) := goodIn_app (goodIn_r _ [24, 25, 26, 5] rfl (by decide +kernel)) ggX12_dullsBy_X12_holdsBy
theorem dX12_dullsBy_0 : decode cX12_dullsBy 0 = .ok (.iconst 0, 1) := by decide +kernel
theorem dX12_dullsBy_1 : decode cX12_dullsBy 1 = .ok (.istore_n 3, 1) := by decide +kernel
theorem dX12_dullsBy_2 : decode cX12_dullsBy 2 = .ok (.iload_n 1, 1) := by decide +kernel
theorem dX12_dullsBy_3 : decode cX12_dullsBy 3 = .ok (.lookupswitch 107 #[(0, 33), (2, 56), (5, 89)], 33) := by decide +kernel
theorem dX12_dullsBy_36 : decode cX12_dullsBy 36 = .ok (.aload_n 0, 1) := by decide +kernel
theorem dX12_dullsBy_37 : decode cX12_dullsBy 37 = .ok (.bipush 11, 2) := by decide +kernel
theorem dX12_dullsBy_39 : decode cX12_dullsBy 39 = .ok (.invokevirtual 280, 3) := by decide +kernel
theorem dX12_dullsBy_42 : decode cX12_dullsBy 42 = .ok (.aload_n 0, 1) := by decide +kernel
theorem dX12_dullsBy_43 : decode cX12_dullsBy 43 = .ok (.aload_n 0, 1) := by decide +kernel
theorem dX12_dullsBy_44 : decode cX12_dullsBy 44 = .ok (.aload_n 0, 1) := by decide +kernel
theorem dX12_dullsBy_45 : decode cX12_dullsBy 45 = .ok (.getfield 283, 3) := by decide +kernel
theorem dX12_dullsBy_48 : decode cX12_dullsBy 48 = .ok (.iconst 0, 1) := by decide +kernel
theorem dX12_dullsBy_49 : decode cX12_dullsBy 49 = .ok (.invokevirtual 151, 3) := by decide +kernel
theorem dX12_dullsBy_52 : decode cX12_dullsBy 52 = .ok (.iload_n 2, 1) := by decide +kernel
theorem dX12_dullsBy_53 : decode cX12_dullsBy 53 = .ok (.invokevirtual 286, 3) := by decide +kernel
theorem dX12_dullsBy_56 : decode cX12_dullsBy 56 = .ok (.iconst 2, 1) := by decide +kernel
theorem dX12_dullsBy_57 : decode cX12_dullsBy 57 = .ok (.imul, 1) := by decide +kernel
theorem dX12_dullsBy_58 : decode cX12_dullsBy 58 = .ok (.ireturn, 1) := by decide +kernel
theorem dX12_dullsBy_59 : decode cX12_dullsBy 59 = .ok (.aload_n 0, 1) := by decide +kernel
theorem dX12_dullsBy_60 : decode cX12_dullsBy 60 = .ok (.bipush 30, 2) := by decide +kernel
theorem dX12_dullsBy_62 : decode cX12_dullsBy 62 = .ok (.invokevirtual 280, 3) := by decide +kernel
theorem dX12_dullsBy_65 : decode cX12_dullsBy 65 = .ok (.aload_n 0, 1) := by decide +kernel
theorem dX12_dullsBy_66 : decode cX12_dullsBy 66 = .ok (.iconst 2, 1) := by decide +kernel
theorem dX12_dullsBy_67 : decode cX12_dullsBy 67 = .ok (.invokestatic 231, 3) := by decide +kernel
theorem dX12_dullsBy_70 : decode cX12_dullsBy 70 = .ok (.iload_n 2, 1) := by decide +kernel
theorem dX12_dullsBy_71 : decode cX12_dullsBy 71 = .ok (.invokevirtual 289, 3) := by decide +kernel
theorem dX12_dullsBy_74 : decode cX12_dullsBy 74 = .ok (.istore_n 3, 1) := by decide +kernel
theorem dX12_dullsBy_75 : decode cX12_dullsBy 75 = .ok (.iload_n 3, 1) := by decide +kernel
theorem dX12_dullsBy_76 : decode cX12_dullsBy 76 = .ok (.aload_n 0, 1) := by decide +kernel
theorem dX12_dullsBy_77 : decode cX12_dullsBy 77 = .ok (.aload_n 0, 1) := by decide +kernel
theorem dX12_dullsBy_78 : decode cX12_dullsBy 78 = .ok (.aload_n 0, 1) := by decide +kernel
theorem dX12_dullsBy_79 : decode cX12_dullsBy 79 = .ok (.getfield 283, 3) := by decide +kernel
theorem dX12_dullsBy_82 : decode cX12_dullsBy 82 = .ok (.iconst 0, 1) := by decide +kernel
theorem dX12_dullsBy_83 : decode cX12_dullsBy 83 = .ok (.invokevirtual 151, 3) := by decide +kernel
theorem dX12_dullsBy_86 : decode cX12_dullsBy 86 = .ok (.iconst 1, 1) := by decide +kernel
theorem dX12_dullsBy_87 : decode cX12_dullsBy 87 = .ok (.invokevirtual 292, 3) := by decide +kernel
theorem dX12_dullsBy_90 : decode cX12_dullsBy 90 = .ok (.isub, 1) := by decide +kernel
theorem dX12_dullsBy_91 : decode cX12_dullsBy 91 = .ok (.ireturn, 1) := by decide +kernel
theorem dX12_dullsBy_92 : decode cX12_dullsBy 92 = .ok (.aload_n 0, 1) := by decide +kernel
theorem dX12_dullsBy_93 : decode cX12_dullsBy 93 = .ok (.bipush 60, 2) := by decide +kernel
theorem dX12_dullsBy_95 : decode cX12_dullsBy 95 = .ok (.invokevirtual 280, 3) := by decide +kernel
theorem dX12_dullsBy_98 : decode cX12_dullsBy 98 = .ok (.aload_n 0, 1) := by decide +kernel
theorem dX12_dullsBy_99 : decode cX12_dullsBy 99 = .ok (.iconst 5, 1) := by decide +kernel
theorem dX12_dullsBy_100 : decode cX12_dullsBy 100 = .ok (.invokestatic 231, 3) := by decide +kernel
theorem dX12_dullsBy_103 : decode cX12_dullsBy 103 = .ok (.iload_n 2, 1) := by decide +kernel
theorem dX12_dullsBy_104 : decode cX12_dullsBy 104 = .ok (.iconst 1, 1) := by decide +kernel
theorem dX12_dullsBy_105 : decode cX12_dullsBy 105 = .ok (.iadd, 1) := by decide +kernel
theorem dX12_dullsBy_106 : decode cX12_dullsBy 106 = .ok (.invokevirtual 289, 3) := by decide +kernel
theorem dX12_dullsBy_109 : decode cX12_dullsBy 109 = .ok (.ireturn, 1) := by decide +kernel
theorem dX12_dullsBy_110 : decode cX12_dullsBy 110 = .ok (.aload_n 0, 1) := by decide +kernel
theorem dX12_dullsBy_111 : decode cX12_dullsBy 111 = .ok (.iload_n 1, 1) := by decide +kernel
theorem dX12_dullsBy_112 : decode cX12_dullsBy 112 = .ok (.invokestatic 231, 3) := by decide +kernel
theorem dX12_dullsBy_115 : decode cX12_dullsBy 115 = .ok (.iload_n 2, 1) := by decide +kernel
theorem dX12_dullsBy_116 : decode cX12_dullsBy 116 = .ok (.invokevirtual 289, 3) := by decide +kernel
theorem dX12_dullsBy_119 : decode cX12_dullsBy 119 = .ok (.ireturn, 1) := by decide +kernel
set_option maxRecDepth 20000 in
theorem ggX12_holdsBy_X12_ran : GoodIn wsX12_holdsBy wsX12_ran := goodIn_r _ [6, 7, 8, 20, 21, 22, 23, 24, 25, 26, 27, 28, 29, 30, 31, 32, 33, 34, 35, 36, 37, 38, 39, 40, 41, 42] rfl (by decide +kernel)
set_option maxRecDepth 20000 in
theorem gX12_holdsBy_X12_ran : GoodIn wsX12_holdsBy (wsV RX12 280 RX12 yX12_ran wsX12_ran) := goodIn_app (goodIn_r _ [2, 3, 4, 5] rfl (by decide +kernel)) ggX12_holdsBy_X12_ran
set_option maxRecDepth 20000 in
theorem ggX12_holdsBy_X12_of : GoodIn wsX12_holdsBy wsX12_of := goodIn_r _ [12, 13, 20, 21, 22, 23, 24, 25, 26, 27, 28, 29, 30, 31, 32, 33, 34, 35, 36, 37, 38, 39, 40, 41, 42] rfl (by decide +kernel)
set_option maxRecDepth 20000 in
theorem gX12_holdsBy_X12_of : GoodIn wsX12_holdsBy (wsV RX12 151 RX12 yX12_of wsX12_of) := goodIn_app (goodIn_r _ [9, 10, 11, 5] rfl (by decide +kernel)) ggX12_holdsBy_X12_of
set_option maxRecDepth 20000 in
theorem ggX12_holdsBy_X12_above : GoodIn wsX12_holdsBy wsX12_above := goodIn_r _ [16] rfl (by decide +kernel)
set_option maxRecDepth 20000 in
theorem gX12_holdsBy_X12_above : GoodIn wsX12_holdsBy (va_wsS RX12 231 yX12_above wsX12_above) := goodIn_app (goodIn_r _ [14, 15, 5] rfl (by decide +kernel)) ggX12_holdsBy_X12_above
set_option maxRecDepth 20000 in
theorem ggX12_holdsBy_X12_holdsBy : GoodIn wsX12_holdsBy wsX12_holdsBy := goodIn_r _ [0, 1, 2, 3, 4, 5, 6, 7, 8, 9, 10, 11, 12, 13, 14, 15, 16, 17, 18, 19, 20, 21, 22, 23, 24, 25, 26, 27, 28, 29, 30, 31, 32, 33, 34, 35, 36, 37, 38, 39, 40, 41, 42] rfl (by decide +kernel)
set_option maxRecDepth 20000 in
theorem gX12_holdsBy_X12_holdsBy : GoodIn wsX12_holdsBy (wsV RX12 292 RX12 yX12_holdsBy wsX12_holdsBy) := goodIn_app (goodIn_r _ [17, 18, 19, 5] rfl (by decide +kernel)) ggX12_holdsBy_X12_holdsBy
theorem dX12_holdsBy_0 : decode cX12_holdsBy 0 = .ok (.iload_n 1, 1) := by decide +kernel
theorem dX12_holdsBy_1 : decode cX12_holdsBy 1 = .ok (.lookupswitch 92 #[(0, 35), (3, 53), (6, 70)], 35) := by decide +kernel
theorem dX12_holdsBy_36 : decode cX12_holdsBy 36 = .ok (.aload_n 0, 1) := by decide +kernel
theorem dX12_holdsBy_37 : decode cX12_holdsBy 37 = .ok (.bipush 12, 2) := by decide +kernel
theorem dX12_holdsBy_39 : decode cX12_holdsBy 39 = .ok (.invokevirtual 280, 3) := by decide +kernel
theorem dX12_holdsBy_42 : decode cX12_holdsBy 42 = .ok (.iload_n 2, 1) := by decide +kernel
theorem dX12_holdsBy_43 : decode cX12_holdsBy 43 = .ok (.aload_n 0, 1) := by decide +kernel
theorem dX12_holdsBy_44 : decode cX12_holdsBy 44 = .ok (.aload_n 0, 1) := by decide +kernel
theorem dX12_holdsBy_45 : decode cX12_holdsBy 45 = .ok (.getfield 283, 3) := by decide +kernel
theorem dX12_holdsBy_48 : decode cX12_holdsBy 48 = .ok (.iconst 1, 1) := by decide +kernel
theorem dX12_holdsBy_49 : decode cX12_holdsBy 49 = .ok (.invokevirtual 151, 3) := by decide +kernel
theorem dX12_holdsBy_52 : decode cX12_holdsBy 52 = .ok (.isub, 1) := by decide +kernel
theorem dX12_holdsBy_53 : decode cX12_holdsBy 53 = .ok (.ireturn, 1) := by decide +kernel
theorem dX12_holdsBy_54 : decode cX12_holdsBy 54 = .ok (.aload_n 0, 1) := by decide +kernel
theorem dX12_holdsBy_55 : decode cX12_holdsBy 55 = .ok (.bipush 40, 2) := by decide +kernel
theorem dX12_holdsBy_57 : decode cX12_holdsBy 57 = .ok (.invokevirtual 280, 3) := by decide +kernel
theorem dX12_holdsBy_60 : decode cX12_holdsBy 60 = .ok (.aload_n 0, 1) := by decide +kernel
theorem dX12_holdsBy_61 : decode cX12_holdsBy 61 = .ok (.iconst 3, 1) := by decide +kernel
theorem dX12_holdsBy_62 : decode cX12_holdsBy 62 = .ok (.invokestatic 231, 3) := by decide +kernel
theorem dX12_holdsBy_65 : decode cX12_holdsBy 65 = .ok (.iload_n 2, 1) := by decide +kernel
theorem dX12_holdsBy_66 : decode cX12_holdsBy 66 = .ok (.invokevirtual 292, 3) := by decide +kernel
theorem dX12_holdsBy_69 : decode cX12_holdsBy 69 = .ok (.ineg, 1) := by decide +kernel
theorem dX12_holdsBy_70 : decode cX12_holdsBy 70 = .ok (.ireturn, 1) := by decide +kernel
theorem dX12_holdsBy_71 : decode cX12_holdsBy 71 = .ok (.aload_n 0, 1) := by decide +kernel
theorem dX12_holdsBy_72 : decode cX12_holdsBy 72 = .ok (.bipush 70, 2) := by decide +kernel
theorem dX12_holdsBy_74 : decode cX12_holdsBy 74 = .ok (.invokevirtual 280, 3) := by decide +kernel
theorem dX12_holdsBy_77 : decode cX12_holdsBy 77 = .ok (.aload_n 0, 1) := by decide +kernel
theorem dX12_holdsBy_78 : decode cX12_holdsBy 78 = .ok (.bipush 6, 2) := by decide +kernel
theorem dX12_holdsBy_80 : decode cX12_holdsBy 80 = .ok (.invokestatic 231, 3) := by decide +kernel
theorem dX12_holdsBy_83 : decode cX12_holdsBy 83 = .ok (.iload_n 2, 1) := by decide +kernel
theorem dX12_holdsBy_84 : decode cX12_holdsBy 84 = .ok (.invokevirtual 292, 3) := by decide +kernel
theorem dX12_holdsBy_87 : decode cX12_holdsBy 87 = .ok (.aload_n 0, 1) := by decide +kernel
theorem dX12_holdsBy_88 : decode cX12_holdsBy 88 = .ok (.getfield 283, 3) := by decide +kernel
theorem dX12_holdsBy_91 : decode cX12_holdsBy 91 = .ok (.ixor, 1) := by decide +kernel
theorem dX12_holdsBy_92 : decode cX12_holdsBy 92 = .ok (.ireturn, 1) := by decide +kernel
theorem dX12_holdsBy_93 : decode cX12_holdsBy 93 = .ok (.aload_n 0, 1) := by decide +kernel
theorem dX12_holdsBy_94 : decode cX12_holdsBy 94 = .ok (.iload_n 1, 1) := by decide +kernel
theorem dX12_holdsBy_95 : decode cX12_holdsBy 95 = .ok (.invokestatic 231, 3) := by decide +kernel
theorem dX12_holdsBy_98 : decode cX12_holdsBy 98 = .ok (.iload_n 2, 1) := by decide +kernel
theorem dX12_holdsBy_99 : decode cX12_holdsBy 99 = .ok (.invokevirtual 292, 3) := by decide +kernel
theorem dX12_holdsBy_102 : decode cX12_holdsBy 102 = .ok (.ireturn, 1) := by decide +kernel
set_option maxRecDepth 20000 in
theorem ggX12_tellsBy_X12_ran : GoodIn wsX12_tellsBy wsX12_ran := goodIn_r _ [6, 7, 8, 32, 33, 34, 35, 36, 37, 38, 39, 40, 41, 42, 43, 44, 45, 46, 47, 48, 49, 50, 51, 52, 53, 54] rfl (by decide +kernel)
set_option maxRecDepth 20000 in
theorem gX12_tellsBy_X12_ran : GoodIn wsX12_tellsBy (wsV RX12 280 RX12 yX12_ran wsX12_ran) := goodIn_app (goodIn_r _ [2, 3, 4, 5] rfl (by decide +kernel)) ggX12_tellsBy_X12_ran
set_option maxRecDepth 20000 in
theorem ggX12_tellsBy_X12_of : GoodIn wsX12_tellsBy wsX12_of := goodIn_r _ [12, 13, 32, 33, 34, 35, 36, 37, 38, 39, 40, 41, 42, 43, 44, 45, 46, 47, 48, 49, 50, 51, 52, 53, 54] rfl (by decide +kernel)
set_option maxRecDepth 20000 in
theorem gX12_tellsBy_X12_of : GoodIn wsX12_tellsBy (wsV RX12 151 RX12 yX12_of wsX12_of) := goodIn_app (goodIn_r _ [9, 10, 11, 5] rfl (by decide +kernel)) ggX12_tellsBy_X12_of
set_option maxRecDepth 20000 in
theorem ggX12_tellsBy_X12_dullsBy : GoodIn wsX12_tellsBy wsX12_dullsBy := goodIn_r _ [17, 1, 2, 3, 4, 5, 6, 7, 8, 9, 10, 11, 12, 13, 18, 19, 20, 21, 22, 23, 24, 14, 15, 16, 25, 26, 27, 28, 32, 33, 34, 35, 36, 37, 38, 39, 40, 41, 42, 43, 44, 45, 46, 47, 48, 49, 50, 51, 52, 53, 54] rfl (by decide +kernel)
set_option maxRecDepth 20000 in
theorem gX12_tellsBy_X12_dullsBy : GoodIn wsX12_tellsBy (wsV RX12 289 RX12 yX12_dullsBy wsX12_dullsBy) := goodIn_app (goodIn_r _ [14, 15, 16, 5] rfl (by decide +kernel)) ggX12_tellsBy_X12_dullsBy
set_option maxRecDepth 20000 in
theorem ggX12_tellsBy_X12_holdsBy : GoodIn wsX12_tellsBy wsX12_holdsBy := goodIn_r _ [28, 1, 2, 3, 4, 5, 6, 7, 8, 9, 10, 11, 12, 13, 22, 23, 24, 25, 26, 27, 32, 33, 34, 35, 36, 37, 38, 39, 40, 41, 42, 43, 44, 45, 46, 47, 48, 49, 50, 51, 52, 53, 54] rfl (by decide +kernel)
set_option maxRecDepth 20000 in
theorem gX12_tellsBy_X12_holdsBy : GoodIn wsX12_tellsBy (wsV RX12 292 RX12 yX12_holdsBy wsX12_holdsBy) := goodIn_app (goodIn_r _ [25, 26, 27, 5] rfl (by decide +kernel)) ggX12_tellsBy_X12_holdsBy
set_option maxRecDepth 20000 in
theorem ggX12_tellsBy_X12_above : GoodIn wsX12_tellsBy wsX12_above := goodIn_r _ [24] rfl (by decide +kernel)
set_option maxRecDepth 20000 in
theorem gX12_tellsBy_X12_above : GoodIn wsX12_tellsBy (va_wsS RX12 231 yX12_above wsX12_above) := goodIn_app (goodIn_r _ [22, 23, 5] rfl (by decide +kernel)) ggX12_tellsBy_X12_above
set_option maxRecDepth 20000 in
theorem ggX12_tellsBy_X12_tellsBy : GoodIn wsX12_tellsBy wsX12_tellsBy := goodIn_r _ [0, 1, 2, 3, 4, 5, 6, 7, 8, 9, 10, 11, 12, 13, 14, 15, 16, 17, 18, 19, 20, 21, 22, 23, 24, 25, 26, 27, 28, 29, 30, 31, 32, 33, 34, 35, 36, 37, 38, 39, 40, 41, 42, 43, 44, 45, 46, 47, 48, 49, 50, 51, 52, 53, 54] rfl (by decide +kernel)
set_option maxRecDepth 20000 in
theorem gX12_tellsBy_X12_tellsBy : GoodIn wsX12_tellsBy (wsV RX12 295 RX12 yX12_tellsBy wsX12_tellsBy) := goodIn_app (goodIn_r _ [29, 30, 31, 5] rfl (by decide +kernel)) ggX12_tellsBy_X12_tellsBy
set_option maxRecDepth 20000 in
theorem ggX12_tellsBy_X12_shinesBy : GoodIn wsX12_tellsBy wsX12_shinesBy := goodIn_r _ [21, 1, 2, 3, 4, 5, 6, 7, 8, 22, 23, 24, 18, 19, 20, 32, 33, 34, 35, 36, 37, 38, 39, 40, 41, 42, 43, 44, 45, 46, 47, 48, 49, 50, 51, 52, 53, 54] rfl (by decide +kernel)
set_option maxRecDepth 20000 in
theorem gX12_tellsBy_X12_shinesBy : GoodIn wsX12_tellsBy (wsV RX12 286 RX12 yX12_shinesBy wsX12_shinesBy) := goodIn_app (goodIn_r _ [18, 19, 20, 5] rfl (by decide +kernel)) ggX12_tellsBy_X12_shinesBy
theorem dX12_tellsBy_0 : decode cX12_tellsBy 0 = .ok (.iconst 0, 1) := by decide +kernel
theorem dX12_tellsBy_1 : decode cX12_tellsBy 1 = .ok (.istore_n 3, 1) := by decide +kernel
theorem dX12_tellsBy_2 : decode cX12_tellsBy 2 = .ok (.iload_n 1, 1) := by decide +kernel
theorem dX12_tellsBy_3 : decode cX12_tellsBy 3 = .ok (.lookupswitch 138 #[(0, 33), (4, 71), (6, 104)], 33) := by decide +kernel
theorem dX12_tellsBy_36 : decode cX12_tellsBy 36 = .ok (.aload_n 0, 1) := by decide +kernel
theorem dX12_tellsBy_37 : decode cX12_tellsBy 37 = .ok (.bipush 13, 2) := by decide +kernel
theorem dX12_tellsBy_39 : decode cX12_tellsBy 39 = .ok (.invokevirtual 280, 3) := by decide +kernel
theorem dX12_tellsBy_42 : decode cX12_tellsBy 42 = .ok (.aload_n 0, 1) := by decide +kernel
theorem dX12_tellsBy_43 : decode cX12_tellsBy 43 = .ok (.aload_n 0, 1) := by decide +kernel
theorem dX12_tellsBy_44 : decode cX12_tellsBy 44 = .ok (.aload_n 0, 1) := by decide +kernel
theorem dX12_tellsBy_45 : decode cX12_tellsBy 45 = .ok (.getfield 283, 3) := by decide +kernel
theorem dX12_tellsBy_48 : decode cX12_tellsBy 48 = .ok (.iconst 0, 1) := by decide +kernel
theorem dX12_tellsBy_49 : decode cX12_tellsBy 49 = .ok (.invokevirtual 151, 3) := by decide +kernel
theorem dX12_tellsBy_52 : decode cX12_tellsBy 52 = .ok (.iload_n 2, 1) := by decide +kernel
theorem dX12_tellsBy_53 : decode cX12_tellsBy 53 = .ok (.invokevirtual 289, 3) := by decide +kernel
theorem dX12_tellsBy_56 : decode cX12_tellsBy 56 = .ok (.istore_n 3, 1) := by decide +kernel
theorem dX12_tellsBy_57 : decode cX12_tellsBy 57 = .ok (.iload_n 3, 1) := by decide +kernel
theorem dX12_tellsBy_58 : decode cX12_tellsBy 58 = .ok (.aload_n 0, 1) := by decide +kernel
theorem dX12_tellsBy_59 : decode cX12_tellsBy 59 = .ok (.aload_n 0, 1) := by decide +kernel
theorem dX12_tellsBy_60 : decode cX12_tellsBy 60 = .ok (.aload_n 0, 1) := by decide +kernel
theorem dX12_tellsBy_61 : decode cX12_tellsBy 61 = .ok (.getfield 283, 3) := by decide +kernel
theorem dX12_tellsBy_64 : decode cX12_tellsBy 64 = .ok (.iconst 0, 1) := by decide +kernel
theorem dX12_tellsBy_65 : decode cX12_tellsBy 65 = .ok (.invokevirtual 151, 3) := by decide +kernel
theorem dX12_tellsBy_68 : decode cX12_tellsBy 68 = .ok (.iload_n 2, 1) := by decide +kernel
theorem dX12_tellsBy_69 : decode cX12_tellsBy 69 = .ok (.invokevirtual 292, 3) := by decide +kernel
theorem dX12_tellsBy_72 : decode cX12_tellsBy 72 = .ok (.ixor, 1) := by decide +kernel
theorem dX12_tellsBy_73 : decode cX12_tellsBy 73 = .ok (.ireturn, 1) := by decide +kernel
theorem dX12_tellsBy_74 : decode cX12_tellsBy 74 = .ok (.aload_n 0, 1) := by decide +kernel
theorem dX12_tellsBy_75 : decode cX12_tellsBy 75 = .ok (.bipush 50, 2) := by decide +kernel
theorem dX12_tellsBy_77 : decode cX12_tellsBy 77 = .ok (.invokevirtual 280, 3) := by decide +kernel
theorem dX12_tellsBy_80 : decode cX12_tellsBy 80 = .ok (.aload_n 0, 1) := by decide +kernel
theorem dX12_tellsBy_81 : decode cX12_tellsBy 81 = .ok (.iconst 4, 1) := by decide +kernel
theorem dX12_tellsBy_82 : decode cX12_tellsBy 82 = .ok (.invokestatic 231, 3) := by decide +kernel
theorem dX12_tellsBy_85 : decode cX12_tellsBy 85 = .ok (.iload_n 2, 1) := by decide +kernel
theorem dX12_tellsBy_86 : decode cX12_tellsBy 86 = .ok (.invokevirtual 295, 3) := by decide +kernel
theorem dX12_tellsBy_89 : decode cX12_tellsBy 89 = .ok (.istore_n 3, 1) := by decide +kernel
theorem dX12_tellsBy_90 : decode cX12_tellsBy 90 = .ok (.iload_n 3, 1) := by decide +kernel
theorem dX12_tellsBy_91 : decode cX12_tellsBy 91 = .ok (.aload_n 0, 1) := by decide +kernel
theorem dX12_tellsBy_92 : decode cX12_tellsBy 92 = .ok (.aload_n 0, 1) := by decide +kernel
theorem dX12_tellsBy_93 : decode cX12_tellsBy 93 = .ok (.aload_n 0, 1) := by decide +kernel
theorem dX12_tellsBy_94 : decode cX12_tellsBy 94 = .ok (.getfield 283, 3) := by decide +kernel
theorem dX12_tellsBy_97 : decode cX12_tellsBy 97 = .ok (.iconst 0, 1) := by decide +kernel
theorem dX12_tellsBy_98 : decode cX12_tellsBy 98 = .ok (.invokevirtual 151, 3) := by decide +kernel
theorem dX12_tellsBy_101 : decode cX12_tellsBy 101 = .ok (.iconst 2, 1) := by decide +kernel
theorem dX12_tellsBy_102 : decode cX12_tellsBy 102 = .ok (.invokevirtual 286, 3) := by decide +kernel
theorem dX12_tellsBy_105 : decode cX12_tellsBy 105 = .ok (.isub, 1) := by decide +kernel
theorem dX12_tellsBy_106 : decode cX12_tellsBy 106 = .ok (.ireturn, 1) := by decide +kernel
theorem dX12_tellsBy_107 : decode cX12_tellsBy 107 = .ok (.aload_n 0, 1) := by decide +kernel
theorem dX12_tellsBy_108 : decode cX12_tellsBy 108 = .ok (.bipush 71, 2) := by decide +kernel
theorem dX12_tellsBy_110 : decode cX12_tellsBy 110 = .ok (.invokevirtual 280, 3) := by decide +kernel
theorem dX12_tellsBy_113 : decode cX12_tellsBy 113 = .ok (.aload_n 0, 1) := by decide +kernel
theorem dX12_tellsBy_114 : decode cX12_tellsBy 114 = .ok (.aload_n 0, 1) := by decide +kernel
theorem dX12_tellsBy_115 : decode cX12_tellsBy 115 = .ok (.aload_n 0, 1) := by decide +kernel
theorem dX12_tellsBy_116 : decode cX12_tellsBy 116 = .ok (.getfield 283, 3) := by decide +kernel
theorem dX12_tellsBy_119 : decode cX12_tellsBy 119 = .ok (.iconst 0, 1) := by decide +kernel
theorem dX12_tellsBy_120 : decode cX12_tellsBy 120 = .ok (.invokevirtual 151, 3) := by decide +kernel
theorem dX12_tellsBy_123 : decode cX12_tellsBy 123 = .ok (.iload_n 2, 1) := by decide +kernel
theorem dX12_tellsBy_124 : decode cX12_tellsBy 124 = .ok (.invokevirtual 289, 3) := by decide +kernel
theorem dX12_tellsBy_127 : decode cX12_tellsBy 127 = .ok (.istore_n 3, 1) := by decide +kernel
theorem dX12_tellsBy_128 : decode cX12_tellsBy 128 = .ok (.iload_n 3, 1) := by decide +kernel
theorem dX12_tellsBy_129 : decode cX12_tellsBy 129 = .ok (.aload_n 0, 1) := by decide +kernel
theorem dX12_tellsBy_130 : decode cX12_tellsBy 130 = .ok (.bipush 6, 2) := by decide +kernel
theorem dX12_tellsBy_132 : decode cX12_tellsBy 132 = .ok (.invokestatic 231, 3) := by decide +kernel
theorem dX12_tellsBy_135 : decode cX12_tellsBy 135 = .ok (.iload_n 2, 1) := by decide +kernel
theorem dX12_tellsBy_136 : decode cX12_tellsBy 136 = .ok (.invokevirtual 295, 3) := by decide +kernel
theorem dX12_tellsBy_139 : decode cX12_tellsBy 139 = .ok (.isub, 1) := by decide +kernel
theorem dX12_tellsBy_140 : decode cX12_tellsBy 140 = .ok (.ireturn, 1) := by decide +kernel
theorem dX12_tellsBy_141 : decode cX12_tellsBy 141 = .ok (.aload_n 0, 1) := by decide +kernel
theorem dX12_tellsBy_142 : decode cX12_tellsBy 142 = .ok (.iload_n 1, 1) := by decide +kernel
theorem dX12_tellsBy_143 : decode cX12_tellsBy 143 = .ok (.invokestatic 231, 3) := by decide +kernel
theorem dX12_tellsBy_146 : decode cX12_tellsBy 146 = .ok (.iload_n 2, 1) := by decide +kernel
theorem dX12_tellsBy_147 : decode cX12_tellsBy 147 = .ok (.invokevirtual 295, 3) := by decide +kernel
theorem dX12_tellsBy_150 : decode cX12_tellsBy 150 = .ok (.ireturn, 1) := by decide +kernel
set_option maxRecDepth 20000 in
theorem ggX12_voice_X12_isSpoon : GoodIn wsX12_voice wsX12_isSpoon := goodIn_r _ [8, 9, 10, 11, 7, 12, 47, 48, 49, 50, 51, 52, 53, 54, 55, 56, 57, 58, 59, 60, 61, 62, 63, 64, 65, 66, 67, 68, 69] rfl (by decide +kernel)
set_option maxRecDepth 20000 in
theorem gX12_voice_X12_isSpoon : GoodIn wsX12_voice (wsV RX12 178 RX12 yX12_isSpoon wsX12_isSpoon) := goodIn_app (goodIn_r _ [4, 5, 6, 7] rfl (by decide +kernel)) ggX12_voice_X12_isSpoon
set_option maxRecDepth 20000 in
theorem ggX12_voice_X12_in : GoodIn wsX12_voice wsX12_in := goodIn_r _ [12] rfl (by decide +kernel)
set_option maxRecDepth 20000 in
theorem gX12_voice_X12_in : GoodIn wsX12_voice (va_wsS RX12 50 yX12_in wsX12_in) := goodIn_app (goodIn_r _ [10, 11, 7] rfl (by decide +kernel)) ggX12_voice_X12_in
set_option maxRecDepth 20000 in
theorem ggX12_voice_X12_finds : GoodIn wsX12_voice wsX12_finds := goodIn_r _ [16, 17, 18, 47, 48, 49, 50, 51, 52, 53, 54, 55, 56, 57, 58, 59, 60, 61, 62, 63, 64, 65, 66, 67, 68, 69] rfl (by decide +kernel)
set_option maxRecDepth 20000 in
theorem gX12_voice_X12_finds : GoodIn wsX12_voice (wsV RX12 131 RX12 yX12_finds wsX12_finds) := goodIn_app (goodIn_r _ [13, 14, 15, 7] rfl (by decide +kernel)) ggX12_voice_X12_finds
set_option maxRecDepth 20000 in
theorem ggX12_voice_X12_of : GoodIn wsX12_voice wsX12_of := goodIn_r _ [22, 9, 47, 48, 49, 50, 51, 52, 53, 54, 55, 56, 57, 58, 59, 60, 61, 62, 63, 64, 65, 66, 67, 68, 69] rfl (by decide +kernel)
set_option maxRecDepth 20000 in
theorem gX12_voice_X12_of : GoodIn wsX12_voice (wsV RX12 151 RX12 yX12_of wsX12_of) := goodIn_app (goodIn_r _ [19, 20, 21, 7] rfl (by decide +kernel)) ggX12_voice_X12_of
set_option maxRecDepth 20000 in
theorem ggX12_voice_X12_shinesBy : GoodIn wsX12_voice wsX12_shinesBy := goodIn_r _ [26, 2, 27, 28, 29, 7, 30, 3, 31, 32, 33, 34, 23, 24, 25, 47, 48, 49, 50, 51, 52, 53, 54, 55, 56, 57, 58, 59, 60, 61, 62, 63, 64, 65, 66, 67, 68, 69] rfl (by decide +kernel)
set_option maxRecDepth 20000 in
theorem gX12_voice_X12_shinesBy : GoodIn wsX12_voice (wsV RX12 286 RX12 yX12_shinesBy wsX12_shinesBy) := goodIn_app (goodIn_r _ [23, 24, 25, 7] rfl (by decide +kernel)) ggX12_voice_X12_shinesBy
set_option maxRecDepth 20000 in
theorem ggX12_voice_X12_dullsBy : GoodIn wsX12_voice wsX12_dullsBy := goodIn_r _ [38, 2, 27, 28, 29, 7, 30, 3, 31, 19, 20, 21, 22, 9, 23, 24, 25, 26, 32, 33, 34, 35, 36, 37, 39, 40, 41, 42, 47, 48, 49, 50, 51, 52, 53, 54, 55, 56, 57, 58, 59, 60, 61, 62, 63, 64, 65, 66, 67, 68, 69] rfl (by decide +kernel)
set_option maxRecDepth 20000 in
theorem gX12_voice_X12_dullsBy : GoodIn wsX12_voice (wsV RX12 289 RX12 yX12_dullsBy wsX12_dullsBy) := goodIn_app (goodIn_r _ [35, 36, 37, 7] rfl (by decide +kernel)) ggX12_voice_X12_dullsBy
set_option maxRecDepth 20000 in
theorem ggX12_voice_X12_holdsBy : GoodIn wsX12_voice wsX12_holdsBy := goodIn_r _ [42, 2, 27, 28, 29, 7, 30, 3, 31, 19, 20, 21, 22, 9, 32, 33, 34, 39, 40, 41, 47, 48, 49, 50, 51, 52, 53, 54, 55, 56, 57, 58, 59, 60, 61, 62, 63, 64, 65, 66, 67, 68, 69] rfl (by decide +kernel)
set_option maxRecDepth 20000 in
theorem gX12_voice_X12_holdsBy : GoodIn wsX12_voice (wsV RX12 292 RX12 yX12_holdsBy wsX12_holdsBy) := goodIn_app (goodIn_r _ [39, 40, 41, 7] rfl (by decide +kernel)) ggX12_voice_X12_holdsBy
set_option maxRecDepth 20000 in
theorem ggX12_voice_X12_tellsBy : GoodIn wsX12_voice wsX12_tellsBy := goodIn_r _ [46, 2, 27, 28, 29, 7, 30, 3, 31, 19, 20, 21, 22, 9, 35, 36, 37, 38, 23, 24, 25, 26, 32, 33, 34, 39, 40, 41, 42, 43, 44, 45, 47, 48, 49, 50, 51, 52, 53, 54, 55, 56, 57, 58, 59, 60, 61, 62, 63, 64, 65, 66, 67, 68, 69] rfl (by decide +kernel)
set_option maxRecDepth 20000 in
theorem gX12_voice_X12_tellsBy : GoodIn wsX12_voice (wsV RX12 295 RX12 yX12_tellsBy wsX12_tellsBy) := goodIn_app (goodIn_r _ [43, 44, 45, 7] rfl (by decide +kernel)) ggX12_voice_X12_tellsBy
theorem dX12_voice_0 : decode cX12_voice 0 = .ok (.aload_n 0, 1) := by decide +kernel
theorem dX12_voice_1 : decode cX12_voice 1 = .ok (.iload_n 1, 1) := by decide +kernel
theorem dX12_voice_2 : decode cX12_voice 2 = .ok (.invokevirtual 178, 3) := by decide +kernel
theorem dX12_voice_5 : decode cX12_voice 5 = .ok (.ifCond .eq 15, 3) := by decide +kernel
theorem dX12_voice_8 : decode cX12_voice 8 = .ok (.iload_n 2, 1) := by decide +kernel
theorem dX12_voice_9 : decode cX12_voice 9 = .ok (.i2l, 1) := by decide +kernel
theorem dX12_voice_10 : decode cX12_voice 10 = .ok (.lconst 0, 1) := by decide +kernel
theorem dX12_voice_11 : decode cX12_voice 11 = .ok (.ldc2_w 216, 3) := by decide +kernel
theorem dX12_voice_14 : decode cX12_voice 14 = .ok (.invokestatic 50, 3) := by decide +kernel
theorem dX12_voice_17 : decode cX12_voice 17 = .ok (.ifCond .ne 9, 3) := by decide +kernel
theorem dX12_voice_20 : decode cX12_voice 20 = .ok (.aload_n 0, 1) := by decide +kernel
theorem dX12_voice_21 : decode cX12_voice 21 = .ok (.iconst 1, 1) := by decide +kernel
theorem dX12_voice_22 : decode cX12_voice 22 = .ok (.invokevirtual 131, 3) := by decide +kernel
theorem dX12_voice_25 : decode cX12_voice 25 = .ok (.ireturn, 1) := by decide +kernel
theorem dX12_voice_26 : decode cX12_voice 26 = .ok (.aload_n 0, 1) := by decide +kernel
theorem dX12_voice_27 : decode cX12_voice 27 = .ok (.iload_n 1, 1) := by decide +kernel
theorem dX12_voice_28 : decode cX12_voice 28 = .ok (.putfield 283, 3) := by decide +kernel
theorem dX12_voice_31 : decode cX12_voice 31 = .ok (.aload_n 0, 1) := by decide +kernel
theorem dX12_voice_32 : decode cX12_voice 32 = .ok (.iconst 0, 1) := by decide +kernel
theorem dX12_voice_33 : decode cX12_voice 33 = .ok (.putfield 277, 3) := by decide +kernel
theorem dX12_voice_36 : decode cX12_voice 36 = .ok (.aload_n 0, 1) := by decide +kernel
theorem dX12_voice_37 : decode cX12_voice 37 = .ok (.aload_n 0, 1) := by decide +kernel
theorem dX12_voice_38 : decode cX12_voice 38 = .ok (.getfield 283, 3) := by decide +kernel
theorem dX12_voice_41 : decode cX12_voice 41 = .ok (.iconst 0, 1) := by decide +kernel
theorem dX12_voice_42 : decode cX12_voice 42 = .ok (.invokevirtual 151, 3) := by decide +kernel
theorem dX12_voice_45 : decode cX12_voice 45 = .ok (.istore 4, 2) := by decide +kernel
theorem dX12_voice_47 : decode cX12_voice 47 = .ok (.iload_n 2, 1) := by decide +kernel
theorem dX12_voice_48 : decode cX12_voice 48 = .ok (.ifCond .ne 13, 3) := by decide +kernel
theorem dX12_voice_51 : decode cX12_voice 51 = .ok (.aload_n 0, 1) := by decide +kernel
theorem dX12_voice_52 : decode cX12_voice 52 = .ok (.iload 4, 2) := by decide +kernel
theorem dX12_voice_54 : decode cX12_voice 54 = .ok (.iload_n 3, 1) := by decide +kernel
theorem dX12_voice_55 : decode cX12_voice 55 = .ok (.invokevirtual 286, 3) := by decide +kernel
theorem dX12_voice_58 : decode cX12_voice 58 = .ok (.goto 40, 3) := by decide +kernel
theorem dX12_voice_61 : decode cX12_voice 61 = .ok (.iload_n 2, 1) := by decide +kernel
theorem dX12_voice_62 : decode cX12_voice 62 = .ok (.iconst 1, 1) := by decide +kernel
theorem dX12_voice_63 : decode cX12_voice 63 = .ok (.if_icmp .ne 13, 3) := by decide +kernel
theorem dX12_voice_66 : decode cX12_voice 66 = .ok (.aload_n 0, 1) := by decide +kernel
theorem dX12_voice_67 : decode cX12_voice 67 = .ok (.iload 4, 2) := by decide +kernel
theorem dX12_voice_69 : decode cX12_voice 69 = .ok (.iload_n 3, 1) := by decide +kernel
theorem dX12_voice_70 : decode cX12_voice 70 = .ok (.invokevirtual 289, 3) := by decide +kernel
theorem dX12_voice_73 : decode cX12_voice 73 = .ok (.goto 25, 3) := by decide +kernel
theorem dX12_voice_76 : decode cX12_voice 76 = .ok (.iload_n 2, 1) := by decide +kernel
theorem dX12_voice_77 : decode cX12_voice 77 = .ok (.iconst 2, 1) := by decide +kernel
theorem dX12_voice_78 : decode cX12_voice 78 = .ok (.if_icmp .ne 13, 3) := by decide +kernel
theorem dX12_voice_81 : decode cX12_voice 81 = .ok (.aload_n 0, 1) := by decide +kernel
theorem dX12_voice_82 : decode cX12_voice 82 = .ok (.iload 4, 2) := by decide +kernel
theorem dX12_voice_84 : decode cX12_voice 84 = .ok (.iload_n 3, 1) := by decide +kernel
theorem dX12_voice_85 : decode cX12_voice 85 = .ok (.invokevirtual 292, 3) := by decide +kernel
theorem dX12_voice_88 : decode cX12_voice 88 = .ok (.goto 10, 3) := by decide +kernel
theorem dX12_voice_91 : decode cX12_voice 91 = .ok (.aload_n 0, 1) := by decide +kernel
theorem dX12_voice_92 : decode cX12_voice 92 = .ok (.iload 4, 2) := by decide +kernel
theorem dX12_voice_94 : decode cX12_voice 94 = .ok (.iload_n 3, 1) := by decide +kernel
theorem dX12_voice_95 : decode cX12_voice 95 = .ok (.invokevirtual 295, 3) := by decide +kernel
theorem dX12_voice_98 : decode cX12_voice 98 = .ok (.ireturn, 1) := by decide +kernel
set_option maxRecDepth 20000 in
theorem ggX12_trace_X12_in : GoodIn wsX12_trace wsX12_in := goodIn_r _ [6] rfl (by decide +kernel)
set_option maxRecDepth 20000 in
theorem gX12_trace_X12_in : GoodIn wsX12_trace (va_wsS RX12 50 yX12_in wsX12_in) := goodIn_app (goodIn_r _ [3, 4, 5] rfl (by decide +kernel)) ggX12_trace_X12_in
set_option maxRecDepth 20000 in
theorem ggX12_trace_X12_finds : GoodIn wsX12_trace wsX12_finds := goodIn_r _ [10, 11, 12, 13, 14, 15, 16, 17, 18, 19, 20, 21, 22, 23, 24, 25, 26, 27, 28, 29, 30, 31, 32, 33, 34, 35] rfl (by decide +kernel)
set_option maxRecDepth 20000 in
theorem gX12_trace_X12_finds : GoodIn wsX12_trace (wsV RX12 131 RX12 yX12_finds wsX12_finds) := goodIn_app (goodIn_r _ [7, 8, 9, 5] rfl (by decide +kernel)) ggX12_trace_X12_finds
theorem dX12_trace_0 : decode cX12_trace 0 = .ok (.iload_n 1, 1) := by decide +kernel
theorem dX12_trace_1 : decode cX12_trace 1 = .ok (.i2l, 1) := by decide +kernel
theorem dX12_trace_2 : decode cX12_trace 2 = .ok (.lconst 0, 1) := by decide +kernel
theorem dX12_trace_3 : decode cX12_trace 3 = .ok (.aload_n 0, 1) := by decide +kernel
theorem dX12_trace_4 : decode cX12_trace 4 = .ok (.getfield 277, 3) := by decide +kernel
theorem dX12_trace_7 : decode cX12_trace 7 = .ok (.iconst 1, 1) := by decide +kernel
theorem dX12_trace_8 : decode cX12_trace 8 = .ok (.isub, 1) := by decide +kernel
theorem dX12_trace_9 : decode cX12_trace 9 = .ok (.i2l, 1) := by decide +kernel
theorem dX12_trace_10 : decode cX12_trace 10 = .ok (.invokestatic 50, 3) := by decide +kernel
theorem dX12_trace_13 : decode cX12_trace 13 = .ok (.ifCond .eq 12, 3) := by decide +kernel
theorem dX12_trace_16 : decode cX12_trace 16 = .ok (.aload_n 0, 1) := by decide +kernel
theorem dX12_trace_17 : decode cX12_trace 17 = .ok (.getfield 34, 3) := by decide +kernel
theorem dX12_trace_20 : decode cX12_trace 20 = .ok (.iload_n 1, 1) := by decide +kernel
theorem dX12_trace_21 : decode cX12_trace 21 = .ok (.iaload, 1) := by decide +kernel
theorem dX12_trace_22 : decode cX12_trace 22 = .ok (.goto 8, 3) := by decide +kernel
theorem dX12_trace_25 : decode cX12_trace 25 = .ok (.aload_n 0, 1) := by decide +kernel
theorem dX12_trace_26 : decode cX12_trace 26 = .ok (.iconst 2, 1) := by decide +kernel
theorem dX12_trace_27 : decode cX12_trace 27 = .ok (.invokevirtual 131, 3) := by decide +kernel
theorem dX12_trace_30 : decode cX12_trace 30 = .ok (.ireturn, 1) := by decide +kernel
set_option maxRecDepth 20000 in
theorem ggX12_isSheet_X12_in : GoodIn wsX12_isSheet wsX12_in := goodIn_r _ [5] rfl (by decide +kernel)
set_option maxRecDepth 20000 in
theorem gX12_isSheet_X12_in : GoodIn wsX12_isSheet (va_wsS RX12 50 yX12_in wsX12_in) := goodIn_app (goodIn_r _ [2, 3, 4] rfl (by decide +kernel)) ggX12_isSheet_X12_in
theorem dX12_isSheet_0 : decode cX12_isSheet 0 = .ok (.iload_n 0, 1) := by decide +kernel
theorem dX12_isSheet_1 : decode cX12_isSheet 1 = .ok (.i2l, 1) := by decide +kernel
theorem dX12_isSheet_2 : decode cX12_isSheet 2 = .ok (.lconst 0, 1) := by decide +kernel
theorem dX12_isSheet_3 : decode cX12_isSheet 3 = .ok (.ldc2_w 216, 3) := by decide +kernel
theorem dX12_isSheet_6 : decode cX12_isSheet 6 = .ok (.invokestatic 50, 3) := by decide +kernel
theorem dX12_isSheet_9 : decode cX12_isSheet 9 = .ok (.ireturn, 1) := by decide +kernel
set_option maxRecDepth 20000 in
theorem ggX12_sheet_X12_isSheet : GoodIn wsX12_sheet wsX12_isSheet := goodIn_r _ [7, 8, 9, 10, 6, 11] rfl (by decide +kernel)
set_option maxRecDepth 20000 in
theorem gX12_sheet_X12_isSheet : GoodIn wsX12_sheet (va_wsS RX12 263 yX12_isSheet wsX12_isSheet) := goodIn_app (goodIn_r _ [4, 5, 6] rfl (by decide +kernel)) ggX12_sheet_X12_isSheet
set_option maxRecDepth 20000 in
theorem ggX12_sheet_X12_finds : GoodIn wsX12_sheet wsX12_finds := goodIn_r _ [15, 16, 17, 18, 19, 20, 21, 22, 23, 24, 25, 26, 27, 28, 29, 30, 31, 32, 33, 34, 35, 36, 37, 38, 39, 40] rfl (by decide +kernel)
set_option maxRecDepth 20000 in
theorem gX12_sheet_X12_finds : GoodIn wsX12_sheet (wsV RX12 131 RX12 yX12_finds wsX12_finds) := goodIn_app (goodIn_r _ [12, 13, 14, 6] rfl (by decide +kernel)) ggX12_sheet_X12_finds
theorem dX12_sheet_0 : decode cX12_sheet 0 = .ok (.iload_n 1, 1) := by decide +kernel
theorem dX12_sheet_1 : decode cX12_sheet 1 = .ok (.invokestatic 263, 3) := by decide +kernel
theorem dX12_sheet_4 : decode cX12_sheet 4 = .ok (.ifCond .eq 25, 3) := by decide +kernel
theorem dX12_sheet_7 : decode cX12_sheet 7 = .ok (.iload_n 2, 1) := by decide +kernel
theorem dX12_sheet_8 : decode cX12_sheet 8 = .ok (.ifCond .eq 27, 3) := by decide +kernel
theorem dX12_sheet_11 : decode cX12_sheet 11 = .ok (.iload_n 2, 1) := by decide +kernel
theorem dX12_sheet_12 : decode cX12_sheet 12 = .ok (.bipush 8, 2) := by decide +kernel
theorem dX12_sheet_14 : decode cX12_sheet 14 = .ok (.if_icmp .eq 21, 3) := by decide +kernel
theorem dX12_sheet_17 : decode cX12_sheet 17 = .ok (.iload_n 2, 1) := by decide +kernel
theorem dX12_sheet_18 : decode cX12_sheet 18 = .ok (.bipush 16, 2) := by decide +kernel
theorem dX12_sheet_20 : decode cX12_sheet 20 = .ok (.if_icmp .eq 15, 3) := by decide +kernel
theorem dX12_sheet_23 : decode cX12_sheet 23 = .ok (.iload_n 2, 1) := by decide +kernel
theorem dX12_sheet_24 : decode cX12_sheet 24 = .ok (.bipush 32, 2) := by decide +kernel
theorem dX12_sheet_26 : decode cX12_sheet 26 = .ok (.if_icmp .eq 9, 3) := by decide +kernel
theorem dX12_sheet_29 : decode cX12_sheet 29 = .ok (.aload_n 0, 1) := by decide +kernel
theorem dX12_sheet_30 : decode cX12_sheet 30 = .ok (.iconst 1, 1) := by decide +kernel
theorem dX12_sheet_31 : decode cX12_sheet 31 = .ok (.invokevirtual 131, 3) := by decide +kernel
theorem dX12_sheet_34 : decode cX12_sheet 34 = .ok (.ireturn, 1) := by decide +kernel
theorem dX12_sheet_35 : decode cX12_sheet 35 = .ok (.iload_n 2, 1) := by decide +kernel
theorem dX12_sheet_36 : decode cX12_sheet 36 = .ok (.ifCond .eq 13, 3) := by decide +kernel
theorem dX12_sheet_39 : decode cX12_sheet 39 = .ok (.iload_n 3, 1) := by decide +kernel
theorem dX12_sheet_40 : decode cX12_sheet 40 = .ok (.ifCond .ge 9, 3) := by decide +kernel
theorem dX12_sheet_43 : decode cX12_sheet 43 = .ok (.aload_n 0, 1) := by decide +kernel
theorem dX12_sheet_44 : decode cX12_sheet 44 = .ok (.iconst 3, 1) := by decide +kernel
theorem dX12_sheet_45 : decode cX12_sheet 45 = .ok (.invokevirtual 131, 3) := by decide +kernel
theorem dX12_sheet_48 : decode cX12_sheet 48 = .ok (.ireturn, 1) := by decide +kernel
theorem dX12_sheet_49 : decode cX12_sheet 49 = .ok (.iload_n 2, 1) := by decide +kernel
theorem dX12_sheet_50 : decode cX12_sheet 50 = .ok (.ifCond .eq 15, 3) := by decide +kernel
theorem dX12_sheet_53 : decode cX12_sheet 53 = .ok (.iload_n 3, 1) := by decide +kernel
theorem dX12_sheet_54 : decode cX12_sheet 54 = .ok (.bipush 40, 2) := by decide +kernel
theorem dX12_sheet_56 : decode cX12_sheet 56 = .ok (.if_icmp .le 9, 3) := by decide +kernel
theorem dX12_sheet_59 : decode cX12_sheet 59 = .ok (.aload_n 0, 1) := by decide +kernel
theorem dX12_sheet_60 : decode cX12_sheet 60 = .ok (.iconst 1, 1) := by decide +kernel
theorem dX12_sheet_61 : decode cX12_sheet 61 = .ok (.invokevirtual 131, 3) := by decide +kernel
theorem dX12_sheet_64 : decode cX12_sheet 64 = .ok (.ireturn, 1) := by decide +kernel
theorem dX12_sheet_65 : decode cX12_sheet 65 = .ok (.aload_n 0, 1) := by decide +kernel
theorem dX12_sheet_66 : decode cX12_sheet 66 = .ok (.getfield 37, 3) := by decide +kernel
theorem dX12_sheet_69 : decode cX12_sheet 69 = .ok (.iload_n 1, 1) := by decide +kernel
theorem dX12_sheet_70 : decode cX12_sheet 70 = .ok (.iload_n 2, 1) := by decide +kernel
theorem dX12_sheet_71 : decode cX12_sheet 71 = .ok (.iastore, 1) := by decide +kernel
theorem dX12_sheet_72 : decode cX12_sheet 72 = .ok (.aload_n 0, 1) := by decide +kernel
theorem dX12_sheet_73 : decode cX12_sheet 73 = .ok (.getfield 40, 3) := by decide +kernel
theorem dX12_sheet_76 : decode cX12_sheet 76 = .ok (.iload_n 1, 1) := by decide +kernel
theorem dX12_sheet_77 : decode cX12_sheet 77 = .ok (.iload_n 2, 1) := by decide +kernel
theorem dX12_sheet_78 : decode cX12_sheet 78 = .ok (.ifCond .ne 7, 3) := by decide +kernel
theorem dX12_sheet_81 : decode cX12_sheet 81 = .ok (.iconst 0, 1) := by decide +kernel
theorem dX12_sheet_82 : decode cX12_sheet 82 = .ok (.goto 4, 3) := by decide +kernel
theorem dX12_sheet_85 : decode cX12_sheet 85 = .ok (.iload_n 3, 1) := by decide +kernel
theorem dX12_sheet_86 : decode cX12_sheet 86 = .ok (.iastore, 1) := by decide +kernel
theorem dX12_sheet_87 : decode cX12_sheet 87 = .ok (.iconst 0, 1) := by decide +kernel
theorem dX12_sheet_88 : decode cX12_sheet 88 = .ok (.istore 4, 2) := by decide +kernel
theorem dX12_sheet_90 : decode cX12_sheet 90 = .ok (.iload 4, 2) := by decide +kernel
theorem dX12_sheet_92 : decode cX12_sheet 92 = .ok (.bipush 40, 2) := by decide +kernel
theorem dX12_sheet_94 : decode cX12_sheet 94 = .ok (.if_icmp .ge 22, 3) := by decide +kernel
theorem dX12_sheet_97 : decode cX12_sheet 97 = .ok (.aload_n 0, 1) := by decide +kernel
theorem dX12_sheet_98 : decode cX12_sheet 98 = .ok (.getfield 43, 3) := by decide +kernel
theorem dX12_sheet_101 : decode cX12_sheet 101 = .ok (.bipush 40, 2) := by decide +kernel
theorem dX12_sheet_103 : decode cX12_sheet 103 = .ok (.iload_n 1, 1) := by decide +kernel
theorem dX12_sheet_104 : decode cX12_sheet 104 = .ok (.imul, 1) := by decide +kernel
theorem dX12_sheet_105 : decode cX12_sheet 105 = .ok (.iload 4, 2) := by decide +kernel
theorem dX12_sheet_107 : decode cX12_sheet 107 = .ok (.iadd, 1) := by decide +kernel
theorem dX12_sheet_108 : decode cX12_sheet 108 = .ok (.iconst 0, 1) := by decide +kernel
theorem dX12_sheet_109 : decode cX12_sheet 109 = .ok (.iastore, 1) := by decide +kernel
theorem dX12_sheet_110 : decode cX12_sheet 110 = .ok (.iinc 4 1, 3) := by decide +kernel
theorem dX12_sheet_113 : decode cX12_sheet 113 = .ok (.goto (-23), 3) := by decide +kernel
theorem dX12_sheet_116 : decode cX12_sheet 116 = .ok (.iconst 1, 1) := by decide +kernel
theorem dX12_sheet_117 : decode cX12_sheet 117 = .ok (.ireturn, 1) := by decide +kernel
set_option maxRecDepth 20000 in
theorem ggX12_put_X12_isSheet : GoodIn wsX12_put wsX12_isSheet := goodIn_r _ [7, 8, 9, 10, 6, 11] rfl (by decide +kernel)
set_option maxRecDepth 20000 in
theorem gX12_put_X12_isSheet : GoodIn wsX12_put (va_wsS RX12 263 yX12_isSheet wsX12_isSheet) := goodIn_app (goodIn_r _ [4, 5, 6] rfl (by decide +kernel)) ggX12_put_X12_isSheet
set_option maxRecDepth 20000 in
theorem ggX12_put_X12_finds : GoodIn wsX12_put wsX12_finds := goodIn_r _ [15, 16, 17, 18, 19, 20, 21, 22, 23, 24, 25, 26, 27, 28, 29, 30, 31, 32, 33, 34, 35, 36, 37, 38, 39, 40] rfl (by decide +kernel)
set_option maxRecDepth 20000 in
theorem gX12_put_X12_finds : GoodIn wsX12_put (wsV RX12 131 RX12 yX12_finds wsX12_finds) := goodIn_app (goodIn_r _ [12, 13, 14, 6] rfl (by decide +kernel)) ggX12_put_X12_finds
set_option maxRecDepth 20000 in
theorem ggX12_put_X12_in : GoodIn wsX12_put wsX12_in := goodIn_r _ [11] rfl (by decide +kernel)
set_option maxRecDepth 20000 in
theorem gX12_put_X12_in : GoodIn wsX12_put (va_wsS RX12 50 yX12_in wsX12_in) := goodIn_app (goodIn_r _ [9, 10, 6] rfl (by decide +kernel)) ggX12_put_X12_in
theorem dX12_put_0 : decode cX12_put 0 = .ok (.iload_n 1, 1) := by decide +kernel
theorem dX12_put_1 : decode cX12_put 1 = .ok (.invokestatic 263, 3) := by decide +kernel
theorem dX12_put_4 : decode cX12_put 4 = .ok (.ifCond .ne 9, 3) := by decide +kernel
theorem dX12_put_7 : decode cX12_put 7 = .ok (.aload_n 0, 1) := by decide +kernel
theorem dX12_put_8 : decode cX12_put 8 = .ok (.iconst 1, 1) := by decide +kernel
theorem dX12_put_9 : decode cX12_put 9 = .ok (.invokevirtual 131, 3) := by decide +kernel
theorem dX12_put_12 : decode cX12_put 12 = .ok (.ireturn, 1) := by decide +kernel
theorem dX12_put_13 : decode cX12_put 13 = .ok (.aload_n 0, 1) := by decide +kernel
theorem dX12_put_14 : decode cX12_put 14 = .ok (.getfield 37, 3) := by decide +kernel
theorem dX12_put_17 : decode cX12_put 17 = .ok (.iload_n 1, 1) := by decide +kernel
theorem dX12_put_18 : decode cX12_put 18 = .ok (.iaload, 1) := by decide +kernel
theorem dX12_put_19 : decode cX12_put 19 = .ok (.ifCond .ne 9, 3) := by decide +kernel
theorem dX12_put_22 : decode cX12_put 22 = .ok (.aload_n 0, 1) := by decide +kernel
theorem dX12_put_23 : decode cX12_put 23 = .ok (.iconst 2, 1) := by decide +kernel
theorem dX12_put_24 : decode cX12_put 24 = .ok (.invokevirtual 131, 3) := by decide +kernel
theorem dX12_put_27 : decode cX12_put 27 = .ok (.ireturn, 1) := by decide +kernel
theorem dX12_put_28 : decode cX12_put 28 = .ok (.iload_n 2, 1) := by decide +kernel
theorem dX12_put_29 : decode cX12_put 29 = .ok (.i2l, 1) := by decide +kernel
theorem dX12_put_30 : decode cX12_put 30 = .ok (.lconst 0, 1) := by decide +kernel
theorem dX12_put_31 : decode cX12_put 31 = .ok (.aload_n 0, 1) := by decide +kernel
theorem dX12_put_32 : decode cX12_put 32 = .ok (.getfield 40, 3) := by decide +kernel
theorem dX12_put_35 : decode cX12_put 35 = .ok (.iload_n 1, 1) := by decide +kernel
theorem dX12_put_36 : decode cX12_put 36 = .ok (.iaload, 1) := by decide +kernel
theorem dX12_put_37 : decode cX12_put 37 = .ok (.iconst 1, 1) := by decide +kernel
theorem dX12_put_38 : decode cX12_put 38 = .ok (.isub, 1) := by decide +kernel
theorem dX12_put_39 : decode cX12_put 39 = .ok (.i2l, 1) := by decide +kernel
theorem dX12_put_40 : decode cX12_put 40 = .ok (.invokestatic 50, 3) := by decide +kernel
theorem dX12_put_43 : decode cX12_put 43 = .ok (.ifCond .ne 9, 3) := by decide +kernel
theorem dX12_put_46 : decode cX12_put 46 = .ok (.aload_n 0, 1) := by decide +kernel
theorem dX12_put_47 : decode cX12_put 47 = .ok (.iconst 1, 1) := by decide +kernel
theorem dX12_put_48 : decode cX12_put 48 = .ok (.invokevirtual 131, 3) := by decide +kernel
theorem dX12_put_51 : decode cX12_put 51 = .ok (.ireturn, 1) := by decide +kernel
theorem dX12_put_52 : decode cX12_put 52 = .ok (.aload_n 0, 1) := by decide +kernel
theorem dX12_put_53 : decode cX12_put 53 = .ok (.getfield 43, 3) := by decide +kernel
theorem dX12_put_56 : decode cX12_put 56 = .ok (.bipush 40, 2) := by decide +kernel
theorem dX12_put_58 : decode cX12_put 58 = .ok (.iload_n 1, 1) := by decide +kernel
theorem dX12_put_59 : decode cX12_put 59 = .ok (.imul, 1) := by decide +kernel
theorem dX12_put_60 : decode cX12_put 60 = .ok (.iload_n 2, 1) := by decide +kernel
theorem dX12_put_61 : decode cX12_put 61 = .ok (.iadd, 1) := by decide +kernel
theorem dX12_put_62 : decode cX12_put 62 = .ok (.aload_n 0, 1) := by decide +kernel
theorem dX12_put_63 : decode cX12_put 63 = .ok (.getfield 37, 3) := by decide +kernel
theorem dX12_put_66 : decode cX12_put 66 = .ok (.iload_n 1, 1) := by decide +kernel
theorem dX12_put_67 : decode cX12_put 67 = .ok (.iaload, 1) := by decide +kernel
theorem dX12_put_68 : decode cX12_put 68 = .ok (.bipush 8, 2) := by decide +kernel
theorem dX12_put_70 : decode cX12_put 70 = .ok (.if_icmp .ne 8, 3) := by decide +kernel
theorem dX12_put_73 : decode cX12_put 73 = .ok (.iload_n 3, 1) := by decide +kernel
theorem dX12_put_74 : decode cX12_put 74 = .ok (.i2b, 1) := by decide +kernel
theorem dX12_put_75 : decode cX12_put 75 = .ok (.goto 20, 3) := by decide +kernel
theorem dX12_put_78 : decode cX12_put 78 = .ok (.aload_n 0, 1) := by decide +kernel
theorem dX12_put_79 : decode cX12_put 79 = .ok (.getfield 37, 3) := by decide +kernel
theorem dX12_put_82 : decode cX12_put 82 = .ok (.iload_n 1, 1) := by decide +kernel
theorem dX12_put_83 : decode cX12_put 83 = .ok (.iaload, 1) := by decide +kernel
theorem dX12_put_84 : decode cX12_put 84 = .ok (.bipush 16, 2) := by decide +kernel
theorem dX12_put_86 : decode cX12_put 86 = .ok (.if_icmp .ne 8, 3) := by decide +kernel
theorem dX12_put_89 : decode cX12_put 89 = .ok (.iload_n 3, 1) := by decide +kernel
theorem dX12_put_90 : decode cX12_put 90 = .ok (.i2s, 1) := by decide +kernel
theorem dX12_put_91 : decode cX12_put 91 = .ok (.goto 4, 3) := by decide +kernel
theorem dX12_put_94 : decode cX12_put 94 = .ok (.iload_n 3, 1) := by decide +kernel
theorem dX12_put_95 : decode cX12_put 95 = .ok (.iastore, 1) := by decide +kernel
theorem dX12_put_96 : decode cX12_put 96 = .ok (.iconst 1, 1) := by decide +kernel
theorem dX12_put_97 : decode cX12_put 97 = .ok (.ireturn, 1) := by decide +kernel
set_option maxRecDepth 20000 in
theorem ggX12_move_X12_isSheet : GoodIn wsX12_move wsX12_isSheet := goodIn_r _ [8, 9, 10, 11, 7, 12] rfl (by decide +kernel)
set_option maxRecDepth 20000 in
theorem gX12_move_X12_isSheet : GoodIn wsX12_move (va_wsS RX12 263 yX12_isSheet wsX12_isSheet) := goodIn_app (goodIn_r _ [5, 6, 7] rfl (by decide +kernel)) ggX12_move_X12_isSheet
set_option maxRecDepth 20000 in
theorem ggX12_move_X12_finds : GoodIn wsX12_move wsX12_finds := goodIn_r _ [16, 17, 18, 19, 20, 21, 22, 23, 24, 25, 26, 27, 28, 29, 30, 31, 32, 33, 34, 35, 36, 37, 38, 39, 40, 41] rfl (by decide +kernel)
set_option maxRecDepth 20000 in
theorem gX12_move_X12_finds : GoodIn wsX12_move (wsV RX12 131 RX12 yX12_finds wsX12_finds) := goodIn_app (goodIn_r _ [13, 14, 15, 7] rfl (by decide +kernel)) ggX12_move_X12_finds
theorem dX12_move_0 : decode cX12_move 0 = .ok (.iload_n 1, 1) := by decide +kernel
theorem dX12_move_1 : decode cX12_move 1 = .ok (.invokestatic 263, 3) := by decide +kernel
theorem dX12_move_4 : decode cX12_move 4 = .ok (.ifCond .eq 10, 3) := by decide +kernel
theorem dX12_move_7 : decode cX12_move 7 = .ok (.iload_n 3, 1) := by decide +kernel
theorem dX12_move_8 : decode cX12_move 8 = .ok (.invokestatic 263, 3) := by decide +kernel
theorem dX12_move_11 : decode cX12_move 11 = .ok (.ifCond .ne 9, 3) := by decide +kernel
theorem dX12_move_14 : decode cX12_move 14 = .ok (.aload_n 0, 1) := by decide +kernel
theorem dX12_move_15 : decode cX12_move 15 = .ok (.iconst 1, 1) := by decide +kernel
theorem dX12_move_16 : decode cX12_move 16 = .ok (.invokevirtual 131, 3) := by decide +kernel
theorem dX12_move_19 : decode cX12_move 19 = .ok (.ireturn, 1) := by decide +kernel
theorem dX12_move_20 : decode cX12_move 20 = .ok (.aload_n 0, 1) := by decide +kernel
theorem dX12_move_21 : decode cX12_move 21 = .ok (.getfield 37, 3) := by decide +kernel
theorem dX12_move_24 : decode cX12_move 24 = .ok (.iload_n 1, 1) := by decide +kernel
theorem dX12_move_25 : decode cX12_move 25 = .ok (.iaload, 1) := by decide +kernel
theorem dX12_move_26 : decode cX12_move 26 = .ok (.ifCond .eq 12, 3) := by decide +kernel
theorem dX12_move_29 : decode cX12_move 29 = .ok (.aload_n 0, 1) := by decide +kernel
theorem dX12_move_30 : decode cX12_move 30 = .ok (.getfield 37, 3) := by decide +kernel
theorem dX12_move_33 : decode cX12_move 33 = .ok (.iload_n 3, 1) := by decide +kernel
theorem dX12_move_34 : decode cX12_move 34 = .ok (.iaload, 1) := by decide +kernel
theorem dX12_move_35 : decode cX12_move 35 = .ok (.ifCond .ne 9, 3) := by decide +kernel
theorem dX12_move_38 : decode cX12_move 38 = .ok (.aload_n 0, 1) := by decide +kernel
theorem dX12_move_39 : decode cX12_move 39 = .ok (.iconst 2, 1) := by decide +kernel
theorem dX12_move_40 : decode cX12_move 40 = .ok (.invokevirtual 131, 3) := by decide +kernel
theorem dX12_move_43 : decode cX12_move 43 = .ok (.ireturn, 1) := by decide +kernel
theorem dX12_move_44 : decode cX12_move 44 = .ok (.aload_n 0, 1) := by decide +kernel
theorem dX12_move_45 : decode cX12_move 45 = .ok (.getfield 37, 3) := by decide +kernel
theorem dX12_move_48 : decode cX12_move 48 = .ok (.iload_n 1, 1) := by decide +kernel
theorem dX12_move_49 : decode cX12_move 49 = .ok (.iaload, 1) := by decide +kernel
theorem dX12_move_50 : decode cX12_move 50 = .ok (.aload_n 0, 1) := by decide +kernel
theorem dX12_move_51 : decode cX12_move 51 = .ok (.getfield 37, 3) := by decide +kernel
theorem dX12_move_54 : decode cX12_move 54 = .ok (.iload_n 3, 1) := by decide +kernel
theorem dX12_move_55 : decode cX12_move 55 = .ok (.iaload, 1) := by decide +kernel
theorem dX12_move_56 : decode cX12_move 56 = .ok (.if_icmp .eq 9, 3) := by decide +kernel
theorem dX12_move_59 : decode cX12_move 59 = .ok (.aload_n 0, 1) := by decide +kernel
theorem dX12_move_60 : decode cX12_move 60 = .ok (.iconst 5, 1) := by decide +kernel
theorem dX12_move_61 : decode cX12_move 61 = .ok (.invokevirtual 131, 3) := by decide +kernel
theorem dX12_move_64 : decode cX12_move 64 = .ok (.ireturn, 1) := by decide +kernel
theorem dX12_move_65 : decode cX12_move 65 = .ok (.iload 5, 2) := by decide +kernel
theorem dX12_move_67 : decode cX12_move 67 = .ok (.ifCond .lt 39, 3) := by decide +kernel
theorem dX12_move_70 : decode cX12_move 70 = .ok (.iload_n 2, 1) := by decide +kernel
theorem dX12_move_71 : decode cX12_move 71 = .ok (.ifCond .lt 35, 3) := by decide +kernel
theorem dX12_move_74 : decode cX12_move 74 = .ok (.iload 4, 2) := by decide +kernel
theorem dX12_move_76 : decode cX12_move 76 = .ok (.ifCond .lt 30, 3) := by decide +kernel
theorem dX12_move_79 : decode cX12_move 79 = .ok (.iload 5, 2) := by decide +kernel
theorem dX12_move_81 : decode cX12_move 81 = .ok (.aload_n 0, 1) := by decide +kernel
theorem dX12_move_82 : decode cX12_move 82 = .ok (.getfield 40, 3) := by decide +kernel
theorem dX12_move_85 : decode cX12_move 85 = .ok (.iload_n 1, 1) := by decide +kernel
theorem dX12_move_86 : decode cX12_move 86 = .ok (.iaload, 1) := by decide +kernel
theorem dX12_move_87 : decode cX12_move 87 = .ok (.iload_n 2, 1) := by decide +kernel
theorem dX12_move_88 : decode cX12_move 88 = .ok (.isub, 1) := by decide +kernel
theorem dX12_move_89 : decode cX12_move 89 = .ok (.if_icmp .gt 17, 3) := by decide +kernel
theorem dX12_move_92 : decode cX12_move 92 = .ok (.iload 5, 2) := by decide +kernel
theorem dX12_move_94 : decode cX12_move 94 = .ok (.aload_n 0, 1) := by decide +kernel
theorem dX12_move_95 : decode cX12_move 95 = .ok (.getfield 40, 3) := by decide +kernel
theorem dX12_move_98 : decode cX12_move 98 = .ok (.iload_n 3, 1) := by decide +kernel
theorem dX12_move_99 : decode cX12_move 99 = .ok (.iaload, 1) := by decide +kernel
theorem dX12_move_100 : decode cX12_move 100 = .ok (.iload 4, 2) := by decide +kernel
theorem dX12_move_102 : decode cX12_move 102 = .ok (.isub, 1) := by decide +kernel
theorem dX12_move_103 : decode cX12_move 103 = .ok (.if_icmp .le 9, 3) := by decide +kernel
theorem dX12_move_106 : decode cX12_move 106 = .ok (.aload_n 0, 1) := by decide +kernel
theorem dX12_move_107 : decode cX12_move 107 = .ok (.iconst 1, 1) := by decide +kernel
theorem dX12_move_108 : decode cX12_move 108 = .ok (.invokevirtual 131, 3) := by decide +kernel
theorem dX12_move_111 : decode cX12_move 111 = .ok (.ireturn, 1) := by decide +kernel
theorem dX12_move_112 : decode cX12_move 112 = .ok (.iconst 0, 1) := by decide +kernel
theorem dX12_move_113 : decode cX12_move 113 = .ok (.istore 6, 2) := by decide +kernel
theorem dX12_move_115 : decode cX12_move 115 = .ok (.iload 6, 2) := by decide +kernel
theorem dX12_move_117 : decode cX12_move 117 = .ok (.iload 5, 2) := by decide +kernel
theorem dX12_move_119 : decode cX12_move 119 = .ok (.if_icmp .ge 30, 3) := by decide +kernel
theorem dX12_move_122 : decode cX12_move 122 = .ok (.aload_n 0, 1) := by decide +kernel
theorem dX12_move_123 : decode cX12_move 123 = .ok (.getfield 46, 3) := by decide +kernel
theorem dX12_move_126 : decode cX12_move 126 = .ok (.iload 6, 2) := by decide +kernel
theorem dX12_move_128 : decode cX12_move 128 = .ok (.aload_n 0, 1) := by decide +kernel
theorem dX12_move_129 : decode cX12_move 129 = .ok (.getfield 43, 3) := by decide +kernel
theorem dX12_move_132 : decode cX12_move 132 = .ok (.bipush 40, 2) := by decide +kernel
theorem dX12_move_134 : decode cX12_move 134 = .ok (.iload_n 1, 1) := by decide +kernel
theorem dX12_move_135 : decode cX12_move 135 = .ok (.imul, 1) := by decide +kernel
theorem dX12_move_136 : decode cX12_move 136 = .ok (.iload_n 2, 1) := by decide +kernel
theorem dX12_move_137 : decode cX12_move 137 = .ok (.iadd, 1) := by decide +kernel
theorem dX12_move_138 : decode cX12_move 138 = .ok (.iload 6, 2) := by decide +kernel
theorem dX12_move_140 : decode cX12_move 140 = .ok (.iadd, 1) := by decide +kernel
theorem dX12_move_141 : decode cX12_move 141 = .ok (.iaload, 1) := by decide +kernel
theorem dX12_move_142 : decode cX12_move 142 = .ok (.iastore, 1) := by decide +kernel
theorem dX12_move_143 : decode cX12_move 143 = .ok (.iinc 6 1, 3) := by decide +kernel
theorem dX12_move_146 : decode cX12_move 146 = .ok (.goto (-31), 3) := by decide +kernel
theorem dX12_move_149 : decode cX12_move 149 = .ok (.iconst 0, 1) := by decide +kernel
theorem dX12_move_150 : decode cX12_move 150 = .ok (.istore 6, 2) := by decide +kernel
theorem dX12_move_152 : decode cX12_move 152 = .ok (.iload 6, 2) := by decide +kernel
theorem dX12_move_154 : decode cX12_move 154 = .ok (.iload 5, 2) := by decide +kernel
theorem dX12_move_156 : decode cX12_move 156 = .ok (.if_icmp .ge 31, 3) := by decide +kernel
theorem dX12_move_159 : decode cX12_move 159 = .ok (.aload_n 0, 1) := by decide +kernel
theorem dX12_move_160 : decode cX12_move 160 = .ok (.getfield 43, 3) := by decide +kernel
theorem dX12_move_163 : decode cX12_move 163 = .ok (.bipush 40, 2) := by decide +kernel
theorem dX12_move_165 : decode cX12_move 165 = .ok (.iload_n 3, 1) := by decide +kernel
theorem dX12_move_166 : decode cX12_move 166 = .ok (.imul, 1) := by decide +kernel
theorem dX12_move_167 : decode cX12_move 167 = .ok (.iload 4, 2) := by decide +kernel
theorem dX12_move_169 : decode cX12_move 169 = .ok (.iadd, 1) := by decide +kernel
theorem dX12_move_170 : decode cX12_move 170 = .ok (.iload 6, 2) := by decide +kernel
theorem dX12_move_172 : decode cX12_move 172 = .ok (.iadd, 1) := by decide +kernel
theorem dX12_move_173 : decode cX12_move 173 = .ok (.aload_n 0, 1) := by decide +kernel
theorem dX12_move_174 : decode cX12_move 174 = .ok (.getfield 46, 3) := by decide +kernel
theorem dX12_move_177 : decode cX12_move 177 = .ok (.iload 6, 2) := by decide +kernel
theorem dX12_move_179 : decode cX12_move 179 = .ok (.iaload, 1) := by decide +kernel
theorem dX12_move_180 : decode cX12_move 180 = .ok (.iastore, 1) := by decide +kernel
theorem dX12_move_181 : decode cX12_move 181 = .ok (.iinc 6 1, 3) := by decide +kernel
theorem dX12_move_184 : decode cX12_move 184 = .ok (.goto (-32), 3) := by decide +kernel
theorem dX12_move_187 : decode cX12_move 187 = .ok (.iload 5, 2) := by decide +kernel
theorem dX12_move_189 : decode cX12_move 189 = .ok (.ireturn, 1) := by decide +kernel
set_option maxRecDepth 20000 in
theorem ggX12_weights_X12_isSheet : GoodIn wsX12_weights wsX12_isSheet := goodIn_r _ [9, 10, 11, 12, 8, 13] rfl (by decide +kernel)
set_option maxRecDepth 20000 in
theorem gX12_weights_X12_isSheet : GoodIn wsX12_weights (va_wsS RX12 263 yX12_isSheet wsX12_isSheet) := goodIn_app (goodIn_r _ [6, 7, 8] rfl (by decide +kernel)) ggX12_weights_X12_isSheet
set_option maxRecDepth 20000 in
theorem ggX12_weights_X12_finds : GoodIn wsX12_weights wsX12_finds := goodIn_r _ [17, 18, 19, 20, 21, 22, 23, 24, 25, 26, 27, 28, 29, 30, 31, 32, 33, 34, 35, 36, 37, 38, 39, 40, 41, 42] rfl (by decide +kernel)
set_option maxRecDepth 20000 in
theorem gX12_weights_X12_finds : GoodIn wsX12_weights (wsV RX12 131 RX12 yX12_finds wsX12_finds) := goodIn_app (goodIn_r _ [14, 15, 16, 8] rfl (by decide +kernel)) ggX12_weights_X12_finds
set_option maxRecDepth 20000 in
theorem ggX12_weights_X12_in : GoodIn wsX12_weights wsX12_in := goodIn_r _ [13] rfl (by decide +kernel)
set_option maxRecDepth 20000 in
theorem gX12_weights_X12_in : GoodIn wsX12_weights (va_wsS RX12 50 yX12_in wsX12_in) := goodIn_app (goodIn_r _ [11, 12, 8] rfl (by decide +kernel)) ggX12_weights_X12_in
theorem dX12_weights_0 : decode cX12_weights 0 = .ok (.iload_n 1, 1) := by decide +kernel
theorem dX12_weights_1 : decode cX12_weights 1 = .ok (.invokestatic 263, 3) := by decide +kernel
theorem dX12_weights_4 : decode cX12_weights 4 = .ok (.ifCond .ne 9, 3) := by decide +kernel
theorem dX12_weights_7 : decode cX12_weights 7 = .ok (.aload_n 0, 1) := by decide +kernel
theorem dX12_weights_8 : decode cX12_weights 8 = .ok (.iconst 1, 1) := by decide +kernel
theorem dX12_weights_9 : decode cX12_weights 9 = .ok (.invokevirtual 131, 3) := by decide +kernel
theorem dX12_weights_12 : decode cX12_weights 12 = .ok (.ireturn, 1) := by decide +kernel
theorem dX12_weights_13 : decode cX12_weights 13 = .ok (.aload_n 0, 1) := by decide +kernel
theorem dX12_weights_14 : decode cX12_weights 14 = .ok (.getfield 37, 3) := by decide +kernel
theorem dX12_weights_17 : decode cX12_weights 17 = .ok (.iload_n 1, 1) := by decide +kernel
theorem dX12_weights_18 : decode cX12_weights 18 = .ok (.iaload, 1) := by decide +kernel
theorem dX12_weights_19 : decode cX12_weights 19 = .ok (.ifCond .ne 9, 3) := by decide +kernel
theorem dX12_weights_22 : decode cX12_weights 22 = .ok (.aload_n 0, 1) := by decide +kernel
theorem dX12_weights_23 : decode cX12_weights 23 = .ok (.iconst 2, 1) := by decide +kernel
theorem dX12_weights_24 : decode cX12_weights 24 = .ok (.invokevirtual 131, 3) := by decide +kernel
theorem dX12_weights_27 : decode cX12_weights 27 = .ok (.ireturn, 1) := by decide +kernel
theorem dX12_weights_28 : decode cX12_weights 28 = .ok (.iconst 0, 1) := by decide +kernel
theorem dX12_weights_29 : decode cX12_weights 29 = .ok (.istore_n 2, 1) := by decide +kernel
theorem dX12_weights_30 : decode cX12_weights 30 = .ok (.iload_n 2, 1) := by decide +kernel
theorem dX12_weights_31 : decode cX12_weights 31 = .ok (.aload_n 0, 1) := by decide +kernel
theorem dX12_weights_32 : decode cX12_weights 32 = .ok (.getfield 40, 3) := by decide +kernel
theorem dX12_weights_35 : decode cX12_weights 35 = .ok (.iload_n 1, 1) := by decide +kernel
theorem dX12_weights_36 : decode cX12_weights 36 = .ok (.iaload, 1) := by decide +kernel
theorem dX12_weights_37 : decode cX12_weights 37 = .ok (.if_icmp .ge 57, 3) := by decide +kernel
theorem dX12_weights_40 : decode cX12_weights 40 = .ok (.iload_n 2, 1) := by decide +kernel
theorem dX12_weights_41 : decode cX12_weights 41 = .ok (.bipush 12, 2) := by decide +kernel
theorem dX12_weights_43 : decode cX12_weights 43 = .ok (.if_icmp .ge 51, 3) := by decide +kernel
theorem dX12_weights_46 : decode cX12_weights 46 = .ok (.aload_n 0, 1) := by decide +kernel
theorem dX12_weights_47 : decode cX12_weights 47 = .ok (.getfield 43, 3) := by decide +kernel
theorem dX12_weights_50 : decode cX12_weights 50 = .ok (.bipush 40, 2) := by decide +kernel
theorem dX12_weights_52 : decode cX12_weights 52 = .ok (.iload_n 1, 1) := by decide +kernel
theorem dX12_weights_53 : decode cX12_weights 53 = .ok (.imul, 1) := by decide +kernel
theorem dX12_weights_54 : decode cX12_weights 54 = .ok (.iload_n 2, 1) := by decide +kernel
theorem dX12_weights_55 : decode cX12_weights 55 = .ok (.iadd, 1) := by decide +kernel
theorem dX12_weights_56 : decode cX12_weights 56 = .ok (.iaload, 1) := by decide +kernel
theorem dX12_weights_57 : decode cX12_weights 57 = .ok (.i2l, 1) := by decide +kernel
theorem dX12_weights_58 : decode cX12_weights 58 = .ok (.lconst 0, 1) := by decide +kernel
theorem dX12_weights_59 : decode cX12_weights 59 = .ok (.ldc2_w 194, 3) := by decide +kernel
theorem dX12_weights_62 : decode cX12_weights 62 = .ok (.invokestatic 50, 3) := by decide +kernel
theorem dX12_weights_65 : decode cX12_weights 65 = .ok (.ifCond .eq 29, 3) := by decide +kernel
theorem dX12_weights_68 : decode cX12_weights 68 = .ok (.aload_n 0, 1) := by decide +kernel
theorem dX12_weights_69 : decode cX12_weights 69 = .ok (.getfield 7, 3) := by decide +kernel
theorem dX12_weights_72 : decode cX12_weights 72 = .ok (.bipush 6, 2) := by decide +kernel
theorem dX12_weights_74 : decode cX12_weights 74 = .ok (.iload_n 2, 1) := by decide +kernel
theorem dX12_weights_75 : decode cX12_weights 75 = .ok (.iadd, 1) := by decide +kernel
theorem dX12_weights_76 : decode cX12_weights 76 = .ok (.aload_n 0, 1) := by decide +kernel
theorem dX12_weights_77 : decode cX12_weights 77 = .ok (.getfield 43, 3) := by decide +kernel
theorem dX12_weights_80 : decode cX12_weights 80 = .ok (.bipush 40, 2) := by decide +kernel
theorem dX12_weights_82 : decode cX12_weights 82 = .ok (.iload_n 1, 1) := by decide +kernel
theorem dX12_weights_83 : decode cX12_weights 83 = .ok (.imul, 1) := by decide +kernel
theorem dX12_weights_84 : decode cX12_weights 84 = .ok (.iload_n 2, 1) := by decide +kernel
theorem dX12_weights_85 : decode cX12_weights 85 = .ok (.iadd, 1) := by decide +kernel
theorem dX12_weights_86 : decode cX12_weights 86 = .ok (.iaload, 1) := by decide +kernel
theorem dX12_weights_87 : decode cX12_weights 87 = .ok (.iastore, 1) := by decide +kernel
theorem dX12_weights_88 : decode cX12_weights 88 = .ok (.iinc 2 1, 3) := by decide +kernel
theorem dX12_weights_91 : decode cX12_weights 91 = .ok (.goto (-61), 3) := by decide +kernel
theorem dX12_weights_94 : decode cX12_weights 94 = .ok (.iload_n 2, 1) := by decide +kernel
theorem dX12_weights_95 : decode cX12_weights 95 = .ok (.ireturn, 1) := by decide +kernel
set_option maxRecDepth 20000 in
theorem ggX12_judge_X12_isSheet : GoodIn wsX12_judge wsX12_isSheet := goodIn_r _ [8, 9, 10, 11, 7, 12] rfl (by decide +kernel)
set_option maxRecDepth 20000 in
theorem gX12_judge_X12_isSheet : GoodIn wsX12_judge (va_wsS RX12 263 yX12_isSheet wsX12_isSheet) := goodIn_app (goodIn_r _ [5, 6, 7] rfl (by decide +kernel)) ggX12_judge_X12_isSheet
set_option maxRecDepth 20000 in
theorem ggX12_judge_X12_finds : GoodIn wsX12_judge wsX12_finds := goodIn_r _ [16, 17, 18, 23, 24, 25, 26, 27, 28, 29, 30, 31, 32, 33, 34, 35, 36, 37, 38, 39, 40, 41, 42, 43, 44, 45] rfl (by decide +kernel)
set_option maxRecDepth 20000 in
theorem gX12_judge_X12_finds : GoodIn wsX12_judge (wsV RX12 131 RX12 yX12_finds wsX12_finds) := goodIn_app (goodIn_r _ [13, 14, 15, 7] rfl (by decide +kernel)) ggX12_judge_X12_finds
set_option maxRecDepth 20000 in
theorem ggX12_judge_X12_of : GoodIn wsX12_judge wsX12_of := goodIn_r _ [22, 3, 23, 24, 25, 26, 27, 28, 29, 30, 31, 32, 33, 34, 35, 36, 37, 38, 39, 40, 41, 42, 43, 44, 45] rfl (by decide +kernel)
set_option maxRecDepth 20000 in
theorem gX12_judge_X12_of : GoodIn wsX12_judge (wsV RX12 151 RX12 yX12_of wsX12_of) := goodIn_app (goodIn_r _ [19, 20, 21, 7] rfl (by decide +kernel)) ggX12_judge_X12_of
theorem dX12_judge_0 : decode cX12_judge 0 = .ok (.iload_n 1, 1) := by decide +kernel
theorem dX12_judge_1 : decode cX12_judge 1 = .ok (.invokestatic 263, 3) := by decide +kernel
theorem dX12_judge_4 : decode cX12_judge 4 = .ok (.ifCond .ne 9, 3) := by decide +kernel
theorem dX12_judge_7 : decode cX12_judge 7 = .ok (.aload_n 0, 1) := by decide +kernel
theorem dX12_judge_8 : decode cX12_judge 8 = .ok (.iconst 1, 1) := by decide +kernel
theorem dX12_judge_9 : decode cX12_judge 9 = .ok (.invokevirtual 131, 3) := by decide +kernel
theorem dX12_judge_12 : decode cX12_judge 12 = .ok (.ireturn, 1) := by decide +kernel
theorem dX12_judge_13 : decode cX12_judge 13 = .ok (.aload_n 0, 1) := by decide +kernel
theorem dX12_judge_14 : decode cX12_judge 14 = .ok (.getfield 37, 3) := by decide +kernel
theorem dX12_judge_17 : decode cX12_judge 17 = .ok (.iload_n 1, 1) := by decide +kernel
theorem dX12_judge_18 : decode cX12_judge 18 = .ok (.iaload, 1) := by decide +kernel
theorem dX12_judge_19 : decode cX12_judge 19 = .ok (.ifCond .ne 9, 3) := by decide +kernel
theorem dX12_judge_22 : decode cX12_judge 22 = .ok (.aload_n 0, 1) := by decide +kernel
theorem dX12_judge_23 : decode cX12_judge 23 = .ok (.iconst 2, 1) := by decide +kernel
theorem dX12_judge_24 : decode cX12_judge 24 = .ok (.invokevirtual 131, 3) := by decide +kernel
theorem dX12_judge_27 : decode cX12_judge 27 = .ok (.ireturn, 1) := by decide +kernel
theorem dX12_judge_28 : decode cX12_judge 28 = .ok (.iconst 0, 1) := by decide +kernel
theorem dX12_judge_29 : decode cX12_judge 29 = .ok (.istore_n 2, 1) := by decide +kernel
theorem dX12_judge_30 : decode cX12_judge 30 = .ok (.iload_n 2, 1) := by decide +kernel
theorem dX12_judge_31 : decode cX12_judge 31 = .ok (.aload_n 0, 1) := by decide +kernel
theorem dX12_judge_32 : decode cX12_judge 32 = .ok (.getfield 40, 3) := by decide +kernel
theorem dX12_judge_35 : decode cX12_judge 35 = .ok (.iload_n 1, 1) := by decide +kernel
theorem dX12_judge_36 : decode cX12_judge 36 = .ok (.iaload, 1) := by decide +kernel
theorem dX12_judge_37 : decode cX12_judge 37 = .ok (.if_icmp .ge 39, 3) := by decide +kernel
theorem dX12_judge_40 : decode cX12_judge 40 = .ok (.iload_n 2, 1) := by decide +kernel
theorem dX12_judge_41 : decode cX12_judge 41 = .ok (.aload_n 0, 1) := by decide +kernel
theorem dX12_judge_42 : decode cX12_judge 42 = .ok (.getfield 7, 3) := by decide +kernel
theorem dX12_judge_45 : decode cX12_judge 45 = .ok (.iconst 0, 1) := by decide +kernel
theorem dX12_judge_46 : decode cX12_judge 46 = .ok (.iaload, 1) := by decide +kernel
theorem dX12_judge_47 : decode cX12_judge 47 = .ok (.if_icmp .ge 29, 3) := by decide +kernel
theorem dX12_judge_50 : decode cX12_judge 50 = .ok (.aload_n 0, 1) := by decide +kernel
theorem dX12_judge_51 : decode cX12_judge 51 = .ok (.getfield 43, 3) := by decide +kernel
theorem dX12_judge_54 : decode cX12_judge 54 = .ok (.bipush 40, 2) := by decide +kernel
theorem dX12_judge_56 : decode cX12_judge 56 = .ok (.iload_n 1, 1) := by decide +kernel
theorem dX12_judge_57 : decode cX12_judge 57 = .ok (.imul, 1) := by decide +kernel
theorem dX12_judge_58 : decode cX12_judge 58 = .ok (.iload_n 2, 1) := by decide +kernel
theorem dX12_judge_59 : decode cX12_judge 59 = .ok (.iadd, 1) := by decide +kernel
theorem dX12_judge_60 : decode cX12_judge 60 = .ok (.iaload, 1) := by decide +kernel
theorem dX12_judge_61 : decode cX12_judge 61 = .ok (.aload_n 0, 1) := by decide +kernel
theorem dX12_judge_62 : decode cX12_judge 62 = .ok (.iload_n 2, 1) := by decide +kernel
theorem dX12_judge_63 : decode cX12_judge 63 = .ok (.iconst 2, 1) := by decide +kernel
theorem dX12_judge_64 : decode cX12_judge 64 = .ok (.invokevirtual 151, 3) := by decide +kernel
theorem dX12_judge_67 : decode cX12_judge 67 = .ok (.if_icmp .ne 9, 3) := by decide +kernel
theorem dX12_judge_70 : decode cX12_judge 70 = .ok (.iinc 2 1, 3) := by decide +kernel
theorem dX12_judge_73 : decode cX12_judge 73 = .ok (.goto (-43), 3) := by decide +kernel
theorem dX12_judge_76 : decode cX12_judge 76 = .ok (.iload_n 2, 1) := by decide +kernel
theorem dX12_judge_77 : decode cX12_judge 77 = .ok (.aload_n 0, 1) := by decide +kernel
theorem dX12_judge_78 : decode cX12_judge 78 = .ok (.getfield 40, 3) := by decide +kernel
theorem dX12_judge_81 : decode cX12_judge 81 = .ok (.iload_n 1, 1) := by decide +kernel
theorem dX12_judge_82 : decode cX12_judge 82 = .ok (.iaload, 1) := by decide +kernel
theorem dX12_judge_83 : decode cX12_judge 83 = .ok (.if_icmp .ne 17, 3) := by decide +kernel
theorem dX12_judge_86 : decode cX12_judge 86 = .ok (.iload_n 2, 1) := by decide +kernel
theorem dX12_judge_87 : decode cX12_judge 87 = .ok (.aload_n 0, 1) := by decide +kernel
theorem dX12_judge_88 : decode cX12_judge 88 = .ok (.getfield 7, 3) := by decide +kernel
theorem dX12_judge_91 : decode cX12_judge 91 = .ok (.iconst 0, 1) := by decide +kernel
theorem dX12_judge_92 : decode cX12_judge 92 = .ok (.iaload, 1) := by decide +kernel
theorem dX12_judge_93 : decode cX12_judge 93 = .ok (.if_icmp .ne 7, 3) := by decide +kernel
theorem dX12_judge_96 : decode cX12_judge 96 = .ok (.iconst (-1), 1) := by decide +kernel
theorem dX12_judge_97 : decode cX12_judge 97 = .ok (.goto 4, 3) := by decide +kernel
theorem dX12_judge_100 : decode cX12_judge 100 = .ok (.iload_n 2, 1) := by decide +kernel
theorem dX12_judge_101 : decode cX12_judge 101 = .ok (.ireturn, 1) := by decide +kernel
theorem dX12_image_0 : decode cX12_image 0 = .ok (.iconst 0, 1) := by decide +kernel
theorem dX12_image_1 : decode cX12_image 1 = .ok (.istore_n 1, 1) := by decide +kernel
theorem dX12_image_2 : decode cX12_image 2 = .ok (.iload_n 1, 1) := by decide +kernel
theorem dX12_image_3 : decode cX12_image 3 = .ok (.sipush 326, 3) := by decide +kernel
theorem dX12_image_6 : decode cX12_image 6 = .ok (.if_icmp .ge 21, 3) := by decide +kernel
theorem dX12_image_9 : decode cX12_image 9 = .ok (.aload_n 0, 1) := by decide +kernel
theorem dX12_image_10 : decode cX12_image 10 = .ok (.getfield 13, 3) := by decide +kernel
theorem dX12_image_13 : decode cX12_image 13 = .ok (.iload_n 1, 1) := by decide +kernel
theorem dX12_image_14 : decode cX12_image 14 = .ok (.aload_n 0, 1) := by decide +kernel
theorem dX12_image_15 : decode cX12_image 15 = .ok (.getfield 7, 3) := by decide +kernel
theorem dX12_image_18 : decode cX12_image 18 = .ok (.iload_n 1, 1) := by decide +kernel
theorem dX12_image_19 : decode cX12_image 19 = .ok (.iaload, 1) := by decide +kernel
theorem dX12_image_20 : decode cX12_image 20 = .ok (.iastore, 1) := by decide +kernel
theorem dX12_image_21 : decode cX12_image 21 = .ok (.iinc 1 1, 3) := by decide +kernel
theorem dX12_image_24 : decode cX12_image 24 = .ok (.goto (-22), 3) := by decide +kernel
theorem dX12_image_27 : decode cX12_image 27 = .ok (.aload_n 0, 1) := by decide +kernel
theorem dX12_image_28 : decode cX12_image 28 = .ok (.dup, 1) := by decide +kernel
theorem dX12_image_29 : decode cX12_image 29 = .ok (.getfield 298, 3) := by decide +kernel
theorem dX12_image_32 : decode cX12_image 32 = .ok (.iconst 1, 1) := by decide +kernel
theorem dX12_image_33 : decode cX12_image 33 = .ok (.iadd, 1) := by decide +kernel
theorem dX12_image_34 : decode cX12_image 34 = .ok (.putfield 298, 3) := by decide +kernel
theorem dX12_image_37 : decode cX12_image 37 = .ok (.aload_n 0, 1) := by decide +kernel
theorem dX12_image_38 : decode cX12_image 38 = .ok (.getfield 298, 3) := by decide +kernel
theorem dX12_image_41 : decode cX12_image 41 = .ok (.ireturn, 1) := by decide +kernel
set_option maxRecDepth 20000 in
theorem ggX12_restore_X12_finds : GoodIn wsX12_restore wsX12_finds := goodIn_r _ [8, 9, 10, 11, 12, 13, 14, 15, 16, 17, 18, 19, 20, 21, 22, 23, 24, 25, 26, 27, 28, 29, 30, 31, 32, 33] rfl (by decide +kernel)
set_option maxRecDepth 20000 in
theorem gX12_restore_X12_finds : GoodIn wsX12_restore (wsV RX12 131 RX12 yX12_finds wsX12_finds) := goodIn_app (goodIn_r _ [4, 5, 6, 7] rfl (by decide +kernel)) ggX12_restore_X12_finds
theorem dX12_restore_0 : decode cX12_restore 0 = .ok (.aload_n 0, 1) := by decide +kernel
theorem dX12_restore_1 : decode cX12_restore 1 = .ok (.getfield 298, 3) := by decide +kernel
theorem dX12_restore_4 : decode cX12_restore 4 = .ok (.ifCond .ne 9, 3) := by decide +kernel
theorem dX12_restore_7 : decode cX12_restore 7 = .ok (.aload_n 0, 1) := by decide +kernel
theorem dX12_restore_8 : decode cX12_restore 8 = .ok (.iconst 2, 1) := by decide +kernel
theorem dX12_restore_9 : decode cX12_restore 9 = .ok (.invokevirtual 131, 3) := by decide +kernel
theorem dX12_restore_12 : decode cX12_restore 12 = .ok (.ireturn, 1) := by decide +kernel
theorem dX12_restore_13 : decode cX12_restore 13 = .ok (.iconst 0, 1) := by decide +kernel
theorem dX12_restore_14 : decode cX12_restore 14 = .ok (.istore_n 1, 1) := by decide +kernel
theorem dX12_restore_15 : decode cX12_restore 15 = .ok (.iload_n 1, 1) := by decide +kernel
theorem dX12_restore_16 : decode cX12_restore 16 = .ok (.sipush 326, 3) := by decide +kernel
theorem dX12_restore_19 : decode cX12_restore 19 = .ok (.if_icmp .ge 21, 3) := by decide +kernel
theorem dX12_restore_22 : decode cX12_restore 22 = .ok (.aload_n 0, 1) := by decide +kernel
theorem dX12_restore_23 : decode cX12_restore 23 = .ok (.getfield 7, 3) := by decide +kernel
theorem dX12_restore_26 : decode cX12_restore 26 = .ok (.iload_n 1, 1) := by decide +kernel
theorem dX12_restore_27 : decode cX12_restore 27 = .ok (.aload_n 0, 1) := by decide +kernel
theorem dX12_restore_28 : decode cX12_restore 28 = .ok (.getfield 13, 3) := by decide +kernel
theorem dX12_restore_31 : decode cX12_restore 31 = .ok (.iload_n 1, 1) := by decide +kernel
theorem dX12_restore_32 : decode cX12_restore 32 = .ok (.iaload, 1) := by decide +kernel
theorem dX12_restore_33 : decode cX12_restore 33 = .ok (.iastore, 1) := by decide +kernel
theorem dX12_restore_34 : decode cX12_restore 34 = .ok (.iinc 1 1, 3) := by decide +kernel
theorem dX12_restore_37 : decode cX12_restore 37 = .ok (.goto (-22), 3) := by decide +kernel
theorem dX12_restore_40 : decode cX12_restore 40 = .ok (.aload_n 0, 1) := by decide +kernel
theorem dX12_restore_41 : decode cX12_restore 41 = .ok (.getfield 7, 3) := by decide +kernel
theorem dX12_restore_44 : decode cX12_restore 44 = .ok (.iconst 1, 1) := by decide +kernel
theorem dX12_restore_45 : decode cX12_restore 45 = .ok (.iaload, 1) := by decide +kernel
theorem dX12_restore_46 : decode cX12_restore 46 = .ok (.ireturn, 1) := by decide +kernel
set_option maxRecDepth 20000 in
theorem ggX12_tell_X12_finds : GoodIn wsX12_tell wsX12_finds := goodIn_r _ [6, 7, 8, 9, 10, 11, 12, 13, 14, 15, 16, 17, 18, 19, 20, 21, 22, 23, 24, 25, 26, 27, 28, 29, 30, 31] rfl (by decide +kernel)
set_option maxRecDepth 20000 in
theorem gX12_tell_X12_finds : GoodIn wsX12_tell (wsV RX12 131 RX12 yX12_finds wsX12_finds) := goodIn_app (goodIn_r _ [2, 3, 4, 5] rfl (by decide +kernel)) ggX12_tell_X12_finds
theorem dX12_tell_0 : decode cX12_tell 0 = .ok (.aload_n 0, 1) := by decide +kernel
theorem dX12_tell_1 : decode cX12_tell 1 = .ok (.getfield 7, 3) := by decide +kernel
theorem dX12_tell_4 : decode cX12_tell 4 = .ok (.iconst 5, 1) := by decide +kernel
theorem dX12_tell_5 : decode cX12_tell 5 = .ok (.iaload, 1) := by decide +kernel
theorem dX12_tell_6 : decode cX12_tell 6 = .ok (.bipush 20, 2) := by decide +kernel
theorem dX12_tell_8 : decode cX12_tell 8 = .ok (.if_icmp .ne 9, 3) := by decide +kernel
theorem dX12_tell_11 : decode cX12_tell 11 = .ok (.aload_n 0, 1) := by decide +kernel
theorem dX12_tell_12 : decode cX12_tell 12 = .ok (.iconst 4, 1) := by decide +kernel
theorem dX12_tell_13 : decode cX12_tell 13 = .ok (.invokevirtual 131, 3) := by decide +kernel
theorem dX12_tell_16 : decode cX12_tell 16 = .ok (.ireturn, 1) := by decide +kernel
theorem dX12_tell_17 : decode cX12_tell 17 = .ok (.aload_n 0, 1) := by decide +kernel
theorem dX12_tell_18 : decode cX12_tell 18 = .ok (.getfield 7, 3) := by decide +kernel
theorem dX12_tell_21 : decode cX12_tell 21 = .ok (.sipush 156, 3) := by decide +kernel
theorem dX12_tell_24 : decode cX12_tell 24 = .ok (.aload_n 0, 1) := by decide +kernel
theorem dX12_tell_25 : decode cX12_tell 25 = .ok (.getfield 7, 3) := by decide +kernel
theorem dX12_tell_28 : decode cX12_tell 28 = .ok (.iconst 5, 1) := by decide +kernel
theorem dX12_tell_29 : decode cX12_tell 29 = .ok (.iaload, 1) := by decide +kernel
theorem dX12_tell_30 : decode cX12_tell 30 = .ok (.iadd, 1) := by decide +kernel
theorem dX12_tell_31 : decode cX12_tell 31 = .ok (.iload_n 1, 1) := by decide +kernel
theorem dX12_tell_32 : decode cX12_tell 32 = .ok (.iastore, 1) := by decide +kernel
theorem dX12_tell_33 : decode cX12_tell 33 = .ok (.aload_n 0, 1) := by decide +kernel
theorem dX12_tell_34 : decode cX12_tell 34 = .ok (.getfield 7, 3) := by decide +kernel
theorem dX12_tell_37 : decode cX12_tell 37 = .ok (.iconst 5, 1) := by decide +kernel
theorem dX12_tell_38 : decode cX12_tell 38 = .ok (.dup2, 1) := by decide +kernel
theorem dX12_tell_39 : decode cX12_tell 39 = .ok (.iaload, 1) := by decide +kernel
theorem dX12_tell_40 : decode cX12_tell 40 = .ok (.iconst 1, 1) := by decide +kernel
theorem dX12_tell_41 : decode cX12_tell 41 = .ok (.iadd, 1) := by decide +kernel
theorem dX12_tell_42 : decode cX12_tell 42 = .ok (.iastore, 1) := by decide +kernel
theorem dX12_tell_43 : decode cX12_tell 43 = .ok (.aload_n 0, 1) := by decide +kernel
theorem dX12_tell_44 : decode cX12_tell 44 = .ok (.getfield 7, 3) := by decide +kernel
theorem dX12_tell_47 : decode cX12_tell 47 = .ok (.iconst 5, 1) := by decide +kernel
theorem dX12_tell_48 : decode cX12_tell 48 = .ok (.iaload, 1) := by decide +kernel
theorem dX12_tell_49 : decode cX12_tell 49 = .ok (.ireturn, 1) := by decide +kernel
set_option maxRecDepth 20000 in
theorem ggX12_check_X12_keepAside : GoodIn wsX12_check wsX12_keepAside := goodIn_r _ [6, 7, 1, 82, 83, 84, 85, 86, 87, 88, 89, 90, 91, 92, 93, 94, 95, 96, 97, 98, 99, 100, 101, 102, 103, 104] rfl (by decide +kernel)
set_option maxRecDepth 20000 in
theorem gX12_check_X12_keepAside : GoodIn wsX12_check (wsV RX12 251 RX12 yX12_keepAside wsX12_keepAside) := goodIn_app (goodIn_r _ [2, 3, 4, 5] rfl (by decide +kernel)) ggX12_check_X12_keepAside
set_option maxRecDepth 20000 in
theorem ggX12_check_X12_hourGoes : GoodIn wsX12_check wsX12_hourGoes := goodIn_r _ [11, 1, 12, 13, 14, 5, 15, 16, 17, 18, 19, 20, 21, 22, 23, 24, 25, 26, 27, 28, 29, 30, 31, 32, 33, 34, 35, 36, 37, 38, 39, 40, 41, 42, 43, 44, 45, 46, 47, 48, 49, 50, 51, 52, 53, 54, 55, 56, 57, 58, 59, 60, 61, 62, 63, 64, 65, 66, 67, 68, 69, 70, 71, 72, 73, 74, 75, 76, 77, 82, 83, 84, 85, 86, 87, 88, 89, 90, 91, 92, 93, 94, 95, 96, 97, 98, 99, 100, 101, 102, 103, 104] rfl (by decide +kernel)
set_option maxRecDepth 20000 in
theorem gX12_check_X12_hourGoes : GoodIn wsX12_check (wsV RX12 188 RX12 yX12_hourGoes wsX12_hourGoes) := goodIn_app (goodIn_r _ [8, 9, 10, 5] rfl (by decide +kernel)) ggX12_check_X12_hourGoes
set_option maxRecDepth 20000 in
theorem ggX12_check_X12_ones : GoodIn wsX12_check wsX12_ones := goodIn_r _ [73] rfl (by decide +kernel)
set_option maxRecDepth 20000 in
theorem gX12_check_X12_ones : GoodIn wsX12_check (va_wsS RX12 157 yX12_ones wsX12_ones) := goodIn_app (goodIn_r _ [71, 72, 5] rfl (by decide +kernel)) ggX12_check_X12_ones
set_option maxRecDepth 20000 in
theorem ggX12_check_X12_putBack : GoodIn wsX12_check wsX12_putBack := goodIn_r _ [81, 1, 7, 82, 83, 84, 85, 86, 87, 88, 89, 90, 91, 92, 93, 94, 95, 96, 97, 98, 99, 100, 101, 102, 103, 104] rfl (by decide +kernel)
set_option maxRecDepth 20000 in
theorem gX12_check_X12_putBack : GoodIn wsX12_check (wsV RX12 254 RX12 yX12_putBack wsX12_putBack) := goodIn_app (goodIn_r _ [78, 79, 80, 5] rfl (by decide +kernel)) ggX12_check_X12_putBack
theorem dX12_check_0 : decode cX12_check 0 = .ok (.aload_n 0, 1) := by decide +kernel
theorem dX12_check_1 : decode cX12_check 1 = .ok (.getfield 7, 3) := by decide +kernel
theorem dX12_check_4 : decode cX12_check 4 = .ok (.iconst 5, 1) := by decide +kernel
theorem dX12_check_5 : decode cX12_check 5 = .ok (.iaload, 1) := by decide +kernel
theorem dX12_check_6 : decode cX12_check 6 = .ok (.istore_n 1, 1) := by decide +kernel
theorem dX12_check_7 : decode cX12_check 7 = .ok (.aload_n 0, 1) := by decide +kernel
theorem dX12_check_8 : decode cX12_check 8 = .ok (.getfield 7, 3) := by decide +kernel
theorem dX12_check_11 : decode cX12_check 11 = .ok (.iconst 5, 1) := by decide +kernel
theorem dX12_check_12 : decode cX12_check 12 = .ok (.iconst 0, 1) := by decide +kernel
theorem dX12_check_13 : decode cX12_check 13 = .ok (.iastore, 1) := by decide +kernel
theorem dX12_check_14 : decode cX12_check 14 = .ok (.aload_n 0, 1) := by decide +kernel
theorem dX12_check_15 : decode cX12_check 15 = .ok (.invokevirtual 251, 3) := by decide +kernel
theorem dX12_check_18 : decode cX12_check 18 = .ok (.iconst 0, 1) := by decide +kernel
theorem dX12_check_19 : decode cX12_check 19 = .ok (.istore_n 2, 1) := by decide +kernel
theorem dX12_check_20 : decode cX12_check 20 = .ok (.iconst 0, 1) := by decide +kernel
theorem dX12_check_21 : decode cX12_check 21 = .ok (.istore_n 3, 1) := by decide +kernel
theorem dX12_check_22 : decode cX12_check 22 = .ok (.iload_n 3, 1) := by decide +kernel
theorem dX12_check_23 : decode cX12_check 23 = .ok (.iload_n 1, 1) := by decide +kernel
theorem dX12_check_24 : decode cX12_check 24 = .ok (.if_icmp .ge 47, 3) := by decide +kernel
theorem dX12_check_27 : decode cX12_check 27 = .ok (.iload_n 2, 1) := by decide +kernel
theorem dX12_check_28 : decode cX12_check 28 = .ok (.ifCond .ne 43, 3) := by decide +kernel
theorem dX12_check_31 : decode cX12_check 31 = .ok (.aload_n 0, 1) := by decide +kernel
theorem dX12_check_32 : decode cX12_check 32 = .ok (.invokevirtual 188, 3) := by decide +kernel
theorem dX12_check_35 : decode cX12_check 35 = .ok (.aload_n 0, 1) := by decide +kernel
theorem dX12_check_36 : decode cX12_check 36 = .ok (.getfield 7, 3) := by decide +kernel
theorem dX12_check_39 : decode cX12_check 39 = .ok (.sipush 156, 3) := by decide +kernel
theorem dX12_check_42 : decode cX12_check 42 = .ok (.iload_n 3, 1) := by decide +kernel
theorem dX12_check_43 : decode cX12_check 43 = .ok (.iadd, 1) := by decide +kernel
theorem dX12_check_44 : decode cX12_check 44 = .ok (.iaload, 1) := by decide +kernel
theorem dX12_check_45 : decode cX12_check 45 = .ok (.aload_n 0, 1) := by decide +kernel
theorem dX12_check_46 : decode cX12_check 46 = .ok (.getfield 7, 3) := by decide +kernel
theorem dX12_check_49 : decode cX12_check 49 = .ok (.iconst 2, 1) := by decide +kernel
theorem dX12_check_50 : decode cX12_check 50 = .ok (.iaload, 1) := by decide +kernel
theorem dX12_check_51 : decode cX12_check 51 = .ok (.invokestatic 157, 3) := by decide +kernel
theorem dX12_check_54 : decode cX12_check 54 = .ok (.if_icmp .ne 7, 3) := by decide +kernel
theorem dX12_check_57 : decode cX12_check 57 = .ok (.iconst 0, 1) := by decide +kernel
theorem dX12_check_58 : decode cX12_check 58 = .ok (.goto 6, 3) := by decide +kernel
theorem dX12_check_61 : decode cX12_check 61 = .ok (.iconst 1, 1) := by decide +kernel
theorem dX12_check_62 : decode cX12_check 62 = .ok (.iload_n 3, 1) := by decide +kernel
theorem dX12_check_63 : decode cX12_check 63 = .ok (.iadd, 1) := by decide +kernel
theorem dX12_check_64 : decode cX12_check 64 = .ok (.istore_n 2, 1) := by decide +kernel
theorem dX12_check_65 : decode cX12_check 65 = .ok (.iinc 3 1, 3) := by decide +kernel
theorem dX12_check_68 : decode cX12_check 68 = .ok (.goto (-46), 3) := by decide +kernel
theorem dX12_check_71 : decode cX12_check 71 = .ok (.aload_n 0, 1) := by decide +kernel
theorem dX12_check_72 : decode cX12_check 72 = .ok (.invokevirtual 254, 3) := by decide +kernel
theorem dX12_check_75 : decode cX12_check 75 = .ok (.iload_n 2, 1) := by decide +kernel
theorem dX12_check_76 : decode cX12_check 76 = .ok (.ireturn, 1) := by decide +kernel
theorem dX12_sumOf_0 : decode cX12_sumOf 0 = .ok (.iconst 0, 1) := by decide +kernel
theorem dX12_sumOf_1 : decode cX12_sumOf 1 = .ok (.istore 4, 2) := by decide +kernel
theorem dX12_sumOf_3 : decode cX12_sumOf 3 = .ok (.iconst 0, 1) := by decide +kernel
theorem dX12_sumOf_4 : decode cX12_sumOf 4 = .ok (.istore 5, 2) := by decide +kernel
theorem dX12_sumOf_6 : decode cX12_sumOf 6 = .ok (.iload 5, 2) := by decide +kernel
theorem dX12_sumOf_8 : decode cX12_sumOf 8 = .ok (.iload_n 2, 1) := by decide +kernel
theorem dX12_sumOf_9 : decode cX12_sumOf 9 = .ok (.if_icmp .ge 25, 3) := by decide +kernel
theorem dX12_sumOf_12 : decode cX12_sumOf 12 = .ok (.iload 4, 2) := by decide +kernel
theorem dX12_sumOf_14 : decode cX12_sumOf 14 = .ok (.aload_n 0, 1) := by decide +kernel
theorem dX12_sumOf_15 : decode cX12_sumOf 15 = .ok (.getfield 7, 3) := by decide +kernel
theorem dX12_sumOf_18 : decode cX12_sumOf 18 = .ok (.iload_n 1, 1) := by decide +kernel
theorem dX12_sumOf_19 : decode cX12_sumOf 19 = .ok (.iload_n 3, 1) := by decide +kernel
theorem dX12_sumOf_20 : decode cX12_sumOf 20 = .ok (.iload 5, 2) := by decide +kernel
theorem dX12_sumOf_22 : decode cX12_sumOf 22 = .ok (.imul, 1) := by decide +kernel
theorem dX12_sumOf_23 : decode cX12_sumOf 23 = .ok (.iadd, 1) := by decide +kernel
theorem dX12_sumOf_24 : decode cX12_sumOf 24 = .ok (.iaload, 1) := by decide +kernel
theorem dX12_sumOf_25 : decode cX12_sumOf 25 = .ok (.iadd, 1) := by decide +kernel
theorem dX12_sumOf_26 : decode cX12_sumOf 26 = .ok (.istore 4, 2) := by decide +kernel
theorem dX12_sumOf_28 : decode cX12_sumOf 28 = .ok (.iinc 5 1, 3) := by decide +kernel
theorem dX12_sumOf_31 : decode cX12_sumOf 31 = .ok (.goto (-25), 3) := by decide +kernel
theorem dX12_sumOf_34 : decode cX12_sumOf 34 = .ok (.iload 4, 2) := by decide +kernel
theorem dX12_sumOf_36 : decode cX12_sumOf 36 = .ok (.ireturn, 1) := by decide +kernel
set_option maxRecDepth 20000 in
theorem ggX12_onAny_X12_on : GoodIn wsX12_onAny wsX12_on := goodIn_r _ [6, 7, 8, 9, 5, 10, 1, 11, 12, 13, 14, 15, 16, 17, 18, 19, 20, 21, 22, 23, 24, 25, 26, 27, 28, 29, 30, 31, 32, 33] rfl (by decide +kernel)
set_option maxRecDepth 20000 in
theorem gX12_onAny_X12_on : GoodIn wsX12_onAny (wsV RX12 154 RX12 yX12_on wsX12_on) := goodIn_app (goodIn_r _ [2, 3, 4, 5] rfl (by decide +kernel)) ggX12_onAny_X12_on
theorem dX12_onAny_0 : decode cX12_onAny 0 = .ok (.iconst 0, 1) := by decide +kernel
theorem dX12_onAny_1 : decode cX12_onAny 1 = .ok (.istore_n 1, 1) := by decide +kernel
theorem dX12_onAny_2 : decode cX12_onAny 2 = .ok (.iconst 0, 1) := by decide +kernel
theorem dX12_onAny_3 : decode cX12_onAny 3 = .ok (.istore_n 2, 1) := by decide +kernel
theorem dX12_onAny_4 : decode cX12_onAny 4 = .ok (.iload_n 2, 1) := by decide +kernel
theorem dX12_onAny_5 : decode cX12_onAny 5 = .ok (.aload_n 0, 1) := by decide +kernel
theorem dX12_onAny_6 : decode cX12_onAny 6 = .ok (.getfield 7, 3) := by decide +kernel
theorem dX12_onAny_9 : decode cX12_onAny 9 = .ok (.iconst 0, 1) := by decide +kernel
theorem dX12_onAny_10 : decode cX12_onAny 10 = .ok (.iaload, 1) := by decide +kernel
theorem dX12_onAny_11 : decode cX12_onAny 11 = .ok (.if_icmp .ge 17, 3) := by decide +kernel
theorem dX12_onAny_14 : decode cX12_onAny 14 = .ok (.iload_n 1, 1) := by decide +kernel
theorem dX12_onAny_15 : decode cX12_onAny 15 = .ok (.aload_n 0, 1) := by decide +kernel
theorem dX12_onAny_16 : decode cX12_onAny 16 = .ok (.iload_n 2, 1) := by decide +kernel
theorem dX12_onAny_17 : decode cX12_onAny 17 = .ok (.invokevirtual 154, 3) := by decide +kernel
theorem dX12_onAny_20 : decode cX12_onAny 20 = .ok (.ior, 1) := by decide +kernel
theorem dX12_onAny_21 : decode cX12_onAny 21 = .ok (.istore_n 1, 1) := by decide +kernel
theorem dX12_onAny_22 : decode cX12_onAny 22 = .ok (.iinc 2 1, 3) := by decide +kernel
theorem dX12_onAny_25 : decode cX12_onAny 25 = .ok (.goto (-21), 3) := by decide +kernel
theorem dX12_onAny_28 : decode cX12_onAny 28 = .ok (.iload_n 1, 1) := by decide +kernel
theorem dX12_onAny_29 : decode cX12_onAny 29 = .ok (.ireturn, 1) := by decide +kernel
set_option maxRecDepth 20000 in
theorem ggX12_count_X12_ones : GoodIn wsX12_count wsX12_ones := goodIn_r _ [6] rfl (by decide +kernel)
set_option maxRecDepth 20000 in
theorem gX12_count_X12_ones : GoodIn wsX12_count (va_wsS RX12 157 yX12_ones wsX12_ones) := goodIn_app (goodIn_r _ [3, 4, 5] rfl (by decide +kernel)) ggX12_count_X12_ones
set_option maxRecDepth 20000 in
theorem ggX12_count_X12_sumOf : GoodIn wsX12_count wsX12_sumOf := goodIn_r _ [10, 1, 29, 30, 31, 32, 33, 34, 35, 36, 37, 38, 39, 40, 41, 42, 43, 44, 45, 46, 47, 48, 49, 50, 51] rfl (by decide +kernel)
set_option maxRecDepth 20000 in
theorem gX12_count_X12_sumOf : GoodIn wsX12_count (wsV RX12 301 RX12 yX12_sumOf wsX12_sumOf) := goodIn_app (goodIn_r _ [7, 8, 9, 5] rfl (by decide +kernel)) ggX12_count_X12_sumOf
set_option maxRecDepth 20000 in
theorem ggX12_count_X12_onAny : GoodIn wsX12_count wsX12_onAny := goodIn_r _ [14, 1, 15, 16, 17, 5, 18, 19, 20, 21, 22, 29, 30, 31, 32, 33, 34, 35, 36, 37, 38, 39, 40, 41, 42, 43, 44, 45, 46, 47, 48, 49, 50, 51] rfl (by decide +kernel)
set_option maxRecDepth 20000 in
theorem gX12_count_X12_onAny : GoodIn wsX12_count (wsV RX12 304 RX12 yX12_onAny wsX12_onAny) := goodIn_app (goodIn_r _ [11, 12, 13, 5] rfl (by decide +kernel)) ggX12_count_X12_onAny
set_option maxRecDepth 20000 in
theorem ggX12_count_X12_finds : GoodIn wsX12_count wsX12_finds := goodIn_r _ [26, 27, 28, 29, 30, 31, 32, 33, 34, 35, 36, 37, 38, 39, 40, 41, 42, 43, 44, 45, 46, 47, 48, 49, 50, 51] rfl (by decide +kernel)
set_option maxRecDepth 20000 in
theorem gX12_count_X12_finds : GoodIn wsX12_count (wsV RX12 131 RX12 yX12_finds wsX12_finds) := goodIn_app (goodIn_r _ [23, 24, 25, 5] rfl (by decide +kernel)) ggX12_count_X12_finds
theorem dX12_count_0 : decode cX12_count 0 = .ok (.iload_n 1, 1) := by decide +kernel
theorem dX12_count_1 : decode cX12_count 1 = .ok (.tableswitch 139 0 10 #[59, 59, 66, 76, 83, 98, 108, 113, 120, 127, 132], 59) := by decide +kernel
theorem dX12_count_60 : decode cX12_count 60 = .ok (.aload_n 0, 1) := by decide +kernel
theorem dX12_count_61 : decode cX12_count 61 = .ok (.getfield 7, 3) := by decide +kernel
theorem dX12_count_64 : decode cX12_count 64 = .ok (.iload_n 1, 1) := by decide +kernel
theorem dX12_count_65 : decode cX12_count 65 = .ok (.iaload, 1) := by decide +kernel
theorem dX12_count_66 : decode cX12_count 66 = .ok (.ireturn, 1) := by decide +kernel
theorem dX12_count_67 : decode cX12_count 67 = .ok (.aload_n 0, 1) := by decide +kernel
theorem dX12_count_68 : decode cX12_count 68 = .ok (.getfield 7, 3) := by decide +kernel
theorem dX12_count_71 : decode cX12_count 71 = .ok (.iconst 2, 1) := by decide +kernel
theorem dX12_count_72 : decode cX12_count 72 = .ok (.iaload, 1) := by decide +kernel
theorem dX12_count_73 : decode cX12_count 73 = .ok (.invokestatic 157, 3) := by decide +kernel
theorem dX12_count_76 : decode cX12_count 76 = .ok (.ireturn, 1) := by decide +kernel
theorem dX12_count_77 : decode cX12_count 77 = .ok (.aload_n 0, 1) := by decide +kernel
theorem dX12_count_78 : decode cX12_count 78 = .ok (.getfield 7, 3) := by decide +kernel
theorem dX12_count_81 : decode cX12_count 81 = .ok (.iconst 2, 1) := by decide +kernel
theorem dX12_count_82 : decode cX12_count 82 = .ok (.iaload, 1) := by decide +kernel
theorem dX12_count_83 : decode cX12_count 83 = .ok (.ireturn, 1) := by decide +kernel
theorem dX12_count_84 : decode cX12_count 84 = .ok (.aload_n 0, 1) := by decide +kernel
theorem dX12_count_85 : decode cX12_count 85 = .ok (.bipush 36, 2) := by decide +kernel
theorem dX12_count_87 : decode cX12_count 87 = .ok (.aload_n 0, 1) := by decide +kernel
theorem dX12_count_88 : decode cX12_count 88 = .ok (.getfield 7, 3) := by decide +kernel
theorem dX12_count_91 : decode cX12_count 91 = .ok (.iconst 0, 1) := by decide +kernel
theorem dX12_count_92 : decode cX12_count 92 = .ok (.iaload, 1) := by decide +kernel
theorem dX12_count_93 : decode cX12_count 93 = .ok (.bipush 15, 2) := by decide +kernel
theorem dX12_count_95 : decode cX12_count 95 = .ok (.invokevirtual 301, 3) := by decide +kernel
theorem dX12_count_98 : decode cX12_count 98 = .ok (.ireturn, 1) := by decide +kernel
theorem dX12_count_99 : decode cX12_count 99 = .ok (.aload_n 0, 1) := by decide +kernel
theorem dX12_count_100 : decode cX12_count 100 = .ok (.bipush 6, 2) := by decide +kernel
theorem dX12_count_102 : decode cX12_count 102 = .ok (.bipush 12, 2) := by decide +kernel
theorem dX12_count_104 : decode cX12_count 104 = .ok (.iconst 1, 1) := by decide +kernel
theorem dX12_count_105 : decode cX12_count 105 = .ok (.invokevirtual 301, 3) := by decide +kernel
theorem dX12_count_108 : decode cX12_count 108 = .ok (.ireturn, 1) := by decide +kernel
theorem dX12_count_109 : decode cX12_count 109 = .ok (.aload_n 0, 1) := by decide +kernel
theorem dX12_count_110 : decode cX12_count 110 = .ok (.invokevirtual 304, 3) := by decide +kernel
theorem dX12_count_113 : decode cX12_count 113 = .ok (.ireturn, 1) := by decide +kernel
theorem dX12_count_114 : decode cX12_count 114 = .ok (.aload_n 0, 1) := by decide +kernel
theorem dX12_count_115 : decode cX12_count 115 = .ok (.getfield 7, 3) := by decide +kernel
theorem dX12_count_118 : decode cX12_count 118 = .ok (.iconst 4, 1) := by decide +kernel
theorem dX12_count_119 : decode cX12_count 119 = .ok (.iaload, 1) := by decide +kernel
theorem dX12_count_120 : decode cX12_count 120 = .ok (.ireturn, 1) := by decide +kernel
theorem dX12_count_121 : decode cX12_count 121 = .ok (.aload_n 0, 1) := by decide +kernel
theorem dX12_count_122 : decode cX12_count 122 = .ok (.getfield 7, 3) := by decide +kernel
theorem dX12_count_125 : decode cX12_count 125 = .ok (.iconst 5, 1) := by decide +kernel
theorem dX12_count_126 : decode cX12_count 126 = .ok (.iaload, 1) := by decide +kernel
theorem dX12_count_127 : decode cX12_count 127 = .ok (.ireturn, 1) := by decide +kernel
theorem dX12_count_128 : decode cX12_count 128 = .ok (.aload_n 0, 1) := by decide +kernel
theorem dX12_count_129 : decode cX12_count 129 = .ok (.getfield 277, 3) := by decide +kernel
theorem dX12_count_132 : decode cX12_count 132 = .ok (.ireturn, 1) := by decide +kernel
theorem dX12_count_133 : decode cX12_count 133 = .ok (.aload_n 0, 1) := by decide +kernel
theorem dX12_count_134 : decode cX12_count 134 = .ok (.getfield 7, 3) := by decide +kernel
theorem dX12_count_137 : decode cX12_count 137 = .ok (.iconst 3, 1) := by decide +kernel
theorem dX12_count_138 : decode cX12_count 138 = .ok (.iaload, 1) := by decide +kernel
theorem dX12_count_139 : decode cX12_count 139 = .ok (.ireturn, 1) := by decide +kernel
theorem dX12_count_140 : decode cX12_count 140 = .ok (.aload_n 0, 1) := by decide +kernel
theorem dX12_count_141 : decode cX12_count 141 = .ok (.iconst 1, 1) := by decide +kernel
theorem dX12_count_142 : decode cX12_count 142 = .ok (.invokevirtual 131, 3) := by decide +kernel
theorem dX12_count_145 : decode cX12_count 145 = .ok (.ireturn, 1) := by decide +kernel
set_option maxRecDepth 20000 in
theorem ggX12_told_X12_in : GoodIn wsX12_told wsX12_in := goodIn_r _ [6] rfl (by decide +kernel)
set_option maxRecDepth 20000 in
theorem gX12_told_X12_in : GoodIn wsX12_told (va_wsS RX12 50 yX12_in wsX12_in) := goodIn_app (goodIn_r _ [3, 4, 5] rfl (by decide +kernel)) ggX12_told_X12_in
set_option maxRecDepth 20000 in
theorem ggX12_told_X12_finds : GoodIn wsX12_told wsX12_finds := goodIn_r _ [10, 2, 11, 12, 13, 14, 15, 16, 17, 18, 19, 20, 21, 22, 23, 24, 25, 26, 27, 28, 29, 30, 31, 32, 33, 34] rfl (by decide +kernel)
set_option maxRecDepth 20000 in
theorem gX12_told_X12_finds : GoodIn wsX12_told (wsV RX12 131 RX12 yX12_finds wsX12_finds) := goodIn_app (goodIn_r _ [7, 8, 9, 5] rfl (by decide +kernel)) ggX12_told_X12_finds
theorem dX12_told_0 : decode cX12_told 0 = .ok (.iload_n 1, 1) := by decide +kernel
theorem dX12_told_1 : decode cX12_told 1 = .ok (.i2l, 1) := by decide +kernel
theorem dX12_told_2 : decode cX12_told 2 = .ok (.lconst 1, 1) := by decide +kernel
theorem dX12_told_3 : decode cX12_told 3 = .ok (.ldc2_w 207, 3) := by decide +kernel
theorem dX12_told_6 : decode cX12_told 6 = .ok (.invokestatic 50, 3) := by decide +kernel
theorem dX12_told_9 : decode cX12_told 9 = .ok (.ifCond .eq 12, 3) := by decide +kernel
theorem dX12_told_12 : decode cX12_told 12 = .ok (.aload_n 0, 1) := by decide +kernel
theorem dX12_told_13 : decode cX12_told 13 = .ok (.getfield 19, 3) := by decide +kernel
theorem dX12_told_16 : decode cX12_told 16 = .ok (.iload_n 1, 1) := by decide +kernel
theorem dX12_told_17 : decode cX12_told 17 = .ok (.iaload, 1) := by decide +kernel
theorem dX12_told_18 : decode cX12_told 18 = .ok (.goto 8, 3) := by decide +kernel
theorem dX12_told_21 : decode cX12_told 21 = .ok (.aload_n 0, 1) := by decide +kernel
theorem dX12_told_22 : decode cX12_told 22 = .ok (.iconst 1, 1) := by decide +kernel
theorem dX12_told_23 : decode cX12_told 23 = .ok (.invokevirtual 131, 3) := by decide +kernel
theorem dX12_told_26 : decode cX12_told 26 = .ok (.ireturn, 1) := by decide +kernel
theorem dJ11_isValidCodePoint_9a6ad_0 : decode cJ11_isValidCodePoint_9a6ad 0 = .ok (.iload_n 0, 1) := by decide +kernel
theorem dJ11_isValidCodePoint_9a6ad_1 : decode cJ11_isValidCodePoint_9a6ad 1 = .ok (.bipush 16, 2) := by decide +kernel
theorem dJ11_isValidCodePoint_9a6ad_3 : decode cJ11_isValidCodePoint_9a6ad 3 = .ok (.iushr, 1) := by decide +kernel
theorem dJ11_isValidCodePoint_9a6ad_4 : decode cJ11_isValidCodePoint_9a6ad 4 = .ok (.istore_n 1, 1) := by decide +kernel
theorem dJ11_isValidCodePoint_9a6ad_5 : decode cJ11_isValidCodePoint_9a6ad 5 = .ok (.iload_n 1, 1) := by decide +kernel
theorem dJ11_isValidCodePoint_9a6ad_6 : decode cJ11_isValidCodePoint_9a6ad 6 = .ok (.bipush 17, 2) := by decide +kernel
theorem dJ11_isValidCodePoint_9a6ad_8 : decode cJ11_isValidCodePoint_9a6ad 8 = .ok (.if_icmp .ge 7, 3) := by decide +kernel
theorem dJ11_isValidCodePoint_9a6ad_11 : decode cJ11_isValidCodePoint_9a6ad 11 = .ok (.iconst 1, 1) := by decide +kernel
theorem dJ11_isValidCodePoint_9a6ad_12 : decode cJ11_isValidCodePoint_9a6ad 12 = .ok (.goto 4, 3) := by decide +kernel
theorem dJ11_isValidCodePoint_9a6ad_15 : decode cJ11_isValidCodePoint_9a6ad 15 = .ok (.iconst 0, 1) := by decide +kernel
theorem dJ11_isValidCodePoint_9a6ad_16 : decode cJ11_isValidCodePoint_9a6ad 16 = .ok (.ireturn, 1) := by decide +kernel
theorem dJ11_highSurrogate_5068e_0 : decode cJ11_highSurrogate_5068e 0 = .ok (.iload_n 0, 1) := by decide +kernel
theorem dJ11_highSurrogate_5068e_1 : decode cJ11_highSurrogate_5068e 1 = .ok (.bipush 10, 2) := by decide +kernel
theorem dJ11_highSurrogate_5068e_3 : decode cJ11_highSurrogate_5068e 3 = .ok (.iushr, 1) := by decide +kernel
theorem dJ11_highSurrogate_5068e_4 : decode cJ11_highSurrogate_5068e 4 = .ok (.ldc 110, 2) := by decide +kernel
theorem dJ11_highSurrogate_5068e_6 : decode cJ11_highSurrogate_5068e 6 = .ok (.iadd, 1) := by decide +kernel
theorem dJ11_highSurrogate_5068e_7 : decode cJ11_highSurrogate_5068e 7 = .ok (.i2c, 1) := by decide +kernel
theorem dJ11_highSurrogate_5068e_8 : decode cJ11_highSurrogate_5068e 8 = .ok (.ireturn, 1) := by decide +kernel
theorem dJ11_lowSurrogate_5068e_0 : decode cJ11_lowSurrogate_5068e 0 = .ok (.iload_n 0, 1) := by decide +kernel
theorem dJ11_lowSurrogate_5068e_1 : decode cJ11_lowSurrogate_5068e 1 = .ok (.sipush 1023, 3) := by decide +kernel
theorem dJ11_lowSurrogate_5068e_4 : decode cJ11_lowSurrogate_5068e 4 = .ok (.iand, 1) := by decide +kernel
theorem dJ11_lowSurrogate_5068e_5 : decode cJ11_lowSurrogate_5068e 5 = .ok (.ldc 76, 2) := by decide +kernel
theorem dJ11_lowSurrogate_5068e_7 : decode cJ11_lowSurrogate_5068e 7 = .ok (.iadd, 1) := by decide +kernel
theorem dJ11_lowSurrogate_5068e_8 : decode cJ11_lowSurrogate_5068e 8 = .ok (.i2c, 1) := by decide +kernel
theorem dJ11_lowSurrogate_5068e_9 : decode cJ11_lowSurrogate_5068e 9 = .ok (.ireturn, 1) := by decide +kernel
theorem dJ6_bitCount_0f7a4_0 : decode cJ6_bitCount_0f7a4 0 = .ok (.iload_n 0, 1) := by decide +kernel
theorem dJ6_bitCount_0f7a4_1 : decode cJ6_bitCount_0f7a4 1 = .ok (.iload_n 0, 1) := by decide +kernel
theorem dJ6_bitCount_0f7a4_2 : decode cJ6_bitCount_0f7a4 2 = .ok (.iconst 1, 1) := by decide +kernel
theorem dJ6_bitCount_0f7a4_3 : decode cJ6_bitCount_0f7a4 3 = .ok (.iushr, 1) := by decide +kernel
theorem dJ6_bitCount_0f7a4_4 : decode cJ6_bitCount_0f7a4 4 = .ok (.ldc_w 265, 3) := by decide +kernel
theorem dJ6_bitCount_0f7a4_7 : decode cJ6_bitCount_0f7a4 7 = .ok (.iand, 1) := by decide +kernel
theorem dJ6_bitCount_0f7a4_8 : decode cJ6_bitCount_0f7a4 8 = .ok (.isub, 1) := by decide +kernel
theorem dJ6_bitCount_0f7a4_9 : decode cJ6_bitCount_0f7a4 9 = .ok (.istore_n 0, 1) := by decide +kernel
theorem dJ6_bitCount_0f7a4_10 : decode cJ6_bitCount_0f7a4 10 = .ok (.iload_n 0, 1) := by decide +kernel
theorem dJ6_bitCount_0f7a4_11 : decode cJ6_bitCount_0f7a4 11 = .ok (.ldc_w 266, 3) := by decide +kernel
theorem dJ6_bitCount_0f7a4_14 : decode cJ6_bitCount_0f7a4 14 = .ok (.iand, 1) := by decide +kernel
theorem dJ6_bitCount_0f7a4_15 : decode cJ6_bitCount_0f7a4 15 = .ok (.iload_n 0, 1) := by decide +kernel
theorem dJ6_bitCount_0f7a4_16 : decode cJ6_bitCount_0f7a4 16 = .ok (.iconst 2, 1) := by decide +kernel
theorem dJ6_bitCount_0f7a4_17 : decode cJ6_bitCount_0f7a4 17 = .ok (.iushr, 1) := by decide +kernel
theorem dJ6_bitCount_0f7a4_18 : decode cJ6_bitCount_0f7a4 18 = .ok (.ldc_w 266, 3) := by decide +kernel
theorem dJ6_bitCount_0f7a4_21 : decode cJ6_bitCount_0f7a4 21 = .ok (.iand, 1) := by decide +kernel
theorem dJ6_bitCount_0f7a4_22 : decode cJ6_bitCount_0f7a4 22 = .ok (.iadd, 1) := by decide +kernel
theorem dJ6_bitCount_0f7a4_23 : decode cJ6_bitCount_0f7a4 23 = .ok (.istore_n 0, 1) := by decide +kernel
theorem dJ6_bitCount_0f7a4_24 : decode cJ6_bitCount_0f7a4 24 = .ok (.iload_n 0, 1) := by decide +kernel
theorem dJ6_bitCount_0f7a4_25 : decode cJ6_bitCount_0f7a4 25 = .ok (.iload_n 0, 1) := by decide +kernel
theorem dJ6_bitCount_0f7a4_26 : decode cJ6_bitCount_0f7a4 26 = .ok (.iconst 4, 1) := by decide +kernel
theorem dJ6_bitCount_0f7a4_27 : decode cJ6_bitCount_0f7a4 27 = .ok (.iushr, 1) := by decide +kernel
theorem dJ6_bitCount_0f7a4_28 : decode cJ6_bitCount_0f7a4 28 = .ok (.iadd, 1) := by decide +kernel
theorem dJ6_bitCount_0f7a4_29 : decode cJ6_bitCount_0f7a4 29 = .ok (.ldc_w 267, 3) := by decide +kernel
theorem dJ6_bitCount_0f7a4_32 : decode cJ6_bitCount_0f7a4 32 = .ok (.iand, 1) := by decide +kernel
theorem dJ6_bitCount_0f7a4_33 : decode cJ6_bitCount_0f7a4 33 = .ok (.istore_n 0, 1) := by decide +kernel
theorem dJ6_bitCount_0f7a4_34 : decode cJ6_bitCount_0f7a4 34 = .ok (.iload_n 0, 1) := by decide +kernel
theorem dJ6_bitCount_0f7a4_35 : decode cJ6_bitCount_0f7a4 35 = .ok (.iload_n 0, 1) := by decide +kernel
theorem dJ6_bitCount_0f7a4_36 : decode cJ6_bitCount_0f7a4 36 = .ok (.bipush 8, 2) := by decide +kernel
theorem dJ6_bitCount_0f7a4_38 : decode cJ6_bitCount_0f7a4 38 = .ok (.iushr, 1) := by decide +kernel
theorem dJ6_bitCount_0f7a4_39 : decode cJ6_bitCount_0f7a4 39 = .ok (.iadd, 1) := by decide +kernel
theorem dJ6_bitCount_0f7a4_40 : decode cJ6_bitCount_0f7a4 40 = .ok (.istore_n 0, 1) := by decide +kernel
theorem dJ6_bitCount_0f7a4_41 : decode cJ6_bitCount_0f7a4 41 = .ok (.iload_n 0, 1) := by decide +kernel
theorem dJ6_bitCount_0f7a4_42 : decode cJ6_bitCount_0f7a4 42 = .ok (.iload_n 0, 1) := by decide +kernel
theorem dJ6_bitCount_0f7a4_43 : decode cJ6_bitCount_0f7a4 43 = .ok (.bipush 16, 2) := by decide +kernel
theorem dJ6_bitCount_0f7a4_45 : decode cJ6_bitCount_0f7a4 45 = .ok (.iushr, 1) := by decide +kernel
theorem dJ6_bitCount_0f7a4_46 : decode cJ6_bitCount_0f7a4 46 = .ok (.iadd, 1) := by decide +kernel
theorem dJ6_bitCount_0f7a4_47 : decode cJ6_bitCount_0f7a4 47 = .ok (.istore_n 0, 1) := by decide +kernel
theorem dJ6_bitCount_0f7a4_48 : decode cJ6_bitCount_0f7a4 48 = .ok (.iload_n 0, 1) := by decide +kernel
theorem dJ6_bitCount_0f7a4_49 : decode cJ6_bitCount_0f7a4 49 = .ok (.bipush 63, 2) := by decide +kernel
theorem dJ6_bitCount_0f7a4_51 : decode cJ6_bitCount_0f7a4 51 = .ok (.iand, 1) := by decide +kernel
theorem dJ6_bitCount_0f7a4_52 : decode cJ6_bitCount_0f7a4 52 = .ok (.ireturn, 1) := by decide +kernel
theorem dJ9_floorMod_7cf53_0 : decode cJ9_floorMod_7cf53 0 = .ok (.iload_n 0, 1) := by decide +kernel
theorem dJ9_floorMod_7cf53_1 : decode cJ9_floorMod_7cf53 1 = .ok (.iload_n 1, 1) := by decide +kernel
theorem dJ9_floorMod_7cf53_2 : decode cJ9_floorMod_7cf53 2 = .ok (.irem, 1) := by decide +kernel
theorem dJ9_floorMod_7cf53_3 : decode cJ9_floorMod_7cf53 3 = .ok (.istore_n 2, 1) := by decide +kernel
theorem dJ9_floorMod_7cf53_4 : decode cJ9_floorMod_7cf53 4 = .ok (.iload_n 0, 1) := by decide +kernel
theorem dJ9_floorMod_7cf53_5 : decode cJ9_floorMod_7cf53 5 = .ok (.iload_n 1, 1) := by decide +kernel
theorem dJ9_floorMod_7cf53_6 : decode cJ9_floorMod_7cf53 6 = .ok (.ixor, 1) := by decide +kernel
theorem dJ9_floorMod_7cf53_7 : decode cJ9_floorMod_7cf53 7 = .ok (.ifCond .ge 11, 3) := by decide +kernel
theorem dJ9_floorMod_7cf53_10 : decode cJ9_floorMod_7cf53 10 = .ok (.iload_n 2, 1) := by decide +kernel
theorem dJ9_floorMod_7cf53_11 : decode cJ9_floorMod_7cf53 11 = .ok (.ifCond .eq 7, 3) := by decide +kernel
theorem dJ9_floorMod_7cf53_14 : decode cJ9_floorMod_7cf53 14 = .ok (.iload_n 2, 1) := by decide +kernel
theorem dJ9_floorMod_7cf53_15 : decode cJ9_floorMod_7cf53 15 = .ok (.iload_n 1, 1) := by decide +kernel
theorem dJ9_floorMod_7cf53_16 : decode cJ9_floorMod_7cf53 16 = .ok (.iadd, 1) := by decide +kernel
theorem dJ9_floorMod_7cf53_17 : decode cJ9_floorMod_7cf53 17 = .ok (.ireturn, 1) := by decide +kernel
theorem dJ9_floorMod_7cf53_18 : decode cJ9_floorMod_7cf53 18 = .ok (.iload_n 2, 1) := by decide +kernel
theorem dJ9_floorMod_7cf53_19 : decode cJ9_floorMod_7cf53 19 = .ok (.ireturn, 1) := by decide +kernel
theorem dJ9_max_7cf53_0 : decode cJ9_max_7cf53 0 = .ok (.iload_n 0, 1) := by decide +kernel
theorem dJ9_max_7cf53_1 : decode cJ9_max_7cf53 1 = .ok (.iload_n 1, 1) := by decide +kernel
theorem dJ9_max_7cf53_2 : decode cJ9_max_7cf53 2 = .ok (.if_icmp .lt 7, 3) := by decide +kernel
theorem dJ9_max_7cf53_5 : decode cJ9_max_7cf53 5 = .ok (.iload_n 0, 1) := by decide +kernel
theorem dJ9_max_7cf53_6 : decode cJ9_max_7cf53 6 = .ok (.goto 4, 3) := by decide +kernel
theorem dJ9_max_7cf53_9 : decode cJ9_max_7cf53 9 = .ok (.iload_n 1, 1) := by decide +kernel
theorem dJ9_max_7cf53_10 : decode cJ9_max_7cf53 10 = .ok (.ireturn, 1) := by decide +kernel
theorem dJ9_min_7cf53_0 : decode cJ9_min_7cf53 0 = .ok (.iload_n 0, 1) := by decide +kernel
theorem dJ9_min_7cf53_1 : decode cJ9_min_7cf53 1 = .ok (.iload_n 1, 1) := by decide +kernel
theorem dJ9_min_7cf53_2 : decode cJ9_min_7cf53 2 = .ok (.if_icmp .gt 7, 3) := by decide +kernel
theorem dJ9_min_7cf53_5 : decode cJ9_min_7cf53 5 = .ok (.iload_n 0, 1) := by decide +kernel
theorem dJ9_min_7cf53_6 : decode cJ9_min_7cf53 6 = .ok (.goto 4, 3) := by decide +kernel
theorem dJ9_min_7cf53_9 : decode cJ9_min_7cf53 9 = .ok (.iload_n 1, 1) := by decide +kernel
theorem dJ9_min_7cf53_10 : decode cJ9_min_7cf53 10 = .ok (.ireturn, 1) := by decide +kernel
set_option maxRecDepth 20000 in
theorem ggJ0_length_8abf5_J0_coder_7d493 : GoodIn wsJ0_length_8abf5 wsJ0_coder_7d493 := goodIn_r _ [6, 7, 8] rfl (by decide +kernel)
set_option maxRecDepth 20000 in
theorem gJ0_length_8abf5_J0_coder_7d493 : GoodIn wsJ0_length_8abf5 (wsV RJ0 335 RJ0 yJ0_coder_7d493 wsJ0_coder_7d493) := goodIn_app (goodIn_r _ [2, 3, 4, 5] rfl (by decide +kernel)) ggJ0_length_8abf5_J0_coder_7d493
theorem dJ0_length_8abf5_0 : decode cJ0_length_8abf5 0 = .ok (.aload_n 0, 1) := by decide +kernel
theorem dJ0_length_8abf5_1 : decode cJ0_length_8abf5 1 = .ok (.getfield 9, 3) := by decide +kernel
theorem dJ0_length_8abf5_4 : decode cJ0_length_8abf5 4 = .ok (.arraylength, 1) := by decide +kernel
theorem dJ0_length_8abf5_5 : decode cJ0_length_8abf5 5 = .ok (.aload_n 0, 1) := by decide +kernel
theorem dJ0_length_8abf5_6 : decode cJ0_length_8abf5 6 = .ok (.invokevirtual 335, 3) := by decide +kernel
theorem dJ0_length_8abf5_9 : decode cJ0_length_8abf5 9 = .ok (.ishr, 1) := by decide +kernel
theorem dJ0_length_8abf5_10 : decode cJ0_length_8abf5 10 = .ok (.ireturn, 1) := by decide +kernel
set_option maxRecDepth 20000 in
theorem ggJ0_indexOf_0f7a4_J0_indexOf_7cf53 : GoodIn wsJ0_indexOf_0f7a4 wsJ0_indexOf_7cf53 := goodIn_r _ [5, 6, 7, 8, 9, 4, 10, 11, 12, 13, 14, 15, 16, 17, 18, 19, 20, 21, 22, 23, 24, 25, 26, 27, 28, 29, 30, 31, 32, 33, 34, 35, 36, 37, 38, 39, 40, 41, 42, 43, 44, 45, 46, 47, 48, 49, 50, 51, 52, 53, 54, 55, 56, 57, 58, 59, 60, 61, 62, 63, 64, 65, 66, 67, 68, 69, 70, 71, 72, 73, 74, 75, 76, 77, 78, 79, 80, 81, 82, 83, 84, 85] rfl (by decide +kernel)
set_option maxRecDepth 20000 in
theorem gJ0_indexOf_0f7a4_J0_indexOf_7cf53 : GoodIn wsJ0_indexOf_0f7a4 (wsV RJ0 633 RJ0 yJ0_indexOf_7cf53 wsJ0_indexOf_7cf53) := goodIn_app (goodIn_r _ [1, 2, 3, 4] rfl (by decide +kernel)) ggJ0_indexOf_0f7a4_J0_indexOf_7cf53
theorem dJ0_indexOf_0f7a4_0 : decode cJ0_indexOf_0f7a4 0 = .ok (.aload_n 0, 1) := by decide +kernel
theorem dJ0_indexOf_0f7a4_1 : decode cJ0_indexOf_0f7a4 1 = .ok (.iload_n 1, 1) := by decide +kernel
theorem dJ0_indexOf_0f7a4_2 : decode cJ0_indexOf_0f7a4 2 = .ok (.iconst 0, 1) := by decide +kernel
theorem dJ0_indexOf_0f7a4_3 : decode cJ0_indexOf_0f7a4 3 = .ok (.invokevirtual 633, 3) := by decide +kernel
theorem dJ0_indexOf_0f7a4_6 : decode cJ0_indexOf_0f7a4 6 = .ok (.ireturn, 1) := by decide +kernel
set_option maxRecDepth 20000 in
theorem ggJ0_indexOf_7cf53_J0_isLatin1_aae02 : GoodIn wsJ0_indexOf_7cf53 wsJ0_isLatin1_aae02 := goodIn_r _ [6, 7, 8] rfl (by decide +kernel)
set_option maxRecDepth 20000 in
theorem gJ0_indexOf_7cf53_J0_isLatin1_aae02 : GoodIn wsJ0_indexOf_7cf53 (wsV RJ0 492 RJ0 yJ0_isLatin1_aae02 wsJ0_isLatin1_aae02) := goodIn_app (goodIn_r _ [2, 3, 4, 5] rfl (by decide +kernel)) ggJ0_indexOf_7cf53_J0_isLatin1_aae02
set_option maxRecDepth 20000 in
theorem ggJ0_indexOf_7cf53_J0_length_8abf5 : GoodIn wsJ0_indexOf_7cf53 wsJ0_length_8abf5 := goodIn_r _ [12, 1, 13, 14, 15, 5, 16, 7, 8] rfl (by decide +kernel)
set_option maxRecDepth 20000 in
theorem gJ0_indexOf_7cf53_J0_length_8abf5 : GoodIn wsJ0_indexOf_7cf53 (wsV RJ0 505 RJ0 yJ0_length_8abf5 wsJ0_length_8abf5) := goodIn_app (goodIn_r _ [9, 10, 11, 5] rfl (by decide +kernel)) ggJ0_indexOf_7cf53_J0_length_8abf5
set_option maxRecDepth 20000 in
theorem ggJ0_indexOf_7cf53_J1_indexOf_4cfef : GoodIn wsJ0_indexOf_7cf53 wsJ1_indexOf_4cfef := goodIn_r _ [20, 21, 22, 23, 24, 25, 26, 27, 28, 29, 19, 30, 31, 32, 33] rfl (by decide +kernel)
set_option maxRecDepth 20000 in
theorem gJ0_indexOf_7cf53_J1_indexOf_4cfef : GoodIn wsJ0_indexOf_7cf53 (va_wsS RJ0 637 yJ1_indexOf_4cfef wsJ1_indexOf_4cfef) := goodIn_app (goodIn_r _ [17, 18, 19] rfl (by decide +kernel)) ggJ0_indexOf_7cf53_J1_indexOf_4cfef
set_option maxRecDepth 20000 in
theorem ggJ0_indexOf_7cf53_J2_indexOf_4cfef : GoodIn wsJ0_indexOf_7cf53 wsJ2_indexOf_4cfef := goodIn_r _ [37, 38, 22, 23, 24, 39, 26, 27, 40, 41, 42, 36, 43, 44, 45, 46, 47, 48, 49, 50, 51, 5, 52, 53, 54, 55, 56, 57, 58, 59, 60, 61, 62, 63, 64, 65, 66, 67, 68, 69, 70, 71, 72, 73, 74, 75, 76, 77, 78, 79, 80, 81] rfl (by decide +kernel)
set_option maxRecDepth 20000 in
theorem gJ0_indexOf_7cf53_J2_indexOf_4cfef : GoodIn wsJ0_indexOf_7cf53 (va_wsS RJ0 640 yJ2_indexOf_4cfef wsJ2_indexOf_4cfef) := goodIn_app (goodIn_r _ [34, 35, 36] rfl (by decide +kernel)) ggJ0_indexOf_7cf53_J2_indexOf_4cfef
theorem dJ0_indexOf_7cf53_0 : decode cJ0_indexOf_7cf53 0 = .ok (.aload_n 0, 1) := by decide +kernel
theorem dJ0_indexOf_7cf53_1 : decode cJ0_indexOf_7cf53 1 = .ok (.invokevirtual 492, 3) := by decide +kernel
theorem dJ0_indexOf_7cf53_4 : decode cJ0_indexOf_7cf53 4 = .ok (.ifCond .eq 19, 3) := by decide +kernel
theorem dJ0_indexOf_7cf53_7 : decode cJ0_indexOf_7cf53 7 = .ok (.aload_n 0, 1) := by decide +kernel
theorem dJ0_indexOf_7cf53_8 : decode cJ0_indexOf_7cf53 8 = .ok (.getfield 9, 3) := by decide +kernel
theorem dJ0_indexOf_7cf53_11 : decode cJ0_indexOf_7cf53 11 = .ok (.iload_n 1, 1) := by decide +kernel
theorem dJ0_indexOf_7cf53_12 : decode cJ0_indexOf_7cf53 12 = .ok (.iload_n 2, 1) := by decide +kernel
theorem dJ0_indexOf_7cf53_13 : decode cJ0_indexOf_7cf53 13 = .ok (.aload_n 0, 1) := by decide +kernel
theorem dJ0_indexOf_7cf53_14 : decode cJ0_indexOf_7cf53 14 = .ok (.invokevirtual 505, 3) := by decide +kernel
theorem dJ0_indexOf_7cf53_17 : decode cJ0_indexOf_7cf53 17 = .ok (.invokestatic 637, 3) := by decide +kernel
theorem dJ0_indexOf_7cf53_20 : decode cJ0_indexOf_7cf53 20 = .ok (.goto 16, 3) := by decide +kernel
theorem dJ0_indexOf_7cf53_23 : decode cJ0_indexOf_7cf53 23 = .ok (.aload_n 0, 1) := by decide +kernel
theorem dJ0_indexOf_7cf53_24 : decode cJ0_indexOf_7cf53 24 = .ok (.getfield 9, 3) := by decide +kernel
theorem dJ0_indexOf_7cf53_27 : decode cJ0_indexOf_7cf53 27 = .ok (.iload_n 1, 1) := by decide +kernel
theorem dJ0_indexOf_7cf53_28 : decode cJ0_indexOf_7cf53 28 = .ok (.iload_n 2, 1) := by decide +kernel
theorem dJ0_indexOf_7cf53_29 : decode cJ0_indexOf_7cf53 29 = .ok (.aload_n 0, 1) := by decide +kernel
theorem dJ0_indexOf_7cf53_30 : decode cJ0_indexOf_7cf53 30 = .ok (.invokevirtual 505, 3) := by decide +kernel
theorem dJ0_indexOf_7cf53_33 : decode cJ0_indexOf_7cf53 33 = .ok (.invokestatic 640, 3) := by decide +kernel
theorem dJ0_indexOf_7cf53_36 : decode cJ0_indexOf_7cf53 36 = .ok (.ireturn, 1) := by decide +kernel
theorem dJ0_coder_7d493_0 : decode cJ0_coder_7d493 0 = .ok (.getstatic 38, 3) := by decide +kernel
theorem dJ0_coder_7d493_3 : decode cJ0_coder_7d493 3 = .ok (.ifCond .eq 10, 3) := by decide +kernel
theorem dJ0_coder_7d493_6 : decode cJ0_coder_7d493 6 = .ok (.aload_n 0, 1) := by decide +kernel
theorem dJ0_coder_7d493_7 : decode cJ0_coder_7d493 7 = .ok (.getfield 15, 3) := by decide +kernel
theorem dJ0_coder_7d493_10 : decode cJ0_coder_7d493 10 = .ok (.goto 4, 3) := by decide +kernel
theorem dJ0_coder_7d493_13 : decode cJ0_coder_7d493 13 = .ok (.iconst 1, 1) := by decide +kernel
theorem dJ0_coder_7d493_14 : decode cJ0_coder_7d493 14 = .ok (.ireturn, 1) := by decide +kernel
theorem dJ0_isLatin1_aae02_0 : decode cJ0_isLatin1_aae02 0 = .ok (.getstatic 38, 3) := by decide +kernel
theorem dJ0_isLatin1_aae02_3 : decode cJ0_isLatin1_aae02 3 = .ok (.ifCond .eq 14, 3) := by decide +kernel
theorem dJ0_isLatin1_aae02_6 : decode cJ0_isLatin1_aae02 6 = .ok (.aload_n 0, 1) := by decide +kernel
theorem dJ0_isLatin1_aae02_7 : decode cJ0_isLatin1_aae02 7 = .ok (.getfield 15, 3) := by decide +kernel
theorem dJ0_isLatin1_aae02_10 : decode cJ0_isLatin1_aae02 10 = .ok (.ifCond .ne 7, 3) := by decide +kernel
theorem dJ0_isLatin1_aae02_13 : decode cJ0_isLatin1_aae02 13 = .ok (.iconst 1, 1) := by decide +kernel
theorem dJ0_isLatin1_aae02_14 : decode cJ0_isLatin1_aae02 14 = .ok (.goto 4, 3) := by decide +kernel
theorem dJ0_isLatin1_aae02_17 : decode cJ0_isLatin1_aae02 17 = .ok (.iconst 0, 1) := by decide +kernel
theorem dJ0_isLatin1_aae02_18 : decode cJ0_isLatin1_aae02 18 = .ok (.ireturn, 1) := by decide +kernel
set_option maxRecDepth 20000 in
theorem ggJ0_checkBoundsBeginEnd_23922_J3_checkFromToIndex_8c36e : GoodIn wsJ0_checkBoundsBeginEnd_23922 wsJ3_checkFromToIndex_8c36e := goodIn_r _ [5] rfl (by decide +kernel)
set_option maxRecDepth 20000 in
theorem gJ0_checkBoundsBeginEnd_23922_J3_checkFromToIndex_8c36e : GoodIn wsJ0_checkBoundsBeginEnd_23922 (va_wsS RJ0 1062 yJ3_checkFromToIndex_8c36e wsJ3_checkFromToIndex_8c36e) := goodIn_app (goodIn_r _ [2, 3, 4] rfl (by decide +kernel)) ggJ0_checkBoundsBeginEnd_23922_J3_checkFromToIndex_8c36e
theorem dJ0_checkBoundsBeginEnd_23922_0 : decode cJ0_checkBoundsBeginEnd_23922 0 = .ok (.iload_n 0, 1) := by decide +kernel
theorem dJ0_checkBoundsBeginEnd_23922_1 : decode cJ0_checkBoundsBeginEnd_23922 1 = .ok (.iload_n 1, 1) := by decide +kernel
theorem dJ0_checkBoundsBeginEnd_23922_2 : decode cJ0_checkBoundsBeginEnd_23922 2 = .ok (.iload_n 2, 1) := by decide +kernel
theorem dJ0_checkBoundsBeginEnd_23922_3 : decode cJ0_checkBoundsBeginEnd_23922 3 = .ok (.getstatic 1053, 3) := by decide +kernel
theorem dJ0_checkBoundsBeginEnd_23922_6 : decode cJ0_checkBoundsBeginEnd_23922 6 = .ok (.invokestatic 1062, 3) := by decide +kernel
theorem dJ0_checkBoundsBeginEnd_23922_9 : decode cJ0_checkBoundsBeginEnd_23922 9 = .ok (.pop, 1) := by decide +kernel
theorem dJ0_checkBoundsBeginEnd_23922_10 : decode cJ0_checkBoundsBeginEnd_23922 10 = .ok (.return_, 1) := by decide +kernel
theorem dJ1_canEncode_9a6ad_0 : decode cJ1_canEncode_9a6ad 0 = .ok (.iload_n 0, 1) := by decide +kernel
theorem dJ1_canEncode_9a6ad_1 : decode cJ1_canEncode_9a6ad 1 = .ok (.ifCond .lt 14, 3) := by decide +kernel
theorem dJ1_canEncode_9a6ad_4 : decode cJ1_canEncode_9a6ad 4 = .ok (.iload_n 0, 1) := by decide +kernel
theorem dJ1_canEncode_9a6ad_5 : decode cJ1_canEncode_9a6ad 5 = .ok (.sipush 255, 3) := by decide +kernel
theorem dJ1_canEncode_9a6ad_8 : decode cJ1_canEncode_9a6ad 8 = .ok (.if_icmp .gt 7, 3) := by decide +kernel
theorem dJ1_canEncode_9a6ad_11 : decode cJ1_canEncode_9a6ad 11 = .ok (.iconst 1, 1) := by decide +kernel
theorem dJ1_canEncode_9a6ad_12 : decode cJ1_canEncode_9a6ad 12 = .ok (.goto 4, 3) := by decide +kernel
theorem dJ1_canEncode_9a6ad_15 : decode cJ1_canEncode_9a6ad 15 = .ok (.iconst 0, 1) := by decide +kernel
theorem dJ1_canEncode_9a6ad_16 : decode cJ1_canEncode_9a6ad 16 = .ok (.ireturn, 1) := by decide +kernel
set_option maxRecDepth 20000 in
theorem ggJ1_indexOf_4cfef_J1_canEncode_9a6ad : GoodIn wsJ1_indexOf_4cfef wsJ1_canEncode_9a6ad := goodIn_r _ [11] rfl (by decide +kernel)
set_option maxRecDepth 20000 in
theorem gJ1_indexOf_4cfef_J1_canEncode_9a6ad : GoodIn wsJ1_indexOf_4cfef (va_wsS RJ1 88 yJ1_canEncode_9a6ad wsJ1_canEncode_9a6ad) := goodIn_app (goodIn_r _ [8, 9, 10] rfl (by decide +kernel)) ggJ1_indexOf_4cfef_J1_canEncode_9a6ad
set_option maxRecDepth 20000 in
theorem ggJ1_indexOf_4cfef_J1_indexOfChar_4cfef : GoodIn wsJ1_indexOf_4cfef wsJ1_indexOfChar_4cfef := goodIn_r _ [14] rfl (by decide +kernel)
set_option maxRecDepth 20000 in
theorem gJ1_indexOf_4cfef_J1_indexOfChar_4cfef : GoodIn wsJ1_indexOf_4cfef (va_wsS RJ1 95 yJ1_indexOfChar_4cfef wsJ1_indexOfChar_4cfef) := goodIn_app (goodIn_r _ [12, 13, 10] rfl (by decide +kernel)) ggJ1_indexOf_4cfef_J1_indexOfChar_4cfef
theorem dJ1_indexOf_4cfef_0 : decode cJ1_indexOf_4cfef 0 = .ok (.iload_n 1, 1) := by decide +kernel
theorem dJ1_indexOf_4cfef_1 : decode cJ1_indexOf_4cfef 1 = .ok (.invokestatic 88, 3) := by decide +kernel
theorem dJ1_indexOf_4cfef_4 : decode cJ1_indexOf_4cfef 4 = .ok (.ifCond .ne 5, 3) := by decide +kernel
theorem dJ1_indexOf_4cfef_7 : decode cJ1_indexOf_4cfef 7 = .ok (.iconst (-1), 1) := by decide +kernel
theorem dJ1_indexOf_4cfef_8 : decode cJ1_indexOf_4cfef 8 = .ok (.ireturn, 1) := by decide +kernel
theorem dJ1_indexOf_4cfef_9 : decode cJ1_indexOf_4cfef 9 = .ok (.iload_n 2, 1) := by decide +kernel
theorem dJ1_indexOf_4cfef_10 : decode cJ1_indexOf_4cfef 10 = .ok (.iconst 0, 1) := by decide +kernel
theorem dJ1_indexOf_4cfef_11 : decode cJ1_indexOf_4cfef 11 = .ok (.invokestatic 92, 3) := by decide +kernel
theorem dJ1_indexOf_4cfef_14 : decode cJ1_indexOf_4cfef 14 = .ok (.istore_n 2, 1) := by decide +kernel
theorem dJ1_indexOf_4cfef_15 : decode cJ1_indexOf_4cfef 15 = .ok (.iload_n 3, 1) := by decide +kernel
theorem dJ1_indexOf_4cfef_16 : decode cJ1_indexOf_4cfef 16 = .ok (.aload_n 0, 1) := by decide +kernel
theorem dJ1_indexOf_4cfef_17 : decode cJ1_indexOf_4cfef 17 = .ok (.arraylength, 1) := by decide +kernel
theorem dJ1_indexOf_4cfef_18 : decode cJ1_indexOf_4cfef 18 = .ok (.invokestatic 38, 3) := by decide +kernel
theorem dJ1_indexOf_4cfef_21 : decode cJ1_indexOf_4cfef 21 = .ok (.istore_n 3, 1) := by decide +kernel
theorem dJ1_indexOf_4cfef_22 : decode cJ1_indexOf_4cfef 22 = .ok (.iload_n 2, 1) := by decide +kernel
theorem dJ1_indexOf_4cfef_23 : decode cJ1_indexOf_4cfef 23 = .ok (.iload_n 3, 1) := by decide +kernel
theorem dJ1_indexOf_4cfef_24 : decode cJ1_indexOf_4cfef 24 = .ok (.if_icmp .lt 5, 3) := by decide +kernel
theorem dJ1_indexOf_4cfef_27 : decode cJ1_indexOf_4cfef 27 = .ok (.iconst (-1), 1) := by decide +kernel
theorem dJ1_indexOf_4cfef_28 : decode cJ1_indexOf_4cfef 28 = .ok (.ireturn, 1) := by decide +kernel
theorem dJ1_indexOf_4cfef_29 : decode cJ1_indexOf_4cfef 29 = .ok (.aload_n 0, 1) := by decide +kernel
theorem dJ1_indexOf_4cfef_30 : decode cJ1_indexOf_4cfef 30 = .ok (.iload_n 1, 1) := by decide +kernel
theorem dJ1_indexOf_4cfef_31 : decode cJ1_indexOf_4cfef 31 = .ok (.iload_n 2, 1) := by decide +kernel
theorem dJ1_indexOf_4cfef_32 : decode cJ1_indexOf_4cfef 32 = .ok (.iload_n 3, 1) := by decide +kernel
theorem dJ1_indexOf_4cfef_33 : decode cJ1_indexOf_4cfef 33 = .ok (.invokestatic 95, 3) := by decide +kernel
theorem dJ1_indexOf_4cfef_36 : decode cJ1_indexOf_4cfef 36 = .ok (.ireturn, 1) := by decide +kernel
theorem dJ1_indexOfChar_4cfef_0 : decode cJ1_indexOfChar_4cfef 0 = .ok (.iload_n 1, 1) := by decide +kernel
theorem dJ1_indexOfChar_4cfef_1 : decode cJ1_indexOfChar_4cfef 1 = .ok (.i2b, 1) := by decide +kernel
theorem dJ1_indexOfChar_4cfef_2 : decode cJ1_indexOfChar_4cfef 2 = .ok (.istore 4, 2) := by decide +kernel
theorem dJ1_indexOfChar_4cfef_4 : decode cJ1_indexOfChar_4cfef 4 = .ok (.iload_n 2, 1) := by decide +kernel
theorem dJ1_indexOfChar_4cfef_5 : decode cJ1_indexOfChar_4cfef 5 = .ok (.istore 5, 2) := by decide +kernel
theorem dJ1_indexOfChar_4cfef_7 : decode cJ1_indexOfChar_4cfef 7 = .ok (.iload 5, 2) := by decide +kernel
theorem dJ1_indexOfChar_4cfef_9 : decode cJ1_indexOfChar_4cfef 9 = .ok (.iload_n 3, 1) := by decide +kernel
theorem dJ1_indexOfChar_4cfef_10 : decode cJ1_indexOfChar_4cfef 10 = .ok (.if_icmp .ge 21, 3) := by decide +kernel
theorem dJ1_indexOfChar_4cfef_13 : decode cJ1_indexOfChar_4cfef 13 = .ok (.aload_n 0, 1) := by decide +kernel
theorem dJ1_indexOfChar_4cfef_14 : decode cJ1_indexOfChar_4cfef 14 = .ok (.iload 5, 2) := by decide +kernel
theorem dJ1_indexOfChar_4cfef_16 : decode cJ1_indexOfChar_4cfef 16 = .ok (.baload, 1) := by decide +kernel
theorem dJ1_indexOfChar_4cfef_17 : decode cJ1_indexOfChar_4cfef 17 = .ok (.iload 4, 2) := by decide +kernel
theorem dJ1_indexOfChar_4cfef_19 : decode cJ1_indexOfChar_4cfef 19 = .ok (.if_icmp .ne 6, 3) := by decide +kernel
theorem dJ1_indexOfChar_4cfef_22 : decode cJ1_indexOfChar_4cfef 22 = .ok (.iload 5, 2) := by decide +kernel
theorem dJ1_indexOfChar_4cfef_24 : decode cJ1_indexOfChar_4cfef 24 = .ok (.ireturn, 1) := by decide +kernel
theorem dJ1_indexOfChar_4cfef_25 : decode cJ1_indexOfChar_4cfef 25 = .ok (.iinc 5 1, 3) := by decide +kernel
theorem dJ1_indexOfChar_4cfef_28 : decode cJ1_indexOfChar_4cfef 28 = .ok (.goto (-21), 3) := by decide +kernel
theorem dJ1_indexOfChar_4cfef_31 : decode cJ1_indexOfChar_4cfef 31 = .ok (.iconst (-1), 1) := by decide +kernel
theorem dJ1_indexOfChar_4cfef_32 : decode cJ1_indexOfChar_4cfef 32 = .ok (.ireturn, 1) := by decide +kernel
set_option maxRecDepth 20000 in
theorem ggJ2_getChar_3b067_J2_length_9d52b : GoodIn wsJ2_getChar_3b067 wsJ2_length_9d52b := goodIn_r _ [7] rfl (by decide +kernel)
set_option maxRecDepth 20000 in
theorem gJ2_getChar_3b067_J2_length_9d52b : GoodIn wsJ2_getChar_3b067 (va_wsS RJ2 48 yJ2_length_9d52b wsJ2_length_9d52b) := goodIn_app (goodIn_r _ [4, 5, 6] rfl (by decide +kernel)) ggJ2_getChar_3b067_J2_length_9d52b
theorem dJ2_getChar_3b067_0 : decode cJ2_getChar_3b067 0 = .ok (.getstatic 44, 3) := by decide +kernel
theorem dJ2_getChar_3b067_3 : decode cJ2_getChar_3b067 3 = .ok (.ifCond .ne 25, 3) := by decide +kernel
theorem dJ2_getChar_3b067_6 : decode cJ2_getChar_3b067 6 = .ok (.iload_n 1, 1) := by decide +kernel
theorem dJ2_getChar_3b067_7 : decode cJ2_getChar_3b067 7 = .ok (.ifCond .lt 11, 3) := by decide +kernel
theorem dJ2_getChar_3b067_10 : decode cJ2_getChar_3b067 10 = .ok (.iload_n 1, 1) := by decide +kernel
theorem dJ2_getChar_3b067_11 : decode cJ2_getChar_3b067 11 = .ok (.aload_n 0, 1) := by decide +kernel
theorem dJ2_getChar_3b067_12 : decode cJ2_getChar_3b067 12 = .ok (.invokestatic 48, 3) := by decide +kernel
theorem dJ2_getChar_3b067_15 : decode cJ2_getChar_3b067 15 = .ok (.if_icmp .lt 13, 3) := by decide +kernel
theorem dJ2_getChar_3b067_18 : decode cJ2_getChar_3b067 18 = .ok (.new 52, 3) := by decide +kernel
theorem dJ2_getChar_3b067_21 : decode cJ2_getChar_3b067 21 = .ok (.dup, 1) := by decide +kernel
theorem dJ2_getChar_3b067_22 : decode cJ2_getChar_3b067 22 = .ok (.ldc 54, 2) := by decide +kernel
theorem dJ2_getChar_3b067_24 : decode cJ2_getChar_3b067 24 = .ok (.invokespecial 56, 3) := by decide +kernel
theorem dJ2_getChar_3b067_27 : decode cJ2_getChar_3b067 27 = .ok (.athrow, 1) := by decide +kernel
theorem dJ2_getChar_3b067_28 : decode cJ2_getChar_3b067 28 = .ok (.iload_n 1, 1) := by decide +kernel
theorem dJ2_getChar_3b067_29 : decode cJ2_getChar_3b067 29 = .ok (.iconst 1, 1) := by decide +kernel
theorem dJ2_getChar_3b067_30 : decode cJ2_getChar_3b067 30 = .ok (.ishl, 1) := by decide +kernel
theorem dJ2_getChar_3b067_31 : decode cJ2_getChar_3b067 31 = .ok (.istore_n 1, 1) := by decide +kernel
theorem dJ2_getChar_3b067_32 : decode cJ2_getChar_3b067 32 = .ok (.aload_n 0, 1) := by decide +kernel
theorem dJ2_getChar_3b067_33 : decode cJ2_getChar_3b067 33 = .ok (.iload_n 1, 1) := by decide +kernel
theorem dJ2_getChar_3b067_34 : decode cJ2_getChar_3b067 34 = .ok (.iinc 1 1, 3) := by decide +kernel
theorem dJ2_getChar_3b067_37 : decode cJ2_getChar_3b067 37 = .ok (.baload, 1) := by decide +kernel
theorem dJ2_getChar_3b067_38 : decode cJ2_getChar_3b067 38 = .ok (.sipush 255, 3) := by decide +kernel
theorem dJ2_getChar_3b067_41 : decode cJ2_getChar_3b067 41 = .ok (.iand, 1) := by decide +kernel
theorem dJ2_getChar_3b067_42 : decode cJ2_getChar_3b067 42 = .ok (.getstatic 59, 3) := by decide +kernel
theorem dJ2_getChar_3b067_45 : decode cJ2_getChar_3b067 45 = .ok (.ishl, 1) := by decide +kernel
theorem dJ2_getChar_3b067_46 : decode cJ2_getChar_3b067 46 = .ok (.aload_n 0, 1) := by decide +kernel
theorem dJ2_getChar_3b067_47 : decode cJ2_getChar_3b067 47 = .ok (.iload_n 1, 1) := by decide +kernel
theorem dJ2_getChar_3b067_48 : decode cJ2_getChar_3b067 48 = .ok (.baload, 1) := by decide +kernel
theorem dJ2_getChar_3b067_49 : decode cJ2_getChar_3b067 49 = .ok (.sipush 255, 3) := by decide +kernel
theorem dJ2_getChar_3b067_52 : decode cJ2_getChar_3b067 52 = .ok (.iand, 1) := by decide +kernel
theorem dJ2_getChar_3b067_53 : decode cJ2_getChar_3b067 53 = .ok (.getstatic 63, 3) := by decide +kernel
theorem dJ2_getChar_3b067_56 : decode cJ2_getChar_3b067 56 = .ok (.ishl, 1) := by decide +kernel
theorem dJ2_getChar_3b067_57 : decode cJ2_getChar_3b067 57 = .ok (.ior, 1) := by decide +kernel
theorem dJ2_getChar_3b067_58 : decode cJ2_getChar_3b067 58 = .ok (.i2c, 1) := by decide +kernel
theorem dJ2_getChar_3b067_59 : decode cJ2_getChar_3b067 59 = .ok (.ireturn, 1) := by decide +kernel
theorem dJ2_length_9d52b_0 : decode cJ2_length_9d52b 0 = .ok (.aload_n 0, 1) := by decide +kernel
theorem dJ2_length_9d52b_1 : decode cJ2_length_9d52b 1 = .ok (.arraylength, 1) := by decide +kernel
theorem dJ2_length_9d52b_2 : decode cJ2_length_9d52b 2 = .ok (.iconst 1, 1) := by decide +kernel
theorem dJ2_length_9d52b_3 : decode cJ2_length_9d52b 3 = .ok (.ishr, 1) := by decide +kernel
theorem dJ2_length_9d52b_4 : decode cJ2_length_9d52b 4 = .ok (.ireturn, 1) := by decide +kernel
set_option maxRecDepth 20000 in
theorem ggJ2_indexOf_4cfef_J2_indexOfChar_4cfef : GoodIn wsJ2_indexOf_4cfef wsJ2_indexOfChar_4cfef := goodIn_r _ [12, 13, 14, 11, 15, 16, 17, 18, 19, 20, 21, 22, 23, 24, 25, 26, 27, 28, 29, 30, 31, 32, 33, 34, 35, 36] rfl (by decide +kernel)
set_option maxRecDepth 20000 in
theorem gJ2_indexOf_4cfef_J2_indexOfChar_4cfef : GoodIn wsJ2_indexOf_4cfef (va_wsS RJ2 228 yJ2_indexOfChar_4cfef wsJ2_indexOfChar_4cfef) := goodIn_app (goodIn_r _ [9, 10, 11] rfl (by decide +kernel)) ggJ2_indexOf_4cfef_J2_indexOfChar_4cfef
set_option maxRecDepth 20000 in
theorem ggJ2_indexOf_4cfef_J2_indexOfSupplementary_4cfef : GoodIn wsJ2_indexOf_4cfef wsJ2_indexOfSupplementary_4cfef := goodIn_r _ [39, 40, 41, 42, 43, 44, 45, 46, 47, 48, 49, 50, 51, 13, 14, 11, 15, 16, 17, 18, 19, 20, 21, 22, 23, 24, 25, 26, 27, 31, 32, 33, 34, 35, 36] rfl (by decide +kernel)
set_option maxRecDepth 20000 in
theorem gJ2_indexOf_4cfef_J2_indexOfSupplementary_4cfef : GoodIn wsJ2_indexOf_4cfef (va_wsS RJ2 232 yJ2_indexOfSupplementary_4cfef wsJ2_indexOfSupplementary_4cfef) := goodIn_app (goodIn_r _ [37, 38, 11] rfl (by decide +kernel)) ggJ2_indexOf_4cfef_J2_indexOfSupplementary_4cfef
theorem dJ2_indexOf_4cfef_0 : decode cJ2_indexOf_4cfef 0 = .ok (.iload_n 2, 1) := by decide +kernel
theorem dJ2_indexOf_4cfef_1 : decode cJ2_indexOf_4cfef 1 = .ok (.iconst 0, 1) := by decide +kernel
theorem dJ2_indexOf_4cfef_2 : decode cJ2_indexOf_4cfef 2 = .ok (.invokestatic 224, 3) := by decide +kernel
theorem dJ2_indexOf_4cfef_5 : decode cJ2_indexOf_4cfef 5 = .ok (.istore_n 2, 1) := by decide +kernel
theorem dJ2_indexOf_4cfef_6 : decode cJ2_indexOf_4cfef 6 = .ok (.iload_n 3, 1) := by decide +kernel
theorem dJ2_indexOf_4cfef_7 : decode cJ2_indexOf_4cfef 7 = .ok (.aload_n 0, 1) := by decide +kernel
theorem dJ2_indexOf_4cfef_8 : decode cJ2_indexOf_4cfef 8 = .ok (.arraylength, 1) := by decide +kernel
theorem dJ2_indexOf_4cfef_9 : decode cJ2_indexOf_4cfef 9 = .ok (.iconst 1, 1) := by decide +kernel
theorem dJ2_indexOf_4cfef_10 : decode cJ2_indexOf_4cfef 10 = .ok (.ishr, 1) := by decide +kernel
theorem dJ2_indexOf_4cfef_11 : decode cJ2_indexOf_4cfef 11 = .ok (.invokestatic 183, 3) := by decide +kernel
theorem dJ2_indexOf_4cfef_14 : decode cJ2_indexOf_4cfef 14 = .ok (.istore_n 3, 1) := by decide +kernel
theorem dJ2_indexOf_4cfef_15 : decode cJ2_indexOf_4cfef 15 = .ok (.iload_n 2, 1) := by decide +kernel
theorem dJ2_indexOf_4cfef_16 : decode cJ2_indexOf_4cfef 16 = .ok (.iload_n 3, 1) := by decide +kernel
theorem dJ2_indexOf_4cfef_17 : decode cJ2_indexOf_4cfef 17 = .ok (.if_icmp .lt 5, 3) := by decide +kernel
theorem dJ2_indexOf_4cfef_20 : decode cJ2_indexOf_4cfef 20 = .ok (.iconst (-1), 1) := by decide +kernel
theorem dJ2_indexOf_4cfef_21 : decode cJ2_indexOf_4cfef 21 = .ok (.ireturn, 1) := by decide +kernel
theorem dJ2_indexOf_4cfef_22 : decode cJ2_indexOf_4cfef 22 = .ok (.iload_n 1, 1) := by decide +kernel
theorem dJ2_indexOf_4cfef_23 : decode cJ2_indexOf_4cfef 23 = .ok (.ldc 227, 2) := by decide +kernel
theorem dJ2_indexOf_4cfef_25 : decode cJ2_indexOf_4cfef 25 = .ok (.if_icmp .ge 11, 3) := by decide +kernel
theorem dJ2_indexOf_4cfef_28 : decode cJ2_indexOf_4cfef 28 = .ok (.aload_n 0, 1) := by decide +kernel
theorem dJ2_indexOf_4cfef_29 : decode cJ2_indexOf_4cfef 29 = .ok (.iload_n 1, 1) := by decide +kernel
theorem dJ2_indexOf_4cfef_30 : decode cJ2_indexOf_4cfef 30 = .ok (.iload_n 2, 1) := by decide +kernel
theorem dJ2_indexOf_4cfef_31 : decode cJ2_indexOf_4cfef 31 = .ok (.iload_n 3, 1) := by decide +kernel
theorem dJ2_indexOf_4cfef_32 : decode cJ2_indexOf_4cfef 32 = .ok (.invokestatic 228, 3) := by decide +kernel
theorem dJ2_indexOf_4cfef_35 : decode cJ2_indexOf_4cfef 35 = .ok (.ireturn, 1) := by decide +kernel
theorem dJ2_indexOf_4cfef_36 : decode cJ2_indexOf_4cfef 36 = .ok (.aload_n 0, 1) := by decide +kernel
theorem dJ2_indexOf_4cfef_37 : decode cJ2_indexOf_4cfef 37 = .ok (.iload_n 1, 1) := by decide +kernel
theorem dJ2_indexOf_4cfef_38 : decode cJ2_indexOf_4cfef 38 = .ok (.iload_n 2, 1) := by decide +kernel
theorem dJ2_indexOf_4cfef_39 : decode cJ2_indexOf_4cfef 39 = .ok (.iload_n 3, 1) := by decide +kernel
theorem dJ2_indexOf_4cfef_40 : decode cJ2_indexOf_4cfef 40 = .ok (.invokestatic 232, 3) := by decide +kernel
theorem dJ2_indexOf_4cfef_43 : decode cJ2_indexOf_4cfef 43 = .ok (.ireturn, 1) := by decide +kernel
set_option maxRecDepth 20000 in
theorem ggJ2_indexOfChar_4cfef_J2_checkBoundsBeginEnd_d044e : GoodIn wsJ2_indexOfChar_4cfef wsJ2_checkBoundsBeginEnd_d044e := goodIn_r _ [4, 5, 6, 3, 7, 8, 9, 10, 11, 12, 13, 14, 15, 16] rfl (by decide +kernel)
set_option maxRecDepth 20000 in
theorem gJ2_indexOfChar_4cfef_J2_checkBoundsBeginEnd_d044e : GoodIn wsJ2_indexOfChar_4cfef (va_wsS RJ2 96 yJ2_checkBoundsBeginEnd_d044e wsJ2_checkBoundsBeginEnd_d044e) := goodIn_app (goodIn_r _ [1, 2, 3] rfl (by decide +kernel)) ggJ2_indexOfChar_4cfef_J2_checkBoundsBeginEnd_d044e
set_option maxRecDepth 20000 in
theorem ggJ2_indexOfChar_4cfef_J2_indexOfCharUnsafe_4cfef : GoodIn wsJ2_indexOfChar_4cfef wsJ2_indexOfCharUnsafe_4cfef := goodIn_r _ [19, 20, 21, 3, 22, 23, 24, 25, 5, 6, 7] rfl (by decide +kernel)
set_option maxRecDepth 20000 in
theorem gJ2_indexOfChar_4cfef_J2_indexOfCharUnsafe_4cfef : GoodIn wsJ2_indexOfChar_4cfef (va_wsS RJ2 244 yJ2_indexOfCharUnsafe_4cfef wsJ2_indexOfCharUnsafe_4cfef) := goodIn_app (goodIn_r _ [17, 18, 3] rfl (by decide +kernel)) ggJ2_indexOfChar_4cfef_J2_indexOfCharUnsafe_4cfef
theorem dJ2_indexOfChar_4cfef_0 : decode cJ2_indexOfChar_4cfef 0 = .ok (.iload_n 2, 1) := by decide +kernel
theorem dJ2_indexOfChar_4cfef_1 : decode cJ2_indexOfChar_4cfef 1 = .ok (.iload_n 3, 1) := by decide +kernel
theorem dJ2_indexOfChar_4cfef_2 : decode cJ2_indexOfChar_4cfef 2 = .ok (.aload_n 0, 1) := by decide +kernel
theorem dJ2_indexOfChar_4cfef_3 : decode cJ2_indexOfChar_4cfef 3 = .ok (.invokestatic 96, 3) := by decide +kernel
theorem dJ2_indexOfChar_4cfef_6 : decode cJ2_indexOfChar_4cfef 6 = .ok (.aload_n 0, 1) := by decide +kernel
theorem dJ2_indexOfChar_4cfef_7 : decode cJ2_indexOfChar_4cfef 7 = .ok (.iload_n 1, 1) := by decide +kernel
theorem dJ2_indexOfChar_4cfef_8 : decode cJ2_indexOfChar_4cfef 8 = .ok (.iload_n 2, 1) := by decide +kernel
theorem dJ2_indexOfChar_4cfef_9 : decode cJ2_indexOfChar_4cfef 9 = .ok (.iload_n 3, 1) := by decide +kernel
theorem dJ2_indexOfChar_4cfef_10 : decode cJ2_indexOfChar_4cfef 10 = .ok (.invokestatic 244, 3) := by decide +kernel
theorem dJ2_indexOfChar_4cfef_13 : decode cJ2_indexOfChar_4cfef 13 = .ok (.ireturn, 1) := by decide +kernel
set_option maxRecDepth 20000 in
theorem ggJ2_indexOfCharUnsafe_4cfef_J2_getChar_3b067 : GoodIn wsJ2_indexOfCharUnsafe_4cfef wsJ2_getChar_3b067 := goodIn_r _ [4, 5, 6, 7, 8, 9, 3, 10] rfl (by decide +kernel)
set_option maxRecDepth 20000 in
theorem gJ2_indexOfCharUnsafe_4cfef_J2_getChar_3b067 : GoodIn wsJ2_indexOfCharUnsafe_4cfef (va_wsS RJ2 71 yJ2_getChar_3b067 wsJ2_getChar_3b067) := goodIn_app (goodIn_r _ [1, 2, 3] rfl (by decide +kernel)) ggJ2_indexOfCharUnsafe_4cfef_J2_getChar_3b067
theorem dJ2_indexOfCharUnsafe_4cfef_0 : decode cJ2_indexOfCharUnsafe_4cfef 0 = .ok (.iload_n 2, 1) := by decide +kernel
theorem dJ2_indexOfCharUnsafe_4cfef_1 : decode cJ2_indexOfCharUnsafe_4cfef 1 = .ok (.istore 4, 2) := by decide +kernel
theorem dJ2_indexOfCharUnsafe_4cfef_3 : decode cJ2_indexOfCharUnsafe_4cfef 3 = .ok (.iload 4, 2) := by decide +kernel
theorem dJ2_indexOfCharUnsafe_4cfef_5 : decode cJ2_indexOfCharUnsafe_4cfef 5 = .ok (.iload_n 3, 1) := by decide +kernel
theorem dJ2_indexOfCharUnsafe_4cfef_6 : decode cJ2_indexOfCharUnsafe_4cfef 6 = .ok (.if_icmp .ge 22, 3) := by decide +kernel
theorem dJ2_indexOfCharUnsafe_4cfef_9 : decode cJ2_indexOfCharUnsafe_4cfef 9 = .ok (.aload_n 0, 1) := by decide +kernel
theorem dJ2_indexOfCharUnsafe_4cfef_10 : decode cJ2_indexOfCharUnsafe_4cfef 10 = .ok (.iload 4, 2) := by decide +kernel
theorem dJ2_indexOfCharUnsafe_4cfef_12 : decode cJ2_indexOfCharUnsafe_4cfef 12 = .ok (.invokestatic 71, 3) := by decide +kernel
theorem dJ2_indexOfCharUnsafe_4cfef_15 : decode cJ2_indexOfCharUnsafe_4cfef 15 = .ok (.iload_n 1, 1) := by decide +kernel
theorem dJ2_indexOfCharUnsafe_4cfef_16 : decode cJ2_indexOfCharUnsafe_4cfef 16 = .ok (.if_icmp .ne 6, 3) := by decide +kernel
theorem dJ2_indexOfCharUnsafe_4cfef_19 : decode cJ2_indexOfCharUnsafe_4cfef 19 = .ok (.iload 4, 2) := by decide +kernel
theorem dJ2_indexOfCharUnsafe_4cfef_21 : decode cJ2_indexOfCharUnsafe_4cfef 21 = .ok (.ireturn, 1) := by decide +kernel
theorem dJ2_indexOfCharUnsafe_4cfef_22 : decode cJ2_indexOfCharUnsafe_4cfef 22 = .ok (.iinc 4 1, 3) := by decide +kernel
theorem dJ2_indexOfCharUnsafe_4cfef_25 : decode cJ2_indexOfCharUnsafe_4cfef 25 = .ok (.goto (-22), 3) := by decide +kernel
theorem dJ2_indexOfCharUnsafe_4cfef_28 : decode cJ2_indexOfCharUnsafe_4cfef 28 = .ok (.iconst (-1), 1) := by decide +kernel
theorem dJ2_indexOfCharUnsafe_4cfef_29 : decode cJ2_indexOfCharUnsafe_4cfef 29 = .ok (.ireturn, 1) := by decide +kernel
set_option maxRecDepth 20000 in
theorem ggJ2_indexOfSupplementary_4cfef_J11_isValidCodePoint_9a6ad : GoodIn wsJ2_indexOfSupplementary_4cfef wsJ11_isValidCodePoint_9a6ad := goodIn_r _ [4] rfl (by decide +kernel)
set_option maxRecDepth 20000 in
theorem gJ2_indexOfSupplementary_4cfef_J11_isValidCodePoint_9a6ad : GoodIn wsJ2_indexOfSupplementary_4cfef (va_wsS RJ2 164 yJ11_isValidCodePoint_9a6ad wsJ11_isValidCodePoint_9a6ad) := goodIn_app (goodIn_r _ [1, 2, 3] rfl (by decide +kernel)) ggJ2_indexOfSupplementary_4cfef_J11_isValidCodePoint_9a6ad
set_option maxRecDepth 20000 in
theorem ggJ2_indexOfSupplementary_4cfef_J11_highSurrogate_5068e : GoodIn wsJ2_indexOfSupplementary_4cfef wsJ11_highSurrogate_5068e := goodIn_r _ [7, 8] rfl (by decide +kernel)
set_option maxRecDepth 20000 in
theorem gJ2_indexOfSupplementary_4cfef_J11_highSurrogate_5068e : GoodIn wsJ2_indexOfSupplementary_4cfef (va_wsS RJ2 157 yJ11_highSurrogate_5068e wsJ11_highSurrogate_5068e) := goodIn_app (goodIn_r _ [5, 6, 3] rfl (by decide +kernel)) ggJ2_indexOfSupplementary_4cfef_J11_highSurrogate_5068e
set_option maxRecDepth 20000 in
theorem ggJ2_indexOfSupplementary_4cfef_J11_lowSurrogate_5068e : GoodIn wsJ2_indexOfSupplementary_4cfef wsJ11_lowSurrogate_5068e := goodIn_r _ [11, 12] rfl (by decide +kernel)
set_option maxRecDepth 20000 in
theorem gJ2_indexOfSupplementary_4cfef_J11_lowSurrogate_5068e : GoodIn wsJ2_indexOfSupplementary_4cfef (va_wsS RJ2 161 yJ11_lowSurrogate_5068e wsJ11_lowSurrogate_5068e) := goodIn_app (goodIn_r _ [9, 10, 3] rfl (by decide +kernel)) ggJ2_indexOfSupplementary_4cfef_J11_lowSurrogate_5068e
set_option maxRecDepth 20000 in
theorem ggJ2_indexOfSupplementary_4cfef_J2_checkBoundsBeginEnd_d044e : GoodIn wsJ2_indexOfSupplementary_4cfef wsJ2_checkBoundsBeginEnd_d044e := goodIn_r _ [16, 17, 18, 15, 19, 20, 21, 22, 23, 24, 25, 26, 27, 28] rfl (by decide +kernel)
set_option maxRecDepth 20000 in
theorem gJ2_indexOfSupplementary_4cfef_J2_checkBoundsBeginEnd_d044e : GoodIn wsJ2_indexOfSupplementary_4cfef (va_wsS RJ2 96 yJ2_checkBoundsBeginEnd_d044e wsJ2_checkBoundsBeginEnd_d044e) := goodIn_app (goodIn_r _ [13, 14, 15] rfl (by decide +kernel)) ggJ2_indexOfSupplementary_4cfef_J2_checkBoundsBeginEnd_d044e
set_option maxRecDepth 20000 in
theorem ggJ2_indexOfSupplementary_4cfef_J2_getChar_3b067 : GoodIn wsJ2_indexOfSupplementary_4cfef wsJ2_getChar_3b067 := goodIn_r _ [31, 32, 33, 34, 17, 18, 15, 19] rfl (by decide +kernel)
set_option maxRecDepth 20000 in
theorem gJ2_indexOfSupplementary_4cfef_J2_getChar_3b067 : GoodIn wsJ2_indexOfSupplementary_4cfef (va_wsS RJ2 71 yJ2_getChar_3b067 wsJ2_getChar_3b067) := goodIn_app (goodIn_r _ [29, 30, 15] rfl (by decide +kernel)) ggJ2_indexOfSupplementary_4cfef_J2_getChar_3b067
theorem dJ2_indexOfSupplementary_4cfef_0 : decode cJ2_indexOfSupplementary_4cfef 0 = .ok (.iload_n 1, 1) := by decide +kernel
theorem dJ2_indexOfSupplementary_4cfef_1 : decode cJ2_indexOfSupplementary_4cfef 1 = .ok (.invokestatic 164, 3) := by decide +kernel
theorem dJ2_indexOfSupplementary_4cfef_4 : decode cJ2_indexOfSupplementary_4cfef 4 = .ok (.ifCond .eq 65, 3) := by decide +kernel
theorem dJ2_indexOfSupplementary_4cfef_7 : decode cJ2_indexOfSupplementary_4cfef 7 = .ok (.iload_n 1, 1) := by decide +kernel
theorem dJ2_indexOfSupplementary_4cfef_8 : decode cJ2_indexOfSupplementary_4cfef 8 = .ok (.invokestatic 157, 3) := by decide +kernel
theorem dJ2_indexOfSupplementary_4cfef_11 : decode cJ2_indexOfSupplementary_4cfef 11 = .ok (.istore 4, 2) := by decide +kernel
theorem dJ2_indexOfSupplementary_4cfef_13 : decode cJ2_indexOfSupplementary_4cfef 13 = .ok (.iload_n 1, 1) := by decide +kernel
theorem dJ2_indexOfSupplementary_4cfef_14 : decode cJ2_indexOfSupplementary_4cfef 14 = .ok (.invokestatic 161, 3) := by decide +kernel
theorem dJ2_indexOfSupplementary_4cfef_17 : decode cJ2_indexOfSupplementary_4cfef 17 = .ok (.istore 5, 2) := by decide +kernel
theorem dJ2_indexOfSupplementary_4cfef_19 : decode cJ2_indexOfSupplementary_4cfef 19 = .ok (.iload_n 2, 1) := by decide +kernel
theorem dJ2_indexOfSupplementary_4cfef_20 : decode cJ2_indexOfSupplementary_4cfef 20 = .ok (.iload_n 3, 1) := by decide +kernel
theorem dJ2_indexOfSupplementary_4cfef_21 : decode cJ2_indexOfSupplementary_4cfef 21 = .ok (.aload_n 0, 1) := by decide +kernel
theorem dJ2_indexOfSupplementary_4cfef_22 : decode cJ2_indexOfSupplementary_4cfef 22 = .ok (.invokestatic 96, 3) := by decide +kernel
theorem dJ2_indexOfSupplementary_4cfef_25 : decode cJ2_indexOfSupplementary_4cfef 25 = .ok (.iload_n 2, 1) := by decide +kernel
theorem dJ2_indexOfSupplementary_4cfef_26 : decode cJ2_indexOfSupplementary_4cfef 26 = .ok (.istore 6, 2) := by decide +kernel
theorem dJ2_indexOfSupplementary_4cfef_28 : decode cJ2_indexOfSupplementary_4cfef 28 = .ok (.iload 6, 2) := by decide +kernel
theorem dJ2_indexOfSupplementary_4cfef_30 : decode cJ2_indexOfSupplementary_4cfef 30 = .ok (.iload_n 3, 1) := by decide +kernel
theorem dJ2_indexOfSupplementary_4cfef_31 : decode cJ2_indexOfSupplementary_4cfef 31 = .ok (.iconst 1, 1) := by decide +kernel
theorem dJ2_indexOfSupplementary_4cfef_32 : decode cJ2_indexOfSupplementary_4cfef 32 = .ok (.isub, 1) := by decide +kernel
theorem dJ2_indexOfSupplementary_4cfef_33 : decode cJ2_indexOfSupplementary_4cfef 33 = .ok (.if_icmp .ge 36, 3) := by decide +kernel
theorem dJ2_indexOfSupplementary_4cfef_36 : decode cJ2_indexOfSupplementary_4cfef 36 = .ok (.aload_n 0, 1) := by decide +kernel
theorem dJ2_indexOfSupplementary_4cfef_37 : decode cJ2_indexOfSupplementary_4cfef 37 = .ok (.iload 6, 2) := by decide +kernel
theorem dJ2_indexOfSupplementary_4cfef_39 : decode cJ2_indexOfSupplementary_4cfef 39 = .ok (.invokestatic 71, 3) := by decide +kernel
theorem dJ2_indexOfSupplementary_4cfef_42 : decode cJ2_indexOfSupplementary_4cfef 42 = .ok (.iload 4, 2) := by decide +kernel
theorem dJ2_indexOfSupplementary_4cfef_44 : decode cJ2_indexOfSupplementary_4cfef 44 = .ok (.if_icmp .ne 19, 3) := by decide +kernel
theorem dJ2_indexOfSupplementary_4cfef_47 : decode cJ2_indexOfSupplementary_4cfef 47 = .ok (.aload_n 0, 1) := by decide +kernel
theorem dJ2_indexOfSupplementary_4cfef_48 : decode cJ2_indexOfSupplementary_4cfef 48 = .ok (.iload 6, 2) := by decide +kernel
theorem dJ2_indexOfSupplementary_4cfef_50 : decode cJ2_indexOfSupplementary_4cfef 50 = .ok (.iconst 1, 1) := by decide +kernel
theorem dJ2_indexOfSupplementary_4cfef_51 : decode cJ2_indexOfSupplementary_4cfef 51 = .ok (.iadd, 1) := by decide +kernel
theorem dJ2_indexOfSupplementary_4cfef_52 : decode cJ2_indexOfSupplementary_4cfef 52 = .ok (.invokestatic 71, 3) := by decide +kernel
theorem dJ2_indexOfSupplementary_4cfef_55 : decode cJ2_indexOfSupplementary_4cfef 55 = .ok (.iload 5, 2) := by decide +kernel
theorem dJ2_indexOfSupplementary_4cfef_57 : decode cJ2_indexOfSupplementary_4cfef 57 = .ok (.if_icmp .ne 6, 3) := by decide +kernel
theorem dJ2_indexOfSupplementary_4cfef_60 : decode cJ2_indexOfSupplementary_4cfef 60 = .ok (.iload 6, 2) := by decide +kernel
theorem dJ2_indexOfSupplementary_4cfef_62 : decode cJ2_indexOfSupplementary_4cfef 62 = .ok (.ireturn, 1) := by decide +kernel
theorem dJ2_indexOfSupplementary_4cfef_63 : decode cJ2_indexOfSupplementary_4cfef 63 = .ok (.iinc 6 1, 3) := by decide +kernel
theorem dJ2_indexOfSupplementary_4cfef_66 : decode cJ2_indexOfSupplementary_4cfef 66 = .ok (.goto (-38), 3) := by decide +kernel
theorem dJ2_indexOfSupplementary_4cfef_69 : decode cJ2_indexOfSupplementary_4cfef 69 = .ok (.iconst (-1), 1) := by decide +kernel
theorem dJ2_indexOfSupplementary_4cfef_70 : decode cJ2_indexOfSupplementary_4cfef 70 = .ok (.ireturn, 1) := by decide +kernel
set_option maxRecDepth 20000 in
theorem ggJ2_checkBoundsBeginEnd_d044e_J2_length_9d52b : GoodIn wsJ2_checkBoundsBeginEnd_d044e wsJ2_length_9d52b := goodIn_r _ [4] rfl (by decide +kernel)
set_option maxRecDepth 20000 in
theorem gJ2_checkBoundsBeginEnd_d044e_J2_length_9d52b : GoodIn wsJ2_checkBoundsBeginEnd_d044e (va_wsS RJ2 48 yJ2_length_9d52b wsJ2_length_9d52b) := goodIn_app (goodIn_r _ [1, 2, 3] rfl (by decide +kernel)) ggJ2_checkBoundsBeginEnd_d044e_J2_length_9d52b
set_option maxRecDepth 20000 in
theorem ggJ2_checkBoundsBeginEnd_d044e_J0_checkBoundsBeginEnd_23922 : GoodIn wsJ2_checkBoundsBeginEnd_d044e wsJ0_checkBoundsBeginEnd_23922 := goodIn_r _ [8, 9, 10, 11, 12, 13] rfl (by decide +kernel)
set_option maxRecDepth 20000 in
theorem gJ2_checkBoundsBeginEnd_d044e_J0_checkBoundsBeginEnd_23922 : GoodIn wsJ2_checkBoundsBeginEnd_d044e (va_wsS RJ2 241 yJ0_checkBoundsBeginEnd_23922 wsJ0_checkBoundsBeginEnd_23922) := goodIn_app (goodIn_r _ [5, 6, 7] rfl (by decide +kernel)) ggJ2_checkBoundsBeginEnd_d044e_J0_checkBoundsBeginEnd_23922
theorem dJ2_checkBoundsBeginEnd_d044e_0 : decode cJ2_checkBoundsBeginEnd_d044e 0 = .ok (.iload_n 0, 1) := by decide +kernel
theorem dJ2_checkBoundsBeginEnd_d044e_1 : decode cJ2_checkBoundsBeginEnd_d044e 1 = .ok (.iload_n 1, 1) := by decide +kernel
theorem dJ2_checkBoundsBeginEnd_d044e_2 : decode cJ2_checkBoundsBeginEnd_d044e 2 = .ok (.aload_n 2, 1) := by decide +kernel
theorem dJ2_checkBoundsBeginEnd_d044e_3 : decode cJ2_checkBoundsBeginEnd_d044e 3 = .ok (.invokestatic 48, 3) := by decide +kernel
theorem dJ2_checkBoundsBeginEnd_d044e_6 : decode cJ2_checkBoundsBeginEnd_d044e 6 = .ok (.invokestatic 241, 3) := by decide +kernel
theorem dJ2_checkBoundsBeginEnd_d044e_9 : decode cJ2_checkBoundsBeginEnd_d044e 9 = .ok (.return_, 1) := by decide +kernel
theorem dJ7_fill_53178_0 : decode cJ7_fill_53178 0 = .ok (.iconst 0, 1) := by decide +kernel
theorem dJ7_fill_53178_1 : decode cJ7_fill_53178 1 = .ok (.istore_n 2, 1) := by decide +kernel
theorem dJ7_fill_53178_2 : decode cJ7_fill_53178 2 = .ok (.aload_n 0, 1) := by decide +kernel
theorem dJ7_fill_53178_3 : decode cJ7_fill_53178 3 = .ok (.arraylength, 1) := by decide +kernel
theorem dJ7_fill_53178_4 : decode cJ7_fill_53178 4 = .ok (.istore_n 3, 1) := by decide +kernel
theorem dJ7_fill_53178_5 : decode cJ7_fill_53178 5 = .ok (.iload_n 2, 1) := by decide +kernel
theorem dJ7_fill_53178_6 : decode cJ7_fill_53178 6 = .ok (.iload_n 3, 1) := by decide +kernel
theorem dJ7_fill_53178_7 : decode cJ7_fill_53178 7 = .ok (.if_icmp .ge 13, 3) := by decide +kernel
theorem dJ7_fill_53178_10 : decode cJ7_fill_53178 10 = .ok (.aload_n 0, 1) := by decide +kernel
theorem dJ7_fill_53178_11 : decode cJ7_fill_53178 11 = .ok (.iload_n 2, 1) := by decide +kernel
theorem dJ7_fill_53178_12 : decode cJ7_fill_53178 12 = .ok (.iload_n 1, 1) := by decide +kernel
theorem dJ7_fill_53178_13 : decode cJ7_fill_53178 13 = .ok (.iastore, 1) := by decide +kernel
theorem dJ7_fill_53178_14 : decode cJ7_fill_53178 14 = .ok (.iinc 2 1, 3) := by decide +kernel
theorem dJ7_fill_53178_17 : decode cJ7_fill_53178 17 = .ok (.goto (-12), 3) := by decide +kernel
theorem dJ7_fill_53178_20 : decode cJ7_fill_53178 20 = .ok (.return_, 1) := by decide +kernel
theorem dJ7_copyOf_59c91_0 : decode cJ7_copyOf_59c91 0 = .ok (.iload_n 1, 1) := by decide +kernel
theorem dJ7_copyOf_59c91_1 : decode cJ7_copyOf_59c91 1 = .ok (.aload_n 0, 1) := by decide +kernel
theorem dJ7_copyOf_59c91_2 : decode cJ7_copyOf_59c91 2 = .ok (.arraylength, 1) := by decide +kernel
theorem dJ7_copyOf_59c91_3 : decode cJ7_copyOf_59c91 3 = .ok (.if_icmp .ne 11, 3) := by decide +kernel
theorem dJ7_copyOf_59c91_6 : decode cJ7_copyOf_59c91 6 = .ok (.aload_n 0, 1) := by decide +kernel
theorem dJ7_copyOf_59c91_7 : decode cJ7_copyOf_59c91 7 = .ok (.invokevirtual 316, 3) := by decide +kernel
theorem dJ7_copyOf_59c91_10 : decode cJ7_copyOf_59c91 10 = .ok (.checkcast 317, 3) := by decide +kernel
theorem dJ7_copyOf_59c91_13 : decode cJ7_copyOf_59c91 13 = .ok (.areturn, 1) := by decide +kernel
theorem dJ7_copyOf_59c91_14 : decode cJ7_copyOf_59c91 14 = .ok (.iload_n 1, 1) := by decide +kernel
theorem dJ7_copyOf_59c91_15 : decode cJ7_copyOf_59c91 15 = .ok (.newarray .int, 2) := by decide +kernel
theorem dJ7_copyOf_59c91_17 : decode cJ7_copyOf_59c91 17 = .ok (.astore_n 2, 1) := by decide +kernel
theorem dJ7_copyOf_59c91_18 : decode cJ7_copyOf_59c91 18 = .ok (.aload_n 0, 1) := by decide +kernel
theorem dJ7_copyOf_59c91_19 : decode cJ7_copyOf_59c91 19 = .ok (.iconst 0, 1) := by decide +kernel
theorem dJ7_copyOf_59c91_20 : decode cJ7_copyOf_59c91 20 = .ok (.aload_n 2, 1) := by decide +kernel
theorem dJ7_copyOf_59c91_21 : decode cJ7_copyOf_59c91 21 = .ok (.iconst 0, 1) := by decide +kernel
theorem dJ7_copyOf_59c91_22 : decode cJ7_copyOf_59c91 22 = .ok (.aload_n 0, 1) := by decide +kernel
theorem dJ7_copyOf_59c91_23 : decode cJ7_copyOf_59c91 23 = .ok (.arraylength, 1) := by decide +kernel
theorem dJ7_copyOf_59c91_24 : decode cJ7_copyOf_59c91 24 = .ok (.iload_n 1, 1) := by decide +kernel
theorem dJ7_copyOf_59c91_25 : decode cJ7_copyOf_59c91 25 = .ok (.invokestatic 304, 3) := by decide +kernel
theorem dJ7_copyOf_59c91_28 : decode cJ7_copyOf_59c91 28 = .ok (.invokestatic 150, 3) := by decide +kernel
theorem dJ7_copyOf_59c91_31 : decode cJ7_copyOf_59c91 31 = .ok (.aload_n 2, 1) := by decide +kernel
theorem dJ7_copyOf_59c91_32 : decode cJ7_copyOf_59c91 32 = .ok (.areturn, 1) := by decide +kernel
theorem dJ3_checkFromToIndex_8c36e_0 : decode cJ3_checkFromToIndex_8c36e 0 = .ok (.iload_n 0, 1) := by decide +kernel
theorem dJ3_checkFromToIndex_8c36e_1 : decode cJ3_checkFromToIndex_8c36e 1 = .ok (.ifCond .lt 13, 3) := by decide +kernel
theorem dJ3_checkFromToIndex_8c36e_4 : decode cJ3_checkFromToIndex_8c36e 4 = .ok (.iload_n 0, 1) := by decide +kernel
theorem dJ3_checkFromToIndex_8c36e_5 : decode cJ3_checkFromToIndex_8c36e 5 = .ok (.iload_n 1, 1) := by decide +kernel
theorem dJ3_checkFromToIndex_8c36e_6 : decode cJ3_checkFromToIndex_8c36e 6 = .ok (.if_icmp .gt 8, 3) := by decide +kernel
theorem dJ3_checkFromToIndex_8c36e_9 : decode cJ3_checkFromToIndex_8c36e 9 = .ok (.iload_n 1, 1) := by decide +kernel
theorem dJ3_checkFromToIndex_8c36e_10 : decode cJ3_checkFromToIndex_8c36e 10 = .ok (.iload_n 2, 1) := by decide +kernel
theorem dJ3_checkFromToIndex_8c36e_11 : decode cJ3_checkFromToIndex_8c36e 11 = .ok (.if_icmp .le 11, 3) := by decide +kernel
theorem dJ3_checkFromToIndex_8c36e_14 : decode cJ3_checkFromToIndex_8c36e 14 = .ok (.aload_n 3, 1) := by decide +kernel
theorem dJ3_checkFromToIndex_8c36e_15 : decode cJ3_checkFromToIndex_8c36e 15 = .ok (.iload_n 0, 1) := by decide +kernel
theorem dJ3_checkFromToIndex_8c36e_16 : decode cJ3_checkFromToIndex_8c36e 16 = .ok (.iload_n 1, 1) := by decide +kernel
theorem dJ3_checkFromToIndex_8c36e_17 : decode cJ3_checkFromToIndex_8c36e 17 = .ok (.iload_n 2, 1) := by decide +kernel
theorem dJ3_checkFromToIndex_8c36e_18 : decode cJ3_checkFromToIndex_8c36e 18 = .ok (.invokestatic 99, 3) := by decide +kernel
theorem dJ3_checkFromToIndex_8c36e_21 : decode cJ3_checkFromToIndex_8c36e 21 = .ok (.athrow, 1) := by decide +kernel
theorem dJ3_checkFromToIndex_8c36e_22 : decode cJ3_checkFromToIndex_8c36e 22 = .ok (.iload_n 0, 1) := by decide +kernel
theorem dJ3_checkFromToIndex_8c36e_23 : decode cJ3_checkFromToIndex_8c36e 23 = .ok (.ireturn, 1) := by decide +kernel
abbrev vwCl : List vw_C := [(RX0, TX0, 0), (RX1, TX1, 0), (RX2, TX2, 0), (RX3, TX3, 18), (RX4, TX4, 0), (RX5, TX5, 0), (RX6, TX6, 0), (RX7, TX7, 3), (RX8, TX8, 0), (RX9, TX9, 7), (RX10, TX10, 4), (RX11, TX11, 9), (RX12, TX12, 23)]
