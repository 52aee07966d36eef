theorem dX12_above_1 : decode cX12_above 1 = .ok (.iconst 3, 1) := by decide +kernel
theorem dX12_above_2 : decode cX12_above 2 = .ok (.if_icmp .le 9, 3) := by decide +kernel
theorem dX12_above_5 : decode cX12_above 5 = .ok (.iload_n 0, 1) := by decide +kernel
theorem dX12_above_6 : decode cX12_above 6 = .ok (.iconst 3, 1) := by decide +kernel
theorem dX12_above_7 : decode cX12_above 7 = .ok (.isub, 1) := by decide +kernel
theorem dX12_above_8 : decode cX12_above 8 = .ok (.goto 4, 3) := by decide +kernel
theorem dX12_above_11 : decode cX12_above 11 = .ok (.iconst 0, 1) := by decide +kernel
theorem dX12_above_12 : decode cX12_above 12 = .ok (.ireturn, 1) := by decide +kernel
theorem dX12_becomes_0 : decode cX12_becomes 0 = .ok (.aload_n 0, 1) := by decide +kernel
theorem dX12_becomes_1 : decode cX12_becomes 1 = .ok (.getfield 7, 3) := by decide +kernel
theorem dX12_becomes_4 : decode cX12_becomes 4 = .ok (.iload_n 1, 1) := by decide +kernel
theorem dX12_becomes_5 : decode cX12_becomes 5 = .ok (.iaload, 1) := by decide +kernel
theorem dX12_becomes_6 : decode cX12_becomes 6 = .ok (.istore_n 3, 1) := by decide +kernel
theorem dX12_becomes_7 : decode cX12_becomes 7 = .ok (.aload_n 0, 1) := by decide +kernel
theorem dX12_becomes_8 : decode cX12_becomes 8 = .ok (.getfield 7, 3) := by decide +kernel
theorem dX12_becomes_11 : decode cX12_becomes 11 = .ok (.iload_n 1, 1) := by decide +kernel
theorem dX12_becomes_12 : decode cX12_becomes 12 = .ok (.iload_n 2, 1) := by decide +kernel
theorem dX12_becomes_13 : decode cX12_becomes 13 = .ok (.iastore, 1) := by decide +kernel
theorem dX12_becomes_14 : decode cX12_becomes 14 = .ok (.iload_n 3, 1) := by decide +kernel
theorem dX12_becomes_15 : decode cX12_becomes 15 = .ok (.ireturn, 1) := by decide +kernel
theorem dX12_ones_0 : decode cX12_ones 0 = .ok (.iconst 0, 1) := by decide +kernel
theorem dX12_ones_1 : decode cX12_ones 1 = .ok (.istore_n 1, 1) := by decide +kernel
theorem dX12_ones_2 : decode cX12_ones 2 = .ok (.iconst 0, 1) := by decide +kernel
theorem dX12_ones_3 : decode cX12_ones 3 = .ok (.istore_n 2, 1) := by decide +kernel
theorem dX12_ones_4 : decode cX12_ones 4 = .ok (.iload_n 2, 1) := by decide +kernel
theorem dX12_ones_5 : decode cX12_ones 5 = .ok (.bipush 12, 2) := by decide +kernel
theorem dX12_ones_7 : decode cX12_ones 7 = .ok (.if_icmp .ge 17, 3) := by decide +kernel
theorem dX12_ones_10 : decode cX12_ones 10 = .ok (.iload_n 1, 1) := by decide +kernel
theorem dX12_ones_11 : decode cX12_ones 11 = .ok (.iload_n 0, 1) := by decide +kernel
theorem dX12_ones_12 : decode cX12_ones 12 = .ok (.iload_n 2, 1) := by decide +kernel
theorem dX12_ones_13 : decode cX12_ones 13 = .ok (.ishr, 1) := by decide +kernel
theorem dX12_ones_14 : decode cX12_ones 14 = .ok (.iconst 1, 1) := by decide +kernel
theorem dX12_ones_15 : decode cX12_ones 15 = .ok (.iand, 1) := by decide +kernel
theorem dX12_ones_16 : decode cX12_ones 16 = .ok (.iadd, 1) := by decide +kernel
theorem dX12_ones_17 : decode cX12_ones 17 = .ok (.istore_n 1, 1) := by decide +kernel
theorem dX12_ones_18 : decode cX12_ones 18 = .ok (.iinc 2 1, 3) := by decide +kernel
theorem dX12_ones_21 : decode cX12_ones 21 = .ok (.goto (-17), 3) := by decide +kernel
theorem dX12_ones_24 : decode cX12_ones 24 = .ok (.iload_n 1, 1) := by decide +kernel
theorem dX12_ones_25 : decode cX12_ones 25 = .ok (.ireturn, 1) := by decide +kernel
theorem dX12_keepAside_0 : decode cX12_keepAside 0 = .ok (.iconst 0, 1) := by decide +kernel
theorem dX12_keepAside_1 : decode cX12_keepAside 1 = .ok (.istore_n 1, 1) := by decide +kernel
theorem dX12_keepAside_2 : decode cX12_keepAside 2 = .ok (.iload_n 1, 1) := by decide +kernel
theorem dX12_keepAside_3 : decode cX12_keepAside 3 = .ok (.sipush 154, 3) := by decide +kernel
theorem dX12_keepAside_6 : decode cX12_keepAside 6 = .ok (.if_icmp .ge 21, 3) := by decide +kernel
theorem dX12_keepAside_9 : decode cX12_keepAside 9 = .ok (.aload_n 0, 1) := by decide +kernel
theorem dX12_keepAside_10 : decode cX12_keepAside 10 = .ok (.getfield 16, 3) := by decide +kernel
theorem dX12_keepAside_13 : decode cX12_keepAside 13 = .ok (.iload_n 1, 1) := by decide +kernel
theorem dX12_keepAside_14 : decode cX12_keepAside 14 = .ok (.aload_n 0, 1) := by decide +kernel
theorem dX12_keepAside_15 : decode cX12_keepAside 15 = .ok (.getfield 7, 3) := by decide +kernel
theorem dX12_keepAside_18 : decode cX12_keepAside 18 = .ok (.iload_n 1, 1) := by decide +kernel
theorem dX12_keepAside_19 : decode cX12_keepAside 19 = .ok (.iaload, 1) := by decide +kernel
theorem dX12_keepAside_20 : decode cX12_keepAside 20 = .ok (.iastore, 1) := by decide +kernel
theorem dX12_keepAside_21 : decode cX12_keepAside 21 = .ok (.iinc 1 1, 3) := by decide +kernel
theorem dX12_keepAside_24 : decode cX12_keepAside 24 = .ok (.goto (-22), 3) := by decide +kernel
theorem dX12_keepAside_27 : decode cX12_keepAside 27 = .ok (.return_, 1) := by decide +kernel
theorem dX12_putBack_0 : decode cX12_putBack 0 = .ok (.iconst 0, 1) := by decide +kernel
theorem dX12_putBack_1 : decode cX12_putBack 1 = .ok (.istore_n 1, 1) := by decide +kernel
theorem dX12_putBack_2 : decode cX12_putBack 2 = .ok (.iload_n 1, 1) := by decide +kernel
theorem dX12_putBack_3 : decode cX12_putBack 3 = .ok (.sipush 154, 3) := by decide +kernel
theorem dX12_putBack_6 : decode cX12_putBack 6 = .ok (.if_icmp .ge 21, 3) := by decide +kernel
theorem dX12_putBack_9 : decode cX12_putBack 9 = .ok (.aload_n 0, 1) := by decide +kernel
theorem dX12_putBack_10 : decode cX12_putBack 10 = .ok (.getfield 7, 3) := by decide +kernel
theorem dX12_putBack_13 : decode cX12_putBack 13 = .ok (.iload_n 1, 1) := by decide +kernel
theorem dX12_putBack_14 : decode cX12_putBack 14 = .ok (.aload_n 0, 1) := by decide +kernel
theorem dX12_putBack_15 : decode cX12_putBack 15 = .ok (.getfield 16, 3) := by decide +kernel
theorem dX12_putBack_18 : decode cX12_putBack 18 = .ok (.iload_n 1, 1) := by decide +kernel
theorem dX12_putBack_19 : decode cX12_putBack 19 = .ok (.iaload, 1) := by decide +kernel
theorem dX12_putBack_20 : decode cX12_putBack 20 = .ok (.iastore, 1) := by decide +kernel
theorem dX12_putBack_21 : decode cX12_putBack 21 = .ok (.iinc 1 1, 3) := by decide +kernel
theorem dX12_putBack_24 : decode cX12_putBack 24 = .ok (.goto (-22), 3) := by decide +kernel
theorem dX12_putBack_27 : decode cX12_putBack 27 = .ok (.return_, 1) := by decide +kernel
theorem dX12_here_0 : decode cX12_here 0 = .ok (.aload_n 0, 1) := by decide +kernel
theorem dX12_here_1 : decode cX12_here 1 = .ok (.getfield 58, 3) := by decide +kernel
theorem dX12_here_4 : decode cX12_here 4 = .ok (.aload_n 0, 1) := by decide +kernel
theorem dX12_here_5 : decode cX12_here 5 = .ok (.getfield 62, 3) := by decide +kernel
theorem dX12_here_8 : decode cX12_here 8 = .ok (.if_icmp .ge 27, 3) := by decide +kernel
theorem dX12_here_11 : decode cX12_here 11 = .ok (.aload_n 0, 1) := by decide +kernel
theorem dX12_here_12 : decode cX12_here 12 = .ok (.getfield 65, 3) := by decide +kernel
theorem dX12_here_15 : decode cX12_here 15 = .ok (.ifCond .ge 20, 3) := by decide +kernel
theorem dX12_here_18 : decode cX12_here 18 = .ok (.aload_n 0, 1) := by decide +kernel
theorem dX12_here_19 : decode cX12_here 19 = .ok (.getfield 7, 3) := by decide +kernel
theorem dX12_here_22 : decode cX12_here 22 = .ok (.aload_n 0, 1) := by decide +kernel
theorem dX12_here_23 : decode cX12_here 23 = .ok (.getfield 68, 3) := by decide +kernel
theorem dX12_here_26 : decode cX12_here 26 = .ok (.aload_n 0, 1) := by decide +kernel
theorem dX12_here_27 : decode cX12_here 27 = .ok (.getfield 58, 3) := by decide +kernel
theorem dX12_here_30 : decode cX12_here 30 = .ok (.iadd, 1) := by decide +kernel
theorem dX12_here_31 : decode cX12_here 31 = .ok (.iaload, 1) := by decide +kernel
theorem dX12_here_32 : decode cX12_here 32 = .ok (.goto 4, 3) := by decide +kernel
theorem dX12_here_35 : decode cX12_here 35 = .ok (.iconst (-1), 1) := by decide +kernel
theorem dX12_here_36 : decode cX12_here 36 = .ok (.ireturn, 1) := by decide +kernel
theorem dX12_wrong_0 : decode cX12_wrong 0 = .ok (.aload_n 0, 1) := by decide +kernel
theorem dX12_wrong_1 : decode cX12_wrong 1 = .ok (.aload_n 0, 1) := by decide +kernel
theorem dX12_wrong_2 : decode cX12_wrong 2 = .ok (.getfield 65, 3) := by decide +kernel
theorem dX12_wrong_5 : decode cX12_wrong 5 = .ok (.ifCond .ge 10, 3) := by decide +kernel
theorem dX12_wrong_8 : decode cX12_wrong 8 = .ok (.aload_n 0, 1) := by decide +kernel
theorem dX12_wrong_9 : decode cX12_wrong 9 = .ok (.getfield 58, 3) := by decide +kernel
theorem dX12_wrong_12 : decode cX12_wrong 12 = .ok (.goto 7, 3) := by decide +kernel
theorem dX12_wrong_15 : decode cX12_wrong 15 = .ok (.aload_n 0, 1) := by decide +kernel
theorem dX12_wrong_16 : decode cX12_wrong 16 = .ok (.getfield 65, 3) := by decide +kernel
theorem dX12_wrong_19 : decode cX12_wrong 19 = .ok (.putfield 65, 3) := by decide +kernel
theorem dX12_wrong_22 : decode cX12_wrong 22 = .ok (.return_, 1) := by decide +kernel
set_option maxRecDepth 20000 in
theorem ggX12_takes_X12_here : GoodIn wsX12_takes wsX12_here := goodIn_r _ [6, 1, 7, 8, 9, 10, 11, 12, 13, 14, 15, 16, 17, 18, 19, 20, 21, 22, 23, 24, 25, 26, 27, 28, 29, 30, 31, 32, 33] rfl (by decide +kernel)
set_option maxRecDepth 20000 in
theorem gX12_takes_X12_here : GoodIn wsX12_takes (wsV RX12 71 RX12 yX12_here wsX12_here) := goodIn_app (goodIn_r _ [2, 3, 4, 5] rfl (by decide +kernel)) ggX12_takes_X12_here
theorem dX12_takes_0 : decode cX12_takes 0 = .ok (.aload_n 0, 1) := by decide +kernel
theorem dX12_takes_1 : decode cX12_takes 1 = .ok (.invokevirtual 71, 3) := by decide +kernel
theorem dX12_takes_4 : decode cX12_takes 4 = .ok (.iload_n 1, 1) := by decide +kernel
theorem dX12_takes_5 : decode cX12_takes 5 = .ok (.if_icmp .eq 5, 3) := by decide +kernel
theorem dX12_takes_8 : decode cX12_takes 8 = .ok (.iconst 0, 1) := by decide +kernel
theorem dX12_takes_9 : decode cX12_takes 9 = .ok (.ireturn, 1) := by decide +kernel
theorem dX12_takes_10 : decode cX12_takes 10 = .ok (.aload_n 0, 1) := by decide +kernel
theorem dX12_takes_11 : decode cX12_takes 11 = .ok (.dup, 1) := by decide +kernel
theorem dX12_takes_12 : decode cX12_takes 12 = .ok (.getfield 58, 3) := by decide +kernel
theorem dX12_takes_15 : decode cX12_takes 15 = .ok (.iconst 1, 1) := by decide +kernel
theorem dX12_takes_16 : decode cX12_takes 16 = .ok (.iadd, 1) := by decide +kernel
theorem dX12_takes_17 : decode cX12_takes 17 = .ok (.putfield 58, 3) := by decide +kernel
theorem dX12_takes_20 : decode cX12_takes 20 = .ok (.iconst 1, 1) := by decide +kernel
theorem dX12_takes_21 : decode cX12_takes 21 = .ok (.ireturn, 1) := by decide +kernel
theorem dX12_nameOf_0 : decode cX12_nameOf 0 = .ok (.iload_n 1, 1) := by decide +kernel
theorem dX12_nameOf_1 : decode cX12_nameOf 1 = .ok (.aload_n 0, 1) := by decide +kernel
theorem dX12_nameOf_2 : decode cX12_nameOf 2 = .ok (.getfield 75, 3) := by decide +kernel
theorem dX12_nameOf_5 : decode cX12_nameOf 5 = .ok (.ifCond .eq 8, 3) := by decide +kernel
theorem dX12_nameOf_8 : decode cX12_nameOf 8 = .ok (.bipush 114, 2) := by decide +kernel
theorem dX12_nameOf_10 : decode cX12_nameOf 10 = .ok (.goto 5, 3) := by decide +kernel
theorem dX12_nameOf_13 : decode cX12_nameOf 13 = .ok (.bipush 107, 2) := by decide +kernel
theorem dX12_nameOf_15 : decode cX12_nameOf 15 = .ok (.if_icmp .ne 7, 3) := by decide +kernel
theorem dX12_nameOf_18 : decode cX12_nameOf 18 = .ok (.iconst 0, 1) := by decide +kernel
theorem dX12_nameOf_19 : decode cX12_nameOf 19 = .ok (.goto 48, 3) := by decide +kernel
theorem dX12_nameOf_22 : decode cX12_nameOf 22 = .ok (.iload_n 1, 1) := by decide +kernel
theorem dX12_nameOf_23 : decode cX12_nameOf 23 = .ok (.aload_n 0, 1) := by decide +kernel
theorem dX12_nameOf_24 : decode cX12_nameOf 24 = .ok (.getfield 75, 3) := by decide +kernel
theorem dX12_nameOf_27 : decode cX12_nameOf 27 = .ok (.ifCond .eq 8, 3) := by decide +kernel
theorem dX12_nameOf_30 : decode cX12_nameOf 30 = .ok (.bipush 115, 2) := by decide +kernel
theorem dX12_nameOf_32 : decode cX12_nameOf 32 = .ok (.goto 5, 3) := by decide +kernel
theorem dX12_nameOf_35 : decode cX12_nameOf 35 = .ok (.bipush 119, 2) := by decide +kernel
theorem dX12_nameOf_37 : decode cX12_nameOf 37 = .ok (.if_icmp .ne 7, 3) := by decide +kernel
theorem dX12_nameOf_40 : decode cX12_nameOf 40 = .ok (.iconst 1, 1) := by decide +kernel
theorem dX12_nameOf_41 : decode cX12_nameOf 41 = .ok (.goto 26, 3) := by decide +kernel
theorem dX12_nameOf_44 : decode cX12_nameOf 44 = .ok (.iload_n 1, 1) := by decide +kernel
theorem dX12_nameOf_45 : decode cX12_nameOf 45 = .ok (.aload_n 0, 1) := by decide +kernel
theorem dX12_nameOf_46 : decode cX12_nameOf 46 = .ok (.getfield 75, 3) := by decide +kernel
theorem dX12_nameOf_49 : decode cX12_nameOf 49 = .ok (.ifCond .eq 8, 3) := by decide +kernel
theorem dX12_nameOf_52 : decode cX12_nameOf 52 = .ok (.bipush 110, 2) := by decide +kernel
theorem dX12_nameOf_54 : decode cX12_nameOf 54 = .ok (.goto 5, 3) := by decide +kernel
theorem dX12_nameOf_57 : decode cX12_nameOf 57 = .ok (.bipush 115, 2) := by decide +kernel
theorem dX12_nameOf_59 : decode cX12_nameOf 59 = .ok (.if_icmp .ne 7, 3) := by decide +kernel
theorem dX12_nameOf_62 : decode cX12_nameOf 62 = .ok (.iconst 2, 1) := by decide +kernel
theorem dX12_nameOf_63 : decode cX12_nameOf 63 = .ok (.goto 4, 3) := by decide +kernel
theorem dX12_nameOf_66 : decode cX12_nameOf 66 = .ok (.iconst (-1), 1) := by decide +kernel
theorem dX12_nameOf_67 : decode cX12_nameOf 67 = .ok (.ireturn, 1) := by decide +kernel
theorem dX12_lay_0 : decode cX12_lay 0 = .ok (.aload_n 0, 1) := by decide +kernel
theorem dX12_lay_1 : decode cX12_lay 1 = .ok (.getfield 65, 3) := by decide +kernel
theorem dX12_lay_4 : decode cX12_lay 4 = .ok (.ifCond .ge 23, 3) := by decide +kernel
theorem dX12_lay_7 : decode cX12_lay 7 = .ok (.aload_n 0, 1) := by decide +kernel
theorem dX12_lay_8 : decode cX12_lay 8 = .ok (.getfield 25, 3) := by decide +kernel
theorem dX12_lay_11 : decode cX12_lay 11 = .ok (.aload_n 0, 1) := by decide +kernel
theorem dX12_lay_12 : decode cX12_lay 12 = .ok (.getfield 79, 3) := by decide +kernel
theorem dX12_lay_15 : decode cX12_lay 15 = .ok (.iload_n 1, 1) := by decide +kernel
theorem dX12_lay_16 : decode cX12_lay 16 = .ok (.iastore, 1) := by decide +kernel
theorem dX12_lay_17 : decode cX12_lay 17 = .ok (.aload_n 0, 1) := by decide +kernel
theorem dX12_lay_18 : decode cX12_lay 18 = .ok (.dup, 1) := by decide +kernel
theorem dX12_lay_19 : decode cX12_lay 19 = .ok (.getfield 79, 3) := by decide +kernel
theorem dX12_lay_22 : decode cX12_lay 22 = .ok (.iconst 1, 1) := by decide +kernel
theorem dX12_lay_23 : decode cX12_lay 23 = .ok (.iadd, 1) := by decide +kernel
theorem dX12_lay_24 : decode cX12_lay 24 = .ok (.putfield 79, 3) := by decide +kernel
theorem dX12_lay_27 : decode cX12_lay 27 = .ok (.return_, 1) := by decide +kernel
set_option maxRecDepth 20000 in
theorem ggX12_either_X12_both : GoodIn wsX12_either wsX12_both := goodIn_r _ [24, 25, 26, 27, 4, 5, 6, 7, 8, 9, 10, 11, 12, 13, 14, 15, 16, 17, 18, 19, 20, 21, 22, 23, 28, 29, 30, 31, 0, 1, 2, 3, 32, 33, 34, 35, 36, 37, 38, 39, 40, 41, 42, 43, 44, 45, 46, 47, 48, 49, 50, 51, 52, 53, 54, 55, 56, 57, 58, 59, 60, 61, 62, 63, 64, 65, 66, 67, 68, 69, 70, 71, 72, 73, 74, 75, 76, 77, 78, 79, 80, 81, 82, 83, 84, 85] rfl (by decide +kernel)
set_option maxRecDepth 20000 in
theorem gX12_either_X12_both : GoodIn wsX12_either (wsV RX12 82 RX12 yX12_both wsX12_both) := goodIn_app (goodIn_r _ [1, 2, 3, 4] rfl (by decide +kernel)) ggX12_either_X12_both
set_option maxRecDepth 20000 in
theorem ggX12_either_X12_takes : GoodIn wsX12_either wsX12_takes := goodIn_r _ [8, 9, 10, 11, 12, 4, 13, 14, 15, 16, 17, 63, 64, 65, 66, 67, 68, 69, 70, 71, 72, 73, 74, 75, 76, 77, 78, 79, 80, 81, 82, 83, 84, 85] rfl (by decide +kernel)
set_option maxRecDepth 20000 in
theorem gX12_either_X12_takes : GoodIn wsX12_either (wsV RX12 85 RX12 yX12_takes wsX12_takes) := goodIn_app (goodIn_r _ [5, 6, 7, 4] rfl (by decide +kernel)) ggX12_either_X12_takes
set_option maxRecDepth 20000 in
theorem ggX12_either_X12_lay : GoodIn wsX12_either wsX12_lay := goodIn_r _ [21, 15, 22, 23, 63, 64, 65, 66, 67, 68, 69, 70, 71, 72, 73, 74, 75, 76, 77, 78, 79, 80, 81, 82, 83, 84, 85] rfl (by decide +kernel)
set_option maxRecDepth 20000 in
theorem gX12_either_X12_lay : GoodIn wsX12_either (wsV RX12 89 RX12 yX12_lay wsX12_lay) := goodIn_app (goodIn_r _ [18, 19, 20, 4] rfl (by decide +kernel)) ggX12_either_X12_lay
theorem dX12_either_0 : decode cX12_either 0 = .ok (.aload_n 0, 1) := by decide +kernel
theorem dX12_either_1 : decode cX12_either 1 = .ok (.invokevirtual 82, 3) := by decide +kernel
theorem dX12_either_4 : decode cX12_either 4 = .ok (.aload_n 0, 1) := by decide +kernel
theorem dX12_either_5 : decode cX12_either 5 = .ok (.bipush 124, 2) := by decide +kernel
theorem dX12_either_7 : decode cX12_either 7 = .ok (.invokevirtual 85, 3) := by decide +kernel
theorem dX12_either_10 : decode cX12_either 10 = .ok (.ifCond .eq 17, 3) := by decide +kernel
theorem dX12_either_13 : decode cX12_either 13 = .ok (.aload_n 0, 1) := by decide +kernel
theorem dX12_either_14 : decode cX12_either 14 = .ok (.invokevirtual 82, 3) := by decide +kernel
theorem dX12_either_17 : decode cX12_either 17 = .ok (.aload_n 0, 1) := by decide +kernel
theorem dX12_either_18 : decode cX12_either 18 = .ok (.sipush 20124, 3) := by decide +kernel
theorem dX12_either_21 : decode cX12_either 21 = .ok (.invokevirtual 89, 3) := by decide +kernel
theorem dX12_either_24 : decode cX12_either 24 = .ok (.goto (-20), 3) := by decide +kernel
theorem dX12_either_27 : decode cX12_either 27 = .ok (.return_, 1) := by decide +kernel
set_option maxRecDepth 20000 in
theorem ggX12_both_X12_compared : GoodIn wsX12_both wsX12_compared := goodIn_r _ [24, 9, 25, 26, 27, 4, 10, 11, 12, 13, 14, 15, 16, 17, 18, 19, 20, 21, 22, 23, 0, 1, 2, 3, 5, 6, 7, 8, 28, 29, 30, 31, 32, 33, 34, 35, 36, 37, 38, 39, 40, 41, 42, 43, 44, 45, 46, 47, 48, 49, 50, 51, 52, 53, 54, 55, 56, 57, 58, 59, 60, 61, 62, 63, 64, 65, 66, 67, 68, 69, 70, 71, 72, 73, 74, 75, 76, 77, 78, 79, 80, 81, 82, 83, 84, 85] rfl (by decide +kernel)
set_option maxRecDepth 20000 in
theorem gX12_both_X12_compared : GoodIn wsX12_both (wsV RX12 93 RX12 yX12_compared wsX12_compared) := goodIn_app (goodIn_r _ [1, 2, 3, 4] rfl (by decide +kernel)) ggX12_both_X12_compared
set_option maxRecDepth 20000 in
theorem ggX12_both_X12_takes : GoodIn wsX12_both wsX12_takes := goodIn_r _ [8, 9, 10, 11, 12, 4, 13, 14, 15, 16, 17, 63, 64, 65, 66, 67, 68, 69, 70, 71, 72, 73, 74, 75, 76, 77, 78, 79, 80, 81, 82, 83, 84, 85] rfl (by decide +kernel)
set_option maxRecDepth 20000 in
theorem gX12_both_X12_takes : GoodIn wsX12_both (wsV RX12 85 RX12 yX12_takes wsX12_takes) := goodIn_app (goodIn_r _ [5, 6, 7, 4] rfl (by decide +kernel)) ggX12_both_X12_takes
set_option maxRecDepth 20000 in
theorem ggX12_both_X12_lay : GoodIn wsX12_both wsX12_lay := goodIn_r _ [21, 15, 22, 23, 63, 64, 65, 66, 67, 68, 69, 70, 71, 72, 73, 74, 75, 76, 77, 78, 79, 80, 81, 82, 83, 84, 85] rfl (by decide +kernel)
set_option maxRecDepth 20000 in
theorem gX12_both_X12_lay : GoodIn wsX12_both (wsV RX12 89 RX12 yX12_lay wsX12_lay) := goodIn_app (goodIn_r _ [18, 19, 20, 4] rfl (by decide +kernel)) ggX12_both_X12_lay
theorem dX12_both_0 : decode cX12_both 0 = .ok (.aload_n 0, 1) := by decide +kernel
theorem dX12_both_1 : decode cX12_both 1 = .ok (.invokevirtual 93, 3) := by decide +kernel
theorem dX12_both_4 : decode cX12_both 4 = .ok (.aload_n 0, 1) := by decide +kernel
theorem dX12_both_5 : decode cX12_both 5 = .ok (.bipush 38, 2) := by decide +kernel
theorem dX12_both_7 : decode cX12_both 7 = .ok (.invokevirtual 85, 3) := by decide +kernel
theorem dX12_both_10 : decode cX12_both 10 = .ok (.ifCond .eq 17, 3) := by decide +kernel
theorem dX12_both_13 : decode cX12_both 13 = .ok (.aload_n 0, 1) := by decide +kernel
theorem dX12_both_14 : decode cX12_both 14 = .ok (.invokevirtual 93, 3) := by decide +kernel
theorem dX12_both_17 : decode cX12_both 17 = .ok (.aload_n 0, 1) := by decide +kernel
theorem dX12_both_18 : decode cX12_both 18 = .ok (.sipush 20038, 3) := by decide +kernel
theorem dX12_both_21 : decode cX12_both 21 = .ok (.invokevirtual 89, 3) := by decide +kernel
theorem dX12_both_24 : decode cX12_both 24 = .ok (.goto (-20), 3) := by decide +kernel
theorem dX12_both_27 : decode cX12_both 27 = .ok (.return_, 1) := by decide +kernel
set_option maxRecDepth 20000 in
theorem ggX12_compared_X12_sum : GoodIn wsX12_compared wsX12_sum := goodIn_r _ [45, 1, 46, 47, 48, 5, 6, 7, 8, 9, 10, 11, 12, 13, 14, 15, 16, 17, 18, 19, 20, 21, 22, 23, 24, 25, 26, 27, 0, 2, 3, 4, 28, 29, 30, 31, 32, 33, 34, 35, 36, 37, 38, 39, 40, 41, 42, 43, 44, 49, 50, 51, 52, 53, 54, 55, 56, 57, 58, 59, 60, 61, 62, 63, 64, 65, 66, 67, 68, 69, 70, 71, 72, 73, 74, 75, 76, 77, 78, 79, 80, 81, 82, 83, 84, 85] rfl (by decide +kernel)
set_option maxRecDepth 20000 in
theorem gX12_compared_X12_sum : GoodIn wsX12_compared (wsV RX12 96 RX12 yX12_sum wsX12_sum) := goodIn_app (goodIn_r _ [2, 3, 4, 5] rfl (by decide +kernel)) ggX12_compared_X12_sum
set_option maxRecDepth 20000 in
theorem ggX12_compared_X12_here : GoodIn wsX12_compared wsX12_here := goodIn_r _ [9, 1, 10, 11, 12, 13, 63, 64, 65, 66, 67, 68, 69, 70, 71, 72, 73, 74, 75, 76, 77, 78, 79, 80, 81, 82, 83, 84, 85] rfl (by decide +kernel)
set_option maxRecDepth 20000 in
theorem gX12_compared_X12_here : GoodIn wsX12_compared (wsV RX12 71 RX12 yX12_here wsX12_here) := goodIn_app (goodIn_r _ [6, 7, 8, 5] rfl (by decide +kernel)) ggX12_compared_X12_here
set_option maxRecDepth 20000 in
theorem ggX12_compared_X12_lay : GoodIn wsX12_compared wsX12_lay := goodIn_r _ [17, 11, 18, 19, 63, 64, 65, 66, 67, 68, 69, 70, 71, 72, 73, 74, 75, 76, 77, 78, 79, 80, 81, 82, 83, 84, 85] rfl (by decide +kernel)
set_option maxRecDepth 20000 in
theorem gX12_compared_X12_lay : GoodIn wsX12_compared (wsV RX12 89 RX12 yX12_lay wsX12_lay) := goodIn_app (goodIn_r _ [14, 15, 16, 5] rfl (by decide +kernel)) ggX12_compared_X12_lay
theorem dX12_compared_0 : decode cX12_compared 0 = .ok (.aload_n 0, 1) := by decide +kernel
theorem dX12_compared_1 : decode cX12_compared 1 = .ok (.invokevirtual 96, 3) := by decide +kernel
theorem dX12_compared_4 : decode cX12_compared 4 = .ok (.aload_n 0, 1) := by decide +kernel
theorem dX12_compared_5 : decode cX12_compared 5 = .ok (.invokevirtual 71, 3) := by decide +kernel
theorem dX12_compared_8 : decode cX12_compared 8 = .ok (.istore_n 1, 1) := by decide +kernel
theorem dX12_compared_9 : decode cX12_compared 9 = .ok (.iload_n 1, 1) := by decide +kernel
theorem dX12_compared_10 : decode cX12_compared 10 = .ok (.bipush 60, 2) := by decide +kernel
theorem dX12_compared_12 : decode cX12_compared 12 = .ok (.if_icmp .eq 15, 3) := by decide +kernel
theorem dX12_compared_15 : decode cX12_compared 15 = .ok (.iload_n 1, 1) := by decide +kernel
theorem dX12_compared_16 : decode cX12_compared 16 = .ok (.bipush 61, 2) := by decide +kernel
theorem dX12_compared_18 : decode cX12_compared 18 = .ok (.if_icmp .eq 9, 3) := by decide +kernel
theorem dX12_compared_21 : decode cX12_compared 21 = .ok (.iload_n 1, 1) := by decide +kernel
theorem dX12_compared_22 : decode cX12_compared 22 = .ok (.bipush 62, 2) := by decide +kernel
theorem dX12_compared_24 : decode cX12_compared 24 = .ok (.if_icmp .ne 26, 3) := by decide +kernel
theorem dX12_compared_27 : decode cX12_compared 27 = .ok (.aload_n 0, 1) := by decide +kernel
theorem dX12_compared_28 : decode cX12_compared 28 = .ok (.dup, 1) := by decide +kernel
theorem dX12_compared_29 : decode cX12_compared 29 = .ok (.getfield 58, 3) := by decide +kernel
theorem dX12_compared_32 : decode cX12_compared 32 = .ok (.iconst 1, 1) := by decide +kernel
theorem dX12_compared_33 : decode cX12_compared 33 = .ok (.iadd, 1) := by decide +kernel
theorem dX12_compared_34 : decode cX12_compared 34 = .ok (.putfield 58, 3) := by decide +kernel
theorem dX12_compared_37 : decode cX12_compared 37 = .ok (.aload_n 0, 1) := by decide +kernel
theorem dX12_compared_38 : decode cX12_compared 38 = .ok (.invokevirtual 96, 3) := by decide +kernel
theorem dX12_compared_41 : decode cX12_compared 41 = .ok (.aload_n 0, 1) := by decide +kernel
theorem dX12_compared_42 : decode cX12_compared 42 = .ok (.sipush 20000, 3) := by decide +kernel
theorem dX12_compared_45 : decode cX12_compared 45 = .ok (.iload_n 1, 1) := by decide +kernel
theorem dX12_compared_46 : decode cX12_compared 46 = .ok (.iadd, 1) := by decide +kernel
theorem dX12_compared_47 : decode cX12_compared 47 = .ok (.invokevirtual 89, 3) := by decide +kernel
theorem dX12_compared_50 : decode cX12_compared 50 = .ok (.return_, 1) := by decide +kernel
set_option maxRecDepth 20000 in
theorem ggX12_sum_X12_product : GoodIn wsX12_sum wsX12_product := goodIn_r _ [48, 1, 42, 43, 44, 5, 6, 7, 8, 9, 10, 11, 12, 13, 14, 15, 16, 17, 18, 19, 20, 21, 22, 23, 24, 25, 26, 27, 28, 29, 30, 31, 32, 33, 34, 35, 36, 37, 38, 39, 40, 41, 45, 46, 47, 0, 2, 3, 4, 49, 50, 51, 52, 53, 54, 55, 56, 57, 58, 59, 60, 61, 62, 63, 64, 65, 66, 67, 68, 69, 70, 71, 72, 73, 74, 75, 76, 77, 78, 79, 80, 81, 82, 83, 84, 85] rfl (by decide +kernel)
set_option maxRecDepth 20000 in
theorem gX12_sum_X12_product : GoodIn wsX12_sum (wsV RX12 99 RX12 yX12_product wsX12_product) := goodIn_app (goodIn_r _ [2, 3, 4, 5] rfl (by decide +kernel)) ggX12_sum_X12_product
set_option maxRecDepth 20000 in
theorem ggX12_sum_X12_here : GoodIn wsX12_sum wsX12_here := goodIn_r _ [9, 1, 10, 11, 12, 13, 63, 64, 65, 66, 67, 68, 69, 70, 71, 72, 73, 74, 75, 76, 77, 78, 79, 80, 81, 82, 83, 84, 85] rfl (by decide +kernel)
set_option maxRecDepth 20000 in
theorem gX12_sum_X12_here : GoodIn wsX12_sum (wsV RX12 71 RX12 yX12_here wsX12_here) := goodIn_app (goodIn_r _ [6, 7, 8, 5] rfl (by decide +kernel)) ggX12_sum_X12_here
set_option maxRecDepth 20000 in
theorem ggX12_sum_X12_lay : GoodIn wsX12_sum wsX12_lay := goodIn_r _ [17, 11, 18, 19, 63, 64, 65, 66, 67, 68, 69, 70, 71, 72, 73, 74, 75, 76, 77, 78, 79, 80, 81, 82, 83, 84, 85] rfl (by decide +kernel)
set_option maxRecDepth 20000 in
theorem gX12_sum_X12_lay : GoodIn wsX12_sum (wsV RX12 89 RX12 yX12_lay wsX12_lay) := goodIn_app (goodIn_r _ [14, 15, 16, 5] rfl (by decide +kernel)) ggX12_sum_X12_lay
theorem dX12_sum_0 : decode cX12_sum 0 = .ok (.aload_n 0, 1) := by decide +kernel
theorem dX12_sum_1 : decode cX12_sum 1 = .ok (.invokevirtual 99, 3) := by decide +kernel
theorem dX12_sum_4 : decode cX12_sum 4 = .ok (.aload_n 0, 1) := by decide +kernel
theorem dX12_sum_5 : decode cX12_sum 5 = .ok (.invokevirtual 71, 3) := by decide +kernel
theorem dX12_sum_8 : decode cX12_sum 8 = .ok (.bipush 43, 2) := by decide +kernel
theorem dX12_sum_10 : decode cX12_sum 10 = .ok (.if_icmp .eq 12, 3) := by decide +kernel
theorem dX12_sum_13 : decode cX12_sum 13 = .ok (.aload_n 0, 1) := by decide +kernel
theorem dX12_sum_14 : decode cX12_sum 14 = .ok (.invokevirtual 71, 3) := by decide +kernel
theorem dX12_sum_17 : decode cX12_sum 17 = .ok (.bipush 45, 2) := by decide +kernel
theorem dX12_sum_19 : decode cX12_sum 19 = .ok (.if_icmp .ne 34, 3) := by decide +kernel
theorem dX12_sum_22 : decode cX12_sum 22 = .ok (.aload_n 0, 1) := by decide +kernel
theorem dX12_sum_23 : decode cX12_sum 23 = .ok (.invokevirtual 71, 3) := by decide +kernel
theorem dX12_sum_26 : decode cX12_sum 26 = .ok (.istore_n 1, 1) := by decide +kernel
theorem dX12_sum_27 : decode cX12_sum 27 = .ok (.aload_n 0, 1) := by decide +kernel
theorem dX12_sum_28 : decode cX12_sum 28 = .ok (.dup, 1) := by decide +kernel
theorem dX12_sum_29 : decode cX12_sum 29 = .ok (.getfield 58, 3) := by decide +kernel
theorem dX12_sum_32 : decode cX12_sum 32 = .ok (.iconst 1, 1) := by decide +kernel
theorem dX12_sum_33 : decode cX12_sum 33 = .ok (.iadd, 1) := by decide +kernel
theorem dX12_sum_34 : decode cX12_sum 34 = .ok (.putfield 58, 3) := by decide +kernel
theorem dX12_sum_37 : decode cX12_sum 37 = .ok (.aload_n 0, 1) := by decide +kernel
theorem dX12_sum_38 : decode cX12_sum 38 = .ok (.invokevirtual 99, 3) := by decide +kernel
theorem dX12_sum_41 : decode cX12_sum 41 = .ok (.aload_n 0, 1) := by decide +kernel
theorem dX12_sum_42 : decode cX12_sum 42 = .ok (.sipush 20000, 3) := by decide +kernel
theorem dX12_sum_45 : decode cX12_sum 45 = .ok (.iload_n 1, 1) := by decide +kernel
theorem dX12_sum_46 : decode cX12_sum 46 = .ok (.iadd, 1) := by decide +kernel
theorem dX12_sum_47 : decode cX12_sum 47 = .ok (.invokevirtual 89, 3) := by decide +kernel
theorem dX12_sum_50 : decode cX12_sum 50 = .ok (.goto (-46), 3) := by decide +kernel
theorem dX12_sum_53 : decode cX12_sum 53 = .ok (.return_, 1) := by decide +kernel
set_option maxRecDepth 20000 in
theorem ggX12_product_X12_unit : GoodIn wsX12_product wsX12_unit := goodIn_r _ [49, 1, 50, 51, 6, 7, 8, 5, 9, 10, 11, 12, 13, 52, 53, 54, 55, 56, 57, 58, 59, 14, 15, 16, 17, 18, 19, 60, 61, 62, 38, 39, 40, 41, 20, 21, 22, 23, 24, 25, 26, 27, 28, 29, 30, 31, 32, 33, 34, 35, 36, 37, 2, 3, 4, 42, 43, 44, 0, 45, 46, 47, 48, 63, 64, 65, 66, 67, 68, 69, 70, 71, 72, 73, 74, 75, 76, 77, 78, 79, 80, 81, 82, 83, 84, 85] rfl (by decide +kernel)
set_option maxRecDepth 20000 in
theorem gX12_product_X12_unit : GoodIn wsX12_product (wsV RX12 102 RX12 yX12_unit wsX12_unit) := goodIn_app (goodIn_r _ [2, 3, 4, 5] rfl (by decide +kernel)) ggX12_product_X12_unit
set_option maxRecDepth 20000 in
theorem ggX12_product_X12_here : GoodIn wsX12_product wsX12_here := goodIn_r _ [9, 1, 10, 11, 12, 13, 63, 64, 65, 66, 67, 68, 69, 70, 71, 72, 73, 74, 75, 76, 77, 78, 79, 80, 81, 82, 83, 84, 85] rfl (by decide +kernel)
set_option maxRecDepth 20000 in
theorem gX12_product_X12_here : GoodIn wsX12_product (wsV RX12 71 RX12 yX12_here wsX12_here) := goodIn_app (goodIn_r _ [6, 7, 8, 5] rfl (by decide +kernel)) ggX12_product_X12_here
set_option maxRecDepth 20000 in
theorem ggX12_product_X12_lay : GoodIn wsX12_product wsX12_lay := goodIn_r _ [17, 11, 18, 19, 63, 64, 65, 66, 67, 68, 69, 70, 71, 72, 73, 74, 75, 76, 77, 78, 79, 80, 81, 82, 83, 84, 85] rfl (by decide +kernel)
set_option maxRecDepth 20000 in
theorem gX12_product_X12_lay : GoodIn wsX12_product (wsV RX12 89 RX12 yX12_lay wsX12_lay) := goodIn_app (goodIn_r _ [14, 15, 16, 5] rfl (by decide +kernel)) ggX12_product_X12_lay
theorem dX12_product_0 : decode cX12_product 0 = .ok (.aload_n 0, 1) := by decide +kernel
theorem dX12_product_1 : decode cX12_product 1 = .ok (.invokevirtual 102, 3) := by decide +kernel
theorem dX12_product_4 : decode cX12_product 4 = .ok (.aload_n 0, 1) := by decide +kernel
theorem dX12_product_5 : decode cX12_product 5 = .ok (.invokevirtual 71, 3) := by decide +kernel
theorem dX12_product_8 : decode cX12_product 8 = .ok (.bipush 42, 2) := by decide +kernel
theorem dX12_product_10 : decode cX12_product 10 = .ok (.if_icmp .eq 21, 3) := by decide +kernel
theorem dX12_product_13 : decode cX12_product 13 = .ok (.aload_n 0, 1) := by decide +kernel
theorem dX12_product_14 : decode cX12_product 14 = .ok (.invokevirtual 71, 3) := by decide +kernel
theorem dX12_product_17 : decode cX12_product 17 = .ok (.bipush 47, 2) := by decide +kernel
theorem dX12_product_19 : decode cX12_product 19 = .ok (.if_icmp .eq 12, 3) := by decide +kernel
theorem dX12_product_22 : decode cX12_product 22 = .ok (.aload_n 0, 1) := by decide +kernel
theorem dX12_product_23 : decode cX12_product 23 = .ok (.invokevirtual 71, 3) := by decide +kernel
theorem dX12_product_26 : decode cX12_product 26 = .ok (.bipush 37, 2) := by decide +kernel
theorem dX12_product_28 : decode cX12_product 28 = .ok (.if_icmp .ne 34, 3) := by decide +kernel
theorem dX12_product_31 : decode cX12_product 31 = .ok (.aload_n 0, 1) := by decide +kernel
theorem dX12_product_32 : decode cX12_product 32 = .ok (.invokevirtual 71, 3) := by decide +kernel
theorem dX12_product_35 : decode cX12_product 35 = .ok (.istore_n 1, 1) := by decide +kernel
theorem dX12_product_36 : decode cX12_product 36 = .ok (.aload_n 0, 1) := by decide +kernel
theorem dX12_product_37 : decode cX12_product 37 = .ok (.dup, 1) := by decide +kernel
theorem dX12_product_38 : decode cX12_product 38 = .ok (.getfield 58, 3) := by decide +kernel
theorem dX12_product_41 : decode cX12_product 41 = .ok (.iconst 1, 1) := by decide +kernel
theorem dX12_product_42 : decode cX12_product 42 = .ok (.iadd, 1) := by decide +kernel
theorem dX12_product_43 : decode cX12_product 43 = .ok (.putfield 58, 3) := by decide +kernel
theorem dX12_product_46 : decode cX12_product 46 = .ok (.aload_n 0, 1) := by decide +kernel
theorem dX12_product_47 : decode cX12_product 47 = .ok (.invokevirtual 102, 3) := by decide +kernel
theorem dX12_product_50 : decode cX12_product 50 = .ok (.aload_n 0, 1) := by decide +kernel
theorem dX12_product_51 : decode cX12_product 51 = .ok (.sipush 20000, 3) := by decide +kernel
theorem dX12_product_54 : decode cX12_product 54 = .ok (.iload_n 1, 1) := by decide +kernel
theorem dX12_product_55 : decode cX12_product 55 = .ok (.iadd, 1) := by decide +kernel
theorem dX12_product_56 : decode cX12_product 56 = .ok (.invokevirtual 89, 3) := by decide +kernel
theorem dX12_product_59 : decode cX12_product 59 = .ok (.goto (-55), 3) := by decide +kernel
theorem dX12_product_62 : decode cX12_product 62 = .ok (.return_, 1) := by decide +kernel
set_option maxRecDepth 20000 in
theorem ggX12_opens_X12_wrong : GoodIn wsX12_opens wsX12_wrong := goodIn_r _ [7, 8, 2, 63, 64, 65, 66, 67, 68, 69, 70, 71, 72, 73, 74, 75, 76, 77, 78, 79, 80, 81, 82, 83, 84, 85] rfl (by decide +kernel)
set_option maxRecDepth 20000 in
theorem gX12_opens_X12_wrong : GoodIn wsX12_opens (wsV RX12 108 RX12 yX12_wrong wsX12_wrong) := goodIn_app (goodIn_r _ [3, 4, 5, 6] rfl (by decide +kernel)) ggX12_opens_X12_wrong
set_option maxRecDepth 20000 in
theorem ggX12_opens_X12_unit : GoodIn wsX12_opens wsX12_unit := goodIn_r _ [49, 2, 50, 51, 25, 26, 27, 6, 28, 29, 8, 30, 31, 52, 53, 54, 55, 56, 57, 58, 59, 12, 13, 14, 15, 16, 17, 60, 61, 62, 3, 4, 5, 7, 32, 33, 34, 35, 21, 22, 23, 24, 36, 37, 38, 39, 40, 41, 42, 43, 0, 1, 9, 10, 11, 18, 19, 20, 44, 45, 46, 47, 48, 63, 64, 65, 66, 67, 68, 69, 70, 71, 72, 73, 74, 75, 76, 77, 78, 79, 80, 81, 82, 83, 84, 85] rfl (by decide +kernel)
set_option maxRecDepth 20000 in
theorem gX12_opens_X12_unit : GoodIn wsX12_opens (wsV RX12 102 RX12 yX12_unit wsX12_unit) := goodIn_app (goodIn_r _ [9, 10, 11, 6] rfl (by decide +kernel)) ggX12_opens_X12_unit
set_option maxRecDepth 20000 in
theorem ggX12_opens_X12_lay : GoodIn wsX12_opens wsX12_lay := goodIn_r _ [15, 8, 16, 17, 63, 64, 65, 66, 67, 68, 69, 70, 71, 72, 73, 74, 75, 76, 77, 78, 79, 80, 81, 82, 83, 84, 85] rfl (by decide +kernel)
set_option maxRecDepth 20000 in
theorem gX12_opens_X12_lay : GoodIn wsX12_opens (wsV RX12 89 RX12 yX12_lay wsX12_lay) := goodIn_app (goodIn_r _ [12, 13, 14, 6] rfl (by decide +kernel)) ggX12_opens_X12_lay
set_option maxRecDepth 20000 in
theorem ggX12_opens_X12_either : GoodIn wsX12_opens wsX12_either := goodIn_r _ [40, 41, 42, 43, 6, 21, 22, 23, 24, 2, 25, 26, 27, 28, 29, 8, 30, 31, 12, 13, 14, 15, 16, 17, 32, 33, 34, 35, 36, 37, 38, 39, 0, 1, 3, 4, 5, 7, 9, 10, 11, 18, 19, 20, 44, 45, 46, 47, 48, 49, 50, 51, 52, 53, 54, 55, 56, 57, 58, 59, 60, 61, 62, 63, 64, 65, 66, 67, 68, 69, 70, 71, 72, 73, 74, 75, 76, 77, 78, 79, 80, 81, 82, 83, 84, 85] rfl (by decide +kernel)
set_option maxRecDepth 20000 in
theorem gX12_opens_X12_either : GoodIn wsX12_opens (wsV RX12 111 RX12 yX12_either wsX12_either) := goodIn_app (goodIn_r _ [18, 19, 20, 6] rfl (by decide +kernel)) ggX12_opens_X12_either
set_option maxRecDepth 20000 in
theorem ggX12_opens_X12_takes : GoodIn wsX12_opens wsX12_takes := goodIn_r _ [24, 2, 25, 26, 27, 6, 28, 29, 8, 30, 31, 63, 64, 65, 66, 67, 68, 69, 70, 71, 72, 73, 74, 75, 76, 77, 78, 79, 80, 81, 82, 83, 84, 85] rfl (by decide +kernel)
set_option maxRecDepth 20000 in
theorem gX12_opens_X12_takes : GoodIn wsX12_opens (wsV RX12 85 RX12 yX12_takes wsX12_takes) := goodIn_app (goodIn_r _ [21, 22, 23, 6] rfl (by decide +kernel)) ggX12_opens_X12_takes
theorem dX12_opens_0 : decode cX12_opens 0 = .ok (.aload_n 0, 1) := by decide +kernel
theorem dX12_opens_1 : decode cX12_opens 1 = .ok (.getfield 105, 3) := by decide +kernel
theorem dX12_opens_4 : decode cX12_opens 4 = .ok (.iconst 5, 1) := by decide +kernel
theorem dX12_opens_5 : decode cX12_opens 5 = .ok (.if_icmp .ne 8, 3) := by decide +kernel
theorem dX12_opens_8 : decode cX12_opens 8 = .ok (.aload_n 0, 1) := by decide +kernel
theorem dX12_opens_9 : decode cX12_opens 9 = .ok (.invokevirtual 108, 3) := by decide +kernel
theorem dX12_opens_12 : decode cX12_opens 12 = .ok (.return_, 1) := by decide +kernel
theorem dX12_opens_13 : decode cX12_opens 13 = .ok (.aload_n 0, 1) := by decide +kernel
theorem dX12_opens_14 : decode cX12_opens 14 = .ok (.dup, 1) := by decide +kernel
theorem dX12_opens_15 : decode cX12_opens 15 = .ok (.getfield 105, 3) := by decide +kernel
theorem dX12_opens_18 : decode cX12_opens 18 = .ok (.iconst 1, 1) := by decide +kernel
theorem dX12_opens_19 : decode cX12_opens 19 = .ok (.iadd, 1) := by decide +kernel
theorem dX12_opens_20 : decode cX12_opens 20 = .ok (.putfield 105, 3) := by decide +kernel
theorem dX12_opens_23 : decode cX12_opens 23 = .ok (.aload_n 0, 1) := by decide +kernel
theorem dX12_opens_24 : decode cX12_opens 24 = .ok (.dup, 1) := by decide +kernel
theorem dX12_opens_25 : decode cX12_opens 25 = .ok (.getfield 58, 3) := by decide +kernel
theorem dX12_opens_28 : decode cX12_opens 28 = .ok (.iconst 1, 1) := by decide +kernel
theorem dX12_opens_29 : decode cX12_opens 29 = .ok (.iadd, 1) := by decide +kernel
theorem dX12_opens_30 : decode cX12_opens 30 = .ok (.putfield 58, 3) := by decide +kernel
theorem dX12_opens_33 : decode cX12_opens 33 = .ok (.iload_n 1, 1) := by decide +kernel
theorem dX12_opens_34 : decode cX12_opens 34 = .ok (.bipush 33, 2) := by decide +kernel
theorem dX12_opens_36 : decode cX12_opens 36 = .ok (.if_icmp .ne 17, 3) := by decide +kernel
theorem dX12_opens_39 : decode cX12_opens 39 = .ok (.aload_n 0, 1) := by decide +kernel
theorem dX12_opens_40 : decode cX12_opens 40 = .ok (.invokevirtual 102, 3) := by decide +kernel
theorem dX12_opens_43 : decode cX12_opens 43 = .ok (.aload_n 0, 1) := by decide +kernel
theorem dX12_opens_44 : decode cX12_opens 44 = .ok (.sipush 20033, 3) := by decide +kernel
theorem dX12_opens_47 : decode cX12_opens 47 = .ok (.invokevirtual 89, 3) := by decide +kernel
theorem dX12_opens_50 : decode cX12_opens 50 = .ok (.goto 20, 3) := by decide +kernel
theorem dX12_opens_53 : decode cX12_opens 53 = .ok (.aload_n 0, 1) := by decide +kernel
theorem dX12_opens_54 : decode cX12_opens 54 = .ok (.invokevirtual 111, 3) := by decide +kernel
theorem dX12_opens_57 : decode cX12_opens 57 = .ok (.aload_n 0, 1) := by decide +kernel
theorem dX12_opens_58 : decode cX12_opens 58 = .ok (.bipush 41, 2) := by decide +kernel
theorem dX12_opens_60 : decode cX12_opens 60 = .ok (.invokevirtual 85, 3) := by decide +kernel
theorem dX12_opens_63 : decode cX12_opens 63 = .ok (.ifCond .ne 7, 3) := by decide +kernel
theorem dX12_opens_66 : decode cX12_opens 66 = .ok (.aload_n 0, 1) := by decide +kernel
theorem dX12_opens_67 : decode cX12_opens 67 = .ok (.invokevirtual 108, 3) := by decide +kernel
theorem dX12_opens_70 : decode cX12_opens 70 = .ok (.aload_n 0, 1) := by decide +kernel
theorem dX12_opens_71 : decode cX12_opens 71 = .ok (.dup, 1) := by decide +kernel
theorem dX12_opens_72 : decode cX12_opens 72 = .ok (.getfield 105, 3) := by decide +kernel
theorem dX12_opens_75 : decode cX12_opens 75 = .ok (.iconst 1, 1) := by decide +kernel
theorem dX12_opens_76 : decode cX12_opens 76 = .ok (.isub, 1) := by decide +kernel
theorem dX12_opens_77 : decode cX12_opens 77 = .ok (.putfield 105, 3) := by decide +kernel
theorem dX12_opens_80 : decode cX12_opens 80 = .ok (.return_, 1) := by decide +kernel
set_option maxRecDepth 20000 in
theorem ggX12_unit_X12_here : GoodIn wsX12_unit wsX12_here := goodIn_r _ [8, 1, 9, 10, 11, 12, 63, 64, 65, 66, 67, 68, 69, 70, 71, 72, 73, 74, 75, 76, 77, 78, 79, 80, 81, 82, 83, 84, 85] rfl (by decide +kernel)
set_option maxRecDepth 20000 in
theorem gX12_unit_X12_here : GoodIn wsX12_unit (wsV RX12 71 RX12 yX12_here wsX12_here) := goodIn_app (goodIn_r _ [4, 5, 6, 7] rfl (by decide +kernel)) ggX12_unit_X12_here
set_option maxRecDepth 20000 in
theorem ggX12_unit_X12_opens : GoodIn wsX12_unit wsX12_opens := goodIn_r _ [50, 51, 1, 30, 31, 32, 7, 33, 10, 52, 53, 54, 21, 22, 23, 24, 25, 26, 55, 56, 57, 38, 39, 40, 41, 4, 5, 6, 8, 9, 11, 12, 34, 35, 36, 37, 42, 43, 44, 45, 46, 47, 48, 49, 58, 59, 60, 61, 62, 0, 2, 3, 13, 14, 15, 16, 17, 18, 19, 20, 27, 28, 29, 63, 64, 65, 66, 67, 68, 69, 70, 71, 72, 73, 74, 75, 76, 77, 78, 79, 80, 81, 82, 83, 84, 85] rfl (by decide +kernel)
set_option maxRecDepth 20000 in
theorem gX12_unit_X12_opens : GoodIn wsX12_unit (wsV RX12 114 RX12 yX12_opens wsX12_opens) := goodIn_app (goodIn_r _ [13, 14, 15, 7] rfl (by decide +kernel)) ggX12_unit_X12_opens
set_option maxRecDepth 20000 in
theorem ggX12_unit_X12_nameOf : GoodIn wsX12_unit wsX12_nameOf := goodIn_r _ [19, 20, 63, 64, 65, 66, 67, 68, 69, 70, 71, 72, 73, 74, 75, 76, 77, 78, 79, 80, 81, 82, 83, 84, 85] rfl (by decide +kernel)
set_option maxRecDepth 20000 in
theorem gX12_unit_X12_nameOf : GoodIn wsX12_unit (wsV RX12 117 RX12 yX12_nameOf wsX12_nameOf) := goodIn_app (goodIn_r _ [16, 17, 18, 7] rfl (by decide +kernel)) ggX12_unit_X12_nameOf
set_option maxRecDepth 20000 in
theorem ggX12_unit_X12_lay : GoodIn wsX12_unit wsX12_lay := goodIn_r _ [24, 10, 25, 26, 63, 64, 65, 66, 67, 68, 69, 70, 71, 72, 73, 74, 75, 76, 77, 78, 79, 80, 81, 82, 83, 84, 85] rfl (by decide +kernel)
set_option maxRecDepth 20000 in
theorem gX12_unit_X12_lay : GoodIn wsX12_unit (wsV RX12 89 RX12 yX12_lay wsX12_lay) := goodIn_app (goodIn_r _ [21, 22, 23, 7] rfl (by decide +kernel)) ggX12_unit_X12_lay
set_option maxRecDepth 20000 in
theorem ggX12_unit_X12_in : GoodIn wsX12_unit wsX12_in := goodIn_r _ [29] rfl (by decide +kernel)
set_option maxRecDepth 20000 in
theorem gX12_unit_X12_in : GoodIn wsX12_unit (va_wsS RX12 50 yX12_in wsX12_in) := goodIn_app (goodIn_r _ [27, 28, 7] rfl (by decide +kernel)) ggX12_unit_X12_in
set_option maxRecDepth 20000 in
theorem ggX12_unit_X12_wrong : GoodIn wsX12_unit wsX12_wrong := goodIn_r _ [33, 10, 1, 63, 64, 65, 66, 67, 68, 69, 70, 71, 72, 73, 74, 75, 76, 77, 78, 79, 80, 81, 82, 83, 84, 85] rfl (by decide +kernel)
set_option maxRecDepth 20000 in
theorem gX12_unit_X12_wrong : GoodIn wsX12_unit (wsV RX12 108 RX12 yX12_wrong wsX12_wrong) := goodIn_app (goodIn_r _ [30, 31, 32, 7] rfl (by decide +kernel)) ggX12_unit_X12_wrong
theorem dX12_unit_0 : decode cX12_unit 0 = .ok (.aload_n 0, 1) := by decide +kernel
theorem dX12_unit_1 : decode cX12_unit 1 = .ok (.invokevirtual 71, 3) := by decide +kernel
theorem dX12_unit_4 : decode cX12_unit 4 = .ok (.istore_n 1, 1) := by decide +kernel
theorem dX12_unit_5 : decode cX12_unit 5 = .ok (.iload_n 1, 1) := by decide +kernel
theorem dX12_unit_6 : decode cX12_unit 6 = .ok (.bipush 33, 2) := by decide +kernel
theorem dX12_unit_8 : decode cX12_unit 8 = .ok (.if_icmp .eq 9, 3) := by decide +kernel
theorem dX12_unit_11 : decode cX12_unit 11 = .ok (.iload_n 1, 1) := by decide +kernel
theorem dX12_unit_12 : decode cX12_unit 12 = .ok (.bipush 40, 2) := by decide +kernel
theorem dX12_unit_14 : decode cX12_unit 14 = .ok (.if_icmp .ne 9, 3) := by decide +kernel
theorem dX12_unit_17 : decode cX12_unit 17 = .ok (.aload_n 0, 1) := by decide +kernel
theorem dX12_unit_18 : decode cX12_unit 18 = .ok (.iload_n 1, 1) := by decide +kernel
theorem dX12_unit_19 : decode cX12_unit 19 = .ok (.invokevirtual 114, 3) := by decide +kernel
theorem dX12_unit_22 : decode cX12_unit 22 = .ok (.return_, 1) := by decide +kernel
theorem dX12_unit_23 : decode cX12_unit 23 = .ok (.aload_n 0, 1) := by decide +kernel
theorem dX12_unit_24 : decode cX12_unit 24 = .ok (.iload_n 1, 1) := by decide +kernel
theorem dX12_unit_25 : decode cX12_unit 25 = .ok (.invokevirtual 117, 3) := by decide +kernel
theorem dX12_unit_28 : decode cX12_unit 28 = .ok (.istore_n 2, 1) := by decide +kernel
theorem dX12_unit_29 : decode cX12_unit 29 = .ok (.iload_n 2, 1) := by decide +kernel
theorem dX12_unit_30 : decode cX12_unit 30 = .ok (.ifCond .lt 23, 3) := by decide +kernel
theorem dX12_unit_33 : decode cX12_unit 33 = .ok (.aload_n 0, 1) := by decide +kernel
theorem dX12_unit_34 : decode cX12_unit 34 = .ok (.dup, 1) := by decide +kernel
theorem dX12_unit_35 : decode cX12_unit 35 = .ok (.getfield 58, 3) := by decide +kernel
theorem dX12_unit_38 : decode cX12_unit 38 = .ok (.iconst 1, 1) := by decide +kernel
theorem dX12_unit_39 : decode cX12_unit 39 = .ok (.iadd, 1) := by decide +kernel
theorem dX12_unit_40 : decode cX12_unit 40 = .ok (.putfield 58, 3) := by decide +kernel
theorem dX12_unit_43 : decode cX12_unit 43 = .ok (.aload_n 0, 1) := by decide +kernel
theorem dX12_unit_44 : decode cX12_unit 44 = .ok (.sipush 10000, 3) := by decide +kernel
theorem dX12_unit_47 : decode cX12_unit 47 = .ok (.iload_n 2, 1) := by decide +kernel
theorem dX12_unit_48 : decode cX12_unit 48 = .ok (.iadd, 1) := by decide +kernel
theorem dX12_unit_49 : decode cX12_unit 49 = .ok (.invokevirtual 89, 3) := by decide +kernel
theorem dX12_unit_52 : decode cX12_unit 52 = .ok (.return_, 1) := by decide +kernel
theorem dX12_unit_53 : decode cX12_unit 53 = .ok (.iconst 0, 1) := by decide +kernel
theorem dX12_unit_54 : decode cX12_unit 54 = .ok (.istore_n 3, 1) := by decide +kernel
theorem dX12_unit_55 : decode cX12_unit 55 = .ok (.iconst 0, 1) := by decide +kernel
theorem dX12_unit_56 : decode cX12_unit 56 = .ok (.istore 4, 2) := by decide +kernel
theorem dX12_unit_58 : decode cX12_unit 58 = .ok (.iload 4, 2) := by decide +kernel
theorem dX12_unit_60 : decode cX12_unit 60 = .ok (.iconst 4, 1) := by decide +kernel
theorem dX12_unit_61 : decode cX12_unit 61 = .ok (.if_icmp .ge 49, 3) := by decide +kernel
theorem dX12_unit_64 : decode cX12_unit 64 = .ok (.aload_n 0, 1) := by decide +kernel
theorem dX12_unit_65 : decode cX12_unit 65 = .ok (.invokevirtual 71, 3) := by decide +kernel
theorem dX12_unit_68 : decode cX12_unit 68 = .ok (.i2l, 1) := by decide +kernel
theorem dX12_unit_69 : decode cX12_unit 69 = .ok (.ldc2_w 121, 3) := by decide +kernel
theorem dX12_unit_72 : decode cX12_unit 72 = .ok (.ldc2_w 123, 3) := by decide +kernel
theorem dX12_unit_75 : decode cX12_unit 75 = .ok (.invokestatic 50, 3) := by decide +kernel
theorem dX12_unit_78 : decode cX12_unit 78 = .ok (.ifCond .eq 32, 3) := by decide +kernel
theorem dX12_unit_81 : decode cX12_unit 81 = .ok (.bipush 10, 2) := by decide +kernel
theorem dX12_unit_83 : decode cX12_unit 83 = .ok (.iload_n 3, 1) := by decide +kernel
theorem dX12_unit_84 : decode cX12_unit 84 = .ok (.imul, 1) := by decide +kernel
theorem dX12_unit_85 : decode cX12_unit 85 = .ok (.aload_n 0, 1) := by decide +kernel
theorem dX12_unit_86 : decode cX12_unit 86 = .ok (.invokevirtual 71, 3) := by decide +kernel
theorem dX12_unit_89 : decode cX12_unit 89 = .ok (.iadd, 1) := by decide +kernel
theorem dX12_unit_90 : decode cX12_unit 90 = .ok (.bipush 48, 2) := by decide +kernel
theorem dX12_unit_92 : decode cX12_unit 92 = .ok (.isub, 1) := by decide +kernel
theorem dX12_unit_93 : decode cX12_unit 93 = .ok (.istore_n 3, 1) := by decide +kernel
theorem dX12_unit_94 : decode cX12_unit 94 = .ok (.aload_n 0, 1) := by decide +kernel
theorem dX12_unit_95 : decode cX12_unit 95 = .ok (.dup, 1) := by decide +kernel
theorem dX12_unit_96 : decode cX12_unit 96 = .ok (.getfield 58, 3) := by decide +kernel
theorem dX12_unit_99 : decode cX12_unit 99 = .ok (.iconst 1, 1) := by decide +kernel
theorem dX12_unit_100 : decode cX12_unit 100 = .ok (.iadd, 1) := by decide +kernel
theorem dX12_unit_101 : decode cX12_unit 101 = .ok (.putfield 58, 3) := by decide +kernel
theorem dX12_unit_104 : decode cX12_unit 104 = .ok (.iinc 4 1, 3) := by decide +kernel
theorem dX12_unit_107 : decode cX12_unit 107 = .ok (.goto (-49), 3) := by decide +kernel
theorem dX12_unit_110 : decode cX12_unit 110 = .ok (.iload 4, 2) := by decide +kernel
theorem dX12_unit_112 : decode cX12_unit 112 = .ok (.ifCond .ne 7, 3) := by decide +kernel
theorem dX12_unit_115 : decode cX12_unit 115 = .ok (.aload_n 0, 1) := by decide +kernel
theorem dX12_unit_116 : decode cX12_unit 116 = .ok (.invokevirtual 108, 3) := by decide +kernel
theorem dX12_unit_119 : decode cX12_unit 119 = .ok (.aload_n 0, 1) := by decide +kernel
theorem dX12_unit_120 : decode cX12_unit 120 = .ok (.iload_n 3, 1) := by decide +kernel
theorem dX12_unit_121 : decode cX12_unit 121 = .ok (.invokevirtual 89, 3) := by decide +kernel
theorem dX12_unit_124 : decode cX12_unit 124 = .ok (.return_, 1) := by decide +kernel
set_option maxRecDepth 20000 in
theorem ggX12_reads_X12_either : GoodIn wsX12_reads wsX12_either := goodIn_r _ [12, 13, 14, 15, 11, 16, 17, 18, 19, 2, 20, 21, 22, 23, 3, 4, 24, 1, 25, 26, 27, 28, 29, 6, 30, 31, 32, 33, 34, 35, 36, 37, 38, 5, 39, 40, 41, 42, 43, 44, 45, 8, 9, 10, 46, 47, 48, 49, 50, 51, 52, 53, 54, 55, 56, 57, 58, 59, 60, 7, 61, 62, 63, 64, 65, 66, 67, 68, 69, 70, 71, 72, 73, 74, 75, 76, 77, 78, 79, 80, 81, 82, 83, 84, 85, 86] rfl (by decide +kernel)
set_option maxRecDepth 20000 in
theorem gX12_reads_X12_either : GoodIn wsX12_reads (wsV RX12 111 RX12 yX12_either wsX12_either) := goodIn_app (goodIn_r _ [8, 9, 10, 11] rfl (by decide +kernel)) ggX12_reads_X12_either
set_option maxRecDepth 20000 in
theorem ggX12_reads_X12_wrong : GoodIn wsX12_reads wsX12_wrong := goodIn_r _ [42, 4, 2, 64, 65, 66, 67, 68, 69, 70, 71, 72, 73, 74, 75, 76, 77, 78, 79, 80, 81, 82, 83, 84, 85, 86] rfl (by decide +kernel)
set_option maxRecDepth 20000 in
theorem gX12_reads_X12_wrong : GoodIn wsX12_reads (wsV RX12 108 RX12 yX12_wrong wsX12_wrong) := goodIn_app (goodIn_r _ [39, 40, 41, 11] rfl (by decide +kernel)) ggX12_reads_X12_wrong
theorem dX12_reads_0 : decode cX12_reads 0 = .ok (.aload_n 0, 1) := by decide +kernel
theorem dX12_reads_1 : decode cX12_reads 1 = .ok (.iload_n 1, 1) := by decide +kernel
theorem dX12_reads_2 : decode cX12_reads 2 = .ok (.putfield 68, 3) := by decide +kernel
theorem dX12_reads_5 : decode cX12_reads 5 = .ok (.aload_n 0, 1) := by decide +kernel
theorem dX12_reads_6 : decode cX12_reads 6 = .ok (.iconst 0, 1) := by decide +kernel
theorem dX12_reads_7 : decode cX12_reads 7 = .ok (.putfield 58, 3) := by decide +kernel
theorem dX12_reads_10 : decode cX12_reads 10 = .ok (.aload_n 0, 1) := by decide +kernel
theorem dX12_reads_11 : decode cX12_reads 11 = .ok (.iload_n 2, 1) := by decide +kernel
theorem dX12_reads_12 : decode cX12_reads 12 = .ok (.putfield 62, 3) := by decide +kernel
theorem dX12_reads_15 : decode cX12_reads 15 = .ok (.aload_n 0, 1) := by decide +kernel
theorem dX12_reads_16 : decode cX12_reads 16 = .ok (.iconst (-1), 1) := by decide +kernel
theorem dX12_reads_17 : decode cX12_reads 17 = .ok (.putfield 65, 3) := by decide +kernel
theorem dX12_reads_20 : decode cX12_reads 20 = .ok (.aload_n 0, 1) := by decide +kernel
theorem dX12_reads_21 : decode cX12_reads 21 = .ok (.iconst 0, 1) := by decide +kernel
theorem dX12_reads_22 : decode cX12_reads 22 = .ok (.putfield 105, 3) := by decide +kernel
theorem dX12_reads_25 : decode cX12_reads 25 = .ok (.aload_n 0, 1) := by decide +kernel
theorem dX12_reads_26 : decode cX12_reads 26 = .ok (.iconst 0, 1) := by decide +kernel
theorem dX12_reads_27 : decode cX12_reads 27 = .ok (.putfield 79, 3) := by decide +kernel
theorem dX12_reads_30 : decode cX12_reads 30 = .ok (.aload_n 0, 1) := by decide +kernel
theorem dX12_reads_31 : decode cX12_reads 31 = .ok (.iload_n 3, 1) := by decide +kernel
theorem dX12_reads_32 : decode cX12_reads 32 = .ok (.iconst 1, 1) := by decide +kernel
theorem dX12_reads_33 : decode cX12_reads 33 = .ok (.if_icmp .ne 7, 3) := by decide +kernel
theorem dX12_reads_36 : decode cX12_reads 36 = .ok (.iconst 1, 1) := by decide +kernel
theorem dX12_reads_37 : decode cX12_reads 37 = .ok (.goto 4, 3) := by decide +kernel
theorem dX12_reads_40 : decode cX12_reads 40 = .ok (.iconst 0, 1) := by decide +kernel
theorem dX12_reads_41 : decode cX12_reads 41 = .ok (.putfield 75, 3) := by decide +kernel
theorem dX12_reads_44 : decode cX12_reads 44 = .ok (.aload_n 0, 1) := by decide +kernel
theorem dX12_reads_45 : decode cX12_reads 45 = .ok (.invokevirtual 111, 3) := by decide +kernel
theorem dX12_reads_48 : decode cX12_reads 48 = .ok (.aload_n 0, 1) := by decide +kernel
theorem dX12_reads_49 : decode cX12_reads 49 = .ok (.getfield 65, 3) := by decide +kernel
theorem dX12_reads_52 : decode cX12_reads 52 = .ok (.ifCond .ge 18, 3) := by decide +kernel
theorem dX12_reads_55 : decode cX12_reads 55 = .ok (.aload_n 0, 1) := by decide +kernel
theorem dX12_reads_56 : decode cX12_reads 56 = .ok (.getfield 58, 3) := by decide +kernel
theorem dX12_reads_59 : decode cX12_reads 59 = .ok (.aload_n 0, 1) := by decide +kernel
theorem dX12_reads_60 : decode cX12_reads 60 = .ok (.getfield 62, 3) := by decide +kernel
theorem dX12_reads_63 : decode cX12_reads 63 = .ok (.if_icmp .ge 7, 3) := by decide +kernel
theorem dX12_reads_66 : decode cX12_reads 66 = .ok (.aload_n 0, 1) := by decide +kernel
theorem dX12_reads_67 : decode cX12_reads 67 = .ok (.invokevirtual 108, 3) := by decide +kernel
theorem dX12_reads_70 : decode cX12_reads 70 = .ok (.return_, 1) := by decide +kernel
theorem dX12_done_0 : decode cX12_done 0 = .ok (.iload_n 0, 1) := by decide +kernel
theorem dX12_done_1 : decode cX12_done 1 = .ok (.lookupswitch 168 #[(38, 97), (42, 152), (43, 144), (45, 148), (47, 156), (60, 111), (61, 122), (62, 133), (124, 83)], 83) := by decide +kernel
theorem dX12_done_84 : decode cX12_done 84 = .ok (.iload_n 1, 1) := by decide +kernel
theorem dX12_done_85 : decode cX12_done 85 = .ok (.ifCond .ne 7, 3) := by decide +kernel
theorem dX12_done_88 : decode cX12_done 88 = .ok (.iload_n 2, 1) := by decide +kernel
theorem dX12_done_89 : decode cX12_done 89 = .ok (.ifCond .eq 7, 3) := by decide +kernel
theorem dX12_done_92 : decode cX12_done 92 = .ok (.iconst 1, 1) := by decide +kernel
theorem dX12_done_93 : decode cX12_done 93 = .ok (.goto 4, 3) := by decide +kernel
theorem dX12_done_96 : decode cX12_done 96 = .ok (.iconst 0, 1) := by decide +kernel
theorem dX12_done_97 : decode cX12_done 97 = .ok (.ireturn, 1) := by decide +kernel
theorem dX12_done_98 : decode cX12_done 98 = .ok (.iload_n 1, 1) := by decide +kernel
theorem dX12_done_99 : decode cX12_done 99 = .ok (.ifCond .eq 11, 3) := by decide +kernel
theorem dX12_done_102 : decode cX12_done 102 = .ok (.iload_n 2, 1) := by decide +kernel
theorem dX12_done_103 : decode cX12_done 103 = .ok (.ifCond .eq 7, 3) := by decide +kernel
theorem dX12_done_106 : decode cX12_done 106 = .ok (.iconst 1, 1) := by decide +kernel
theorem dX12_done_107 : decode cX12_done 107 = .ok (.goto 4, 3) := by decide +kernel
theorem dX12_done_110 : decode cX12_done 110 = .ok (.iconst 0, 1) := by decide +kernel
theorem dX12_done_111 : decode cX12_done 111 = .ok (.ireturn, 1) := by decide +kernel
theorem dX12_done_112 : decode cX12_done 112 = .ok (.iload_n 1, 1) := by decide +kernel
theorem dX12_done_113 : decode cX12_done 113 = .ok (.iload_n 2, 1) := by decide +kernel
theorem dX12_done_114 : decode cX12_done 114 = .ok (.if_icmp .ge 7, 3) := by decide +kernel
theorem dX12_done_117 : decode cX12_done 117 = .ok (.iconst 1, 1) := by decide +kernel
theorem dX12_done_118 : decode cX12_done 118 = .ok (.goto 4, 3) := by decide +kernel
theorem dX12_done_121 : decode cX12_done 121 = .ok (.iconst 0, 1) := by decide +kernel
theorem dX12_done_122 : decode cX12_done 122 = .ok (.ireturn, 1) := by decide +kernel
theorem dX12_done_123 : decode cX12_done 123 = .ok (.iload_n 1, 1) := by decide +kernel
theorem dX12_done_124 : decode cX12_done 124 = .ok (.iload_n 2, 1) := by decide +kernel
theorem dX12_done_125 : decode cX12_done 125 = .ok (.if_icmp .ne 7, 3) := by decide +kernel
theorem dX12_done_128 : decode cX12_done 128 = .ok (.iconst 1, 1) := by decide +kernel
theorem dX12_done_129 : decode cX12_done 129 = .ok (.goto 4, 3) := by decide +kernel
theorem dX12_done_132 : decode cX12_done 132 = .ok (.iconst 0, 1) := by decide +kernel
theorem dX12_done_133 : decode cX12_done 133 = .ok (.ireturn, 1) := by decide +kernel
theorem dX12_done_134 : decode cX12_done 134 = .ok (.iload_n 1, 1) := by decide +kernel
theorem dX12_done_135 : decode cX12_done 135 = .ok (.iload_n 2, 1) := by decide +kernel
theorem dX12_done_136 : decode cX12_done 136 = .ok (.if_icmp .le 7, 3) := by decide +kernel
theorem dX12_done_139 : decode cX12_done 139 = .ok (.iconst 1, 1) := by decide +kernel
theorem dX12_done_140 : decode cX12_done 140 = .ok (.goto 4, 3) := by decide +kernel
theorem dX12_done_143 : decode cX12_done 143 = .ok (.iconst 0, 1) := by decide +kernel
theorem dX12_done_144 : decode cX12_done 144 = .ok (.ireturn, 1) := by decide +kernel
theorem dX12_done_145 : decode cX12_done 145 = .ok (.iload_n 1, 1) := by decide +kernel
theorem dX12_done_146 : decode cX12_done 146 = .ok (.iload_n 2, 1) := by decide +kernel
theorem dX12_done_147 : decode cX12_done 147 = .ok (.iadd, 1) := by decide +kernel
theorem dX12_done_148 : decode cX12_done 148 = .ok (.ireturn, 1) := by decide +kernel
theorem dX12_done_149 : decode cX12_done 149 = .ok (.iload_n 1, 1) := by decide +kernel
theorem dX12_done_150 : decode cX12_done 150 = .ok (.iload_n 2, 1) := by decide +kernel
theorem dX12_done_151 : decode cX12_done 151 = .ok (.isub, 1) := by decide +kernel
theorem dX12_done_152 : decode cX12_done 152 = .ok (.ireturn, 1) := by decide +kernel
theorem dX12_done_153 : decode cX12_done 153 = .ok (.iload_n 1, 1) := by decide +kernel
theorem dX12_done_154 : decode cX12_done 154 = .ok (.iload_n 2, 1) := by decide +kernel
theorem dX12_done_155 : decode cX12_done 155 = .ok (.imul, 1) := by decide +kernel
theorem dX12_done_156 : decode cX12_done 156 = .ok (.ireturn, 1) := by decide +kernel
theorem dX12_done_157 : decode cX12_done 157 = .ok (.iload_n 2, 1) := by decide +kernel
theorem dX12_done_158 : decode cX12_done 158 = .ok (.ifCond .ne 7, 3) := by decide +kernel
theorem dX12_done_161 : decode cX12_done 161 = .ok (.iconst 0, 1) := by decide +kernel
theorem dX12_done_162 : decode cX12_done 162 = .ok (.goto 6, 3) := by decide +kernel
theorem dX12_done_165 : decode cX12_done 165 = .ok (.iload_n 1, 1) := by decide +kernel
theorem dX12_done_166 : decode cX12_done 166 = .ok (.iload_n 2, 1) := by decide +kernel
theorem dX12_done_167 : decode cX12_done 167 = .ok (.idiv, 1) := by decide +kernel
theorem dX12_done_168 : decode cX12_done 168 = .ok (.ireturn, 1) := by decide +kernel
theorem dX12_done_169 : decode cX12_done 169 = .ok (.iload_n 2, 1) := by decide +kernel
theorem dX12_done_170 : decode cX12_done 170 = .ok (.ifCond .ne 7, 3) := by decide +kernel
theorem dX12_done_173 : decode cX12_done 173 = .ok (.iconst 0, 1) := by decide +kernel
theorem dX12_done_174 : decode cX12_done 174 = .ok (.goto 6, 3) := by decide +kernel
theorem dX12_done_177 : decode cX12_done 177 = .ok (.iload_n 1, 1) := by decide +kernel
theorem dX12_done_178 : decode cX12_done 178 = .ok (.iload_n 2, 1) := by decide +kernel
theorem dX12_done_179 : decode cX12_done 179 = .ok (.irem, 1) := by decide +kernel
theorem dX12_done_180 : decode cX12_done 180 = .ok (.ireturn, 1) := by decide +kernel
set_option maxRecDepth 20000 in
theorem ggX12_worked_X12_done : GoodIn wsX12_worked wsX12_done := goodIn_r _ [7] rfl (by decide +kernel)
set_option maxRecDepth 20000 in
theorem gX12_worked_X12_done : GoodIn wsX12_worked (va_wsS RX12 125 yX12_done wsX12_done) := goodIn_app (goodIn_r _ [4, 5, 6] rfl (by decide +kernel)) ggX12_worked_X12_done
theorem dX12_worked_0 : decode cX12_worked 0 = .ok (.iconst 0, 1) := by decide +kernel
theorem dX12_worked_1 : decode cX12_worked 1 = .ok (.istore_n 3, 1) := by decide +kernel
theorem dX12_worked_2 : decode cX12_worked 2 = .ok (.iload_n 1, 1) := by decide +kernel
theorem dX12_worked_3 : decode cX12_worked 3 = .ok (.istore 4, 2) := by decide +kernel
theorem dX12_worked_5 : decode cX12_worked 5 = .ok (.iload 4, 2) := by decide +kernel
theorem dX12_worked_7 : decode cX12_worked 7 = .ok (.iload_n 1, 1) := by decide +kernel
theorem dX12_worked_8 : decode cX12_worked 8 = .ok (.iload_n 2, 1) := by decide +kernel
theorem dX12_worked_9 : decode cX12_worked 9 = .ok (.iadd, 1) := by decide +kernel
theorem dX12_worked_10 : decode cX12_worked 10 = .ok (.if_icmp .ge 131, 3) := by decide +kernel
theorem dX12_worked_13 : decode cX12_worked 13 = .ok (.aload_n 0, 1) := by decide +kernel
theorem dX12_worked_14 : decode cX12_worked 14 = .ok (.getfield 7, 3) := by decide +kernel
theorem dX12_worked_17 : decode cX12_worked 17 = .ok (.iload 4, 2) := by decide +kernel
theorem dX12_worked_19 : decode cX12_worked 19 = .ok (.iaload, 1) := by decide +kernel
theorem dX12_worked_20 : decode cX12_worked 20 = .ok (.istore 5, 2) := by decide +kernel
theorem dX12_worked_22 : decode cX12_worked 22 = .ok (.iload 5, 2) := by decide +kernel
theorem dX12_worked_24 : decode cX12_worked 24 = .ok (.sipush 20000, 3) := by decide +kernel
theorem dX12_worked_27 : decode cX12_worked 27 = .ok (.if_icmp .ge 39, 3) := by decide +kernel
theorem dX12_worked_30 : decode cX12_worked 30 = .ok (.aload_n 0, 1) := by decide +kernel
theorem dX12_worked_31 : decode cX12_worked 31 = .ok (.getfield 28, 3) := by decide +kernel
theorem dX12_worked_34 : decode cX12_worked 34 = .ok (.iload_n 3, 1) := by decide +kernel
theorem dX12_worked_35 : decode cX12_worked 35 = .ok (.iload 5, 2) := by decide +kernel
theorem dX12_worked_37 : decode cX12_worked 37 = .ok (.sipush 10000, 3) := by decide +kernel
theorem dX12_worked_40 : decode cX12_worked 40 = .ok (.if_icmp .ge 8, 3) := by decide +kernel
theorem dX12_worked_43 : decode cX12_worked 43 = .ok (.iload 5, 2) := by decide +kernel
theorem dX12_worked_45 : decode cX12_worked 45 = .ok (.goto 14, 3) := by decide +kernel
theorem dX12_worked_48 : decode cX12_worked 48 = .ok (.aload_n 0, 1) := by decide +kernel
theorem dX12_worked_49 : decode cX12_worked 49 = .ok (.getfield 22, 3) := by decide +kernel
theorem dX12_worked_52 : decode cX12_worked 52 = .ok (.iload 5, 2) := by decide +kernel
theorem dX12_worked_54 : decode cX12_worked 54 = .ok (.sipush 10000, 3) := by decide +kernel
theorem dX12_worked_57 : decode cX12_worked 57 = .ok (.isub, 1) := by decide +kernel
theorem dX12_worked_58 : decode cX12_worked 58 = .ok (.iaload, 1) := by decide +kernel
theorem dX12_worked_59 : decode cX12_worked 59 = .ok (.iastore, 1) := by decide +kernel
theorem dX12_worked_60 : decode cX12_worked 60 = .ok (.iinc 3 1, 3) := by decide +kernel
theorem dX12_worked_63 : decode cX12_worked 63 = .ok (.goto 72, 3) := by decide +kernel
theorem dX12_worked_66 : decode cX12_worked 66 = .ok (.iload 5, 2) := by decide +kernel
theorem dX12_worked_68 : decode cX12_worked 68 = .ok (.sipush 20033, 3) := by decide +kernel
theorem dX12_worked_71 : decode cX12_worked 71 = .ok (.if_icmp .ne 30, 3) := by decide +kernel
theorem dX12_worked_74 : decode cX12_worked 74 = .ok (.aload_n 0, 1) := by decide +kernel
theorem dX12_worked_75 : decode cX12_worked 75 = .ok (.getfield 28, 3) := by decide +kernel
theorem dX12_worked_78 : decode cX12_worked 78 = .ok (.iload_n 3, 1) := by decide +kernel
theorem dX12_worked_79 : decode cX12_worked 79 = .ok (.iconst 1, 1) := by decide +kernel
theorem dX12_worked_80 : decode cX12_worked 80 = .ok (.isub, 1) := by decide +kernel
theorem dX12_worked_81 : decode cX12_worked 81 = .ok (.aload_n 0, 1) := by decide +kernel
theorem dX12_worked_82 : decode cX12_worked 82 = .ok (.getfield 28, 3) := by decide +kernel
theorem dX12_worked_85 : decode cX12_worked 85 = .ok (.iload_n 3, 1) := by decide +kernel
theorem dX12_worked_86 : decode cX12_worked 86 = .ok (.iconst 1, 1) := by decide +kernel
theorem dX12_worked_87 : decode cX12_worked 87 = .ok (.isub, 1) := by decide +kernel
theorem dX12_worked_88 : decode cX12_worked 88 = .ok (.iaload, 1) := by decide +kernel
theorem dX12_worked_89 : decode cX12_worked 89 = .ok (.ifCond .ne 7, 3) := by decide +kernel
theorem dX12_worked_92 : decode cX12_worked 92 = .ok (.iconst 1, 1) := by decide +kernel
theorem dX12_worked_93 : decode cX12_worked 93 = .ok (.goto 4, 3) := by decide +kernel
theorem dX12_worked_96 : decode cX12_worked 96 = .ok (.iconst 0, 1) := by decide +kernel
theorem dX12_worked_97 : decode cX12_worked 97 = .ok (.iastore, 1) := by decide +kernel
theorem dX12_worked_98 : decode cX12_worked 98 = .ok (.goto 37, 3) := by decide +kernel
theorem dX12_worked_101 : decode cX12_worked 101 = .ok (.iinc 3 (-1), 3) := by decide +kernel
theorem dX12_worked_104 : decode cX12_worked 104 = .ok (.aload_n 0, 1) := by decide +kernel
theorem dX12_worked_105 : decode cX12_worked 105 = .ok (.getfield 28, 3) := by decide +kernel
theorem dX12_worked_108 : decode cX12_worked 108 = .ok (.iload_n 3, 1) := by decide +kernel
theorem dX12_worked_109 : decode cX12_worked 109 = .ok (.iconst 1, 1) := by decide +kernel
theorem dX12_worked_110 : decode cX12_worked 110 = .ok (.isub, 1) := by decide +kernel
theorem dX12_worked_111 : decode cX12_worked 111 = .ok (.iload 5, 2) := by decide +kernel
theorem dX12_worked_113 : decode cX12_worked 113 = .ok (.sipush 20000, 3) := by decide +kernel
theorem dX12_worked_116 : decode cX12_worked 116 = .ok (.isub, 1) := by decide +kernel
theorem dX12_worked_117 : decode cX12_worked 117 = .ok (.aload_n 0, 1) := by decide +kernel
theorem dX12_worked_118 : decode cX12_worked 118 = .ok (.getfield 28, 3) := by decide +kernel
theorem dX12_worked_121 : decode cX12_worked 121 = .ok (.iload_n 3, 1) := by decide +kernel
theorem dX12_worked_122 : decode cX12_worked 122 = .ok (.iconst 1, 1) := by decide +kernel
theorem dX12_worked_123 : decode cX12_worked 123 = .ok (.isub, 1) := by decide +kernel
theorem dX12_worked_124 : decode cX12_worked 124 = .ok (.iaload, 1) := by decide +kernel
theorem dX12_worked_125 : decode cX12_worked 125 = .ok (.aload_n 0, 1) := by decide +kernel
theorem dX12_worked_126 : decode cX12_worked 126 = .ok (.getfield 28, 3) := by decide +kernel
theorem dX12_worked_129 : decode cX12_worked 129 = .ok (.iload_n 3, 1) := by decide +kernel
theorem dX12_worked_130 : decode cX12_worked 130 = .ok (.iaload, 1) := by decide +kernel
theorem dX12_worked_131 : decode cX12_worked 131 = .ok (.invokestatic 125, 3) := by decide +kernel
theorem dX12_worked_134 : decode cX12_worked 134 = .ok (.iastore, 1) := by decide +kernel
theorem dX12_worked_135 : decode cX12_worked 135 = .ok (.iinc 4 1, 3) := by decide +kernel
theorem dX12_worked_138 : decode cX12_worked 138 = .ok (.goto (-133), 3) := by decide +kernel
theorem dX12_worked_141 : decode cX12_worked 141 = .ok (.aload_n 0, 1) := by decide +kernel
theorem dX12_worked_142 : decode cX12_worked 142 = .ok (.getfield 28, 3) := by decide +kernel
theorem dX12_worked_145 : decode cX12_worked 145 = .ok (.iconst 0, 1) := by decide +kernel
theorem dX12_worked_146 : decode cX12_worked 146 = .ok (.iaload, 1) := by decide +kernel
theorem dX12_worked_147 : decode cX12_worked 147 = .ok (.ireturn, 1) := by decide +kernel
set_option maxRecDepth 20000 in
theorem ggX12_feed_X12_in : GoodIn wsX12_feed wsX12_in := goodIn_r _ [7] rfl (by decide +kernel)
set_option maxRecDepth 20000 in
theorem gX12_feed_X12_in : GoodIn wsX12_feed (va_wsS RX12 50 yX12_in wsX12_in) := goodIn_app (goodIn_r _ [4, 5, 6] rfl (by decide +kernel)) ggX12_feed_X12_in
set_option maxRecDepth 20000 in
theorem ggX12_feed_X12_finds : GoodIn wsX12_feed wsX12_finds := goodIn_r _ [11, 12, 13, 14, 15, 16, 17, 18, 19, 20, 21, 22, 23, 24, 25, 26, 27, 28, 29, 30, 31, 32, 33, 34, 35, 36] rfl (by decide +kernel)
set_option maxRecDepth 20000 in
theorem gX12_feed_X12_finds : GoodIn wsX12_feed (wsV RX12 131 RX12 yX12_finds wsX12_finds) := goodIn_app (goodIn_r _ [8, 9, 10, 6] rfl (by decide +kernel)) ggX12_feed_X12_finds
theorem dX12_feed_0 : decode cX12_feed 0 = .ok (.iload_n 3, 1) := by decide +kernel
theorem dX12_feed_1 : decode cX12_feed 1 = .ok (.i2l, 1) := by decide +kernel
theorem dX12_feed_2 : decode cX12_feed 2 = .ok (.lconst 1, 1) := by decide +kernel
theorem dX12_feed_3 : decode cX12_feed 3 = .ok (.ldc2_w 129, 3) := by decide +kernel
theorem dX12_feed_6 : decode cX12_feed 6 = .ok (.invokestatic 50, 3) := by decide +kernel
theorem dX12_feed_9 : decode cX12_feed 9 = .ok (.ifCond .ne 9, 3) := by decide +kernel
theorem dX12_feed_12 : decode cX12_feed 12 = .ok (.aload_n 0, 1) := by decide +kernel
theorem dX12_feed_13 : decode cX12_feed 13 = .ok (.iconst 1, 1) := by decide +kernel
theorem dX12_feed_14 : decode cX12_feed 14 = .ok (.invokevirtual 131, 3) := by decide +kernel
theorem dX12_feed_17 : decode cX12_feed 17 = .ok (.ireturn, 1) := by decide +kernel
theorem dX12_feed_18 : decode cX12_feed 18 = .ok (.aload_n 0, 1) := by decide +kernel
theorem dX12_feed_19 : decode cX12_feed 19 = .ok (.getfield 7, 3) := by decide +kernel
theorem dX12_feed_22 : decode cX12_feed 22 = .ok (.iconst 4, 1) := by decide +kernel
theorem dX12_feed_23 : decode cX12_feed 23 = .ok (.iaload, 1) := by decide +kernel
theorem dX12_feed_24 : decode cX12_feed 24 = .ok (.iload_n 3, 1) := by decide +kernel
theorem dX12_feed_25 : decode cX12_feed 25 = .ok (.iadd, 1) := by decide +kernel
theorem dX12_feed_26 : decode cX12_feed 26 = .ok (.bipush 50, 2) := by decide +kernel
theorem dX12_feed_28 : decode cX12_feed 28 = .ok (.if_icmp .le 9, 3) := by decide +kernel
theorem dX12_feed_31 : decode cX12_feed 31 = .ok (.aload_n 0, 1) := by decide +kernel
theorem dX12_feed_32 : decode cX12_feed 32 = .ok (.iconst 4, 1) := by decide +kernel
theorem dX12_feed_33 : decode cX12_feed 33 = .ok (.invokevirtual 131, 3) := by decide +kernel
theorem dX12_feed_36 : decode cX12_feed 36 = .ok (.ireturn, 1) := by decide +kernel
theorem dX12_feed_37 : decode cX12_feed 37 = .ok (.iconst 0, 1) := by decide +kernel
theorem dX12_feed_38 : decode cX12_feed 38 = .ok (.istore 4, 2) := by decide +kernel
theorem dX12_feed_40 : decode cX12_feed 40 = .ok (.iload 4, 2) := by decide +kernel
theorem dX12_feed_42 : decode cX12_feed 42 = .ok (.iload_n 3, 1) := by decide +kernel
theorem dX12_feed_43 : decode cX12_feed 43 = .ok (.if_icmp .ge 46, 3) := by decide +kernel
theorem dX12_feed_46 : decode cX12_feed 46 = .ok (.aload_n 0, 1) := by decide +kernel
theorem dX12_feed_47 : decode cX12_feed 47 = .ok (.getfield 7, 3) := by decide +kernel
theorem dX12_feed_50 : decode cX12_feed 50 = .ok (.sipush 276, 3) := by decide +kernel
theorem dX12_feed_53 : decode cX12_feed 53 = .ok (.aload_n 0, 1) := by decide +kernel
theorem dX12_feed_54 : decode cX12_feed 54 = .ok (.getfield 7, 3) := by decide +kernel
theorem dX12_feed_57 : decode cX12_feed 57 = .ok (.iconst 4, 1) := by decide +kernel
theorem dX12_feed_58 : decode cX12_feed 58 = .ok (.iaload, 1) := by decide +kernel
theorem dX12_feed_59 : decode cX12_feed 59 = .ok (.iadd, 1) := by decide +kernel
theorem dX12_feed_60 : decode cX12_feed 60 = .ok (.lload_n 1, 1) := by decide +kernel
theorem dX12_feed_61 : decode cX12_feed 61 = .ok (.bipush 8, 2) := by decide +kernel
theorem dX12_feed_63 : decode cX12_feed 63 = .ok (.iload 4, 2) := by decide +kernel
theorem dX12_feed_65 : decode cX12_feed 65 = .ok (.imul, 1) := by decide +kernel
theorem dX12_feed_66 : decode cX12_feed 66 = .ok (.lshr, 1) := by decide +kernel
theorem dX12_feed_67 : decode cX12_feed 67 = .ok (.ldc2_w 134, 3) := by decide +kernel
theorem dX12_feed_70 : decode cX12_feed 70 = .ok (.land, 1) := by decide +kernel
theorem dX12_feed_71 : decode cX12_feed 71 = .ok (.l2i, 1) := by decide +kernel
theorem dX12_feed_72 : decode cX12_feed 72 = .ok (.iastore, 1) := by decide +kernel
theorem dX12_feed_73 : decode cX12_feed 73 = .ok (.aload_n 0, 1) := by decide +kernel
theorem dX12_feed_74 : decode cX12_feed 74 = .ok (.getfield 7, 3) := by decide +kernel
theorem dX12_feed_77 : decode cX12_feed 77 = .ok (.iconst 4, 1) := by decide +kernel
theorem dX12_feed_78 : decode cX12_feed 78 = .ok (.dup2, 1) := by decide +kernel
theorem dX12_feed_79 : decode cX12_feed 79 = .ok (.iaload, 1) := by decide +kernel
theorem dX12_feed_80 : decode cX12_feed 80 = .ok (.iconst 1, 1) := by decide +kernel
theorem dX12_feed_81 : decode cX12_feed 81 = .ok (.iadd, 1) := by decide +kernel
theorem dX12_feed_82 : decode cX12_feed 82 = .ok (.iastore, 1) := by decide +kernel
theorem dX12_feed_83 : decode cX12_feed 83 = .ok (.iinc 4 1, 3) := by decide +kernel
theorem dX12_feed_86 : decode cX12_feed 86 = .ok (.goto (-46), 3) := by decide +kernel
theorem dX12_feed_89 : decode cX12_feed 89 = .ok (.aload_n 0, 1) := by decide +kernel
theorem dX12_feed_90 : decode cX12_feed 90 = .ok (.getfield 7, 3) := by decide +kernel
theorem dX12_feed_93 : decode cX12_feed 93 = .ok (.iconst 4, 1) := by decide +kernel
theorem dX12_feed_94 : decode cX12_feed 94 = .ok (.iaload, 1) := by decide +kernel
theorem dX12_feed_95 : decode cX12_feed 95 = .ok (.ireturn, 1) := by decide +kernel
set_option maxRecDepth 20000 in
theorem ggX12_text_X12_in : GoodIn wsX12_text wsX12_in := goodIn_r _ [8] rfl (by decide +kernel)
set_option maxRecDepth 20000 in
theorem gX12_text_X12_in : GoodIn wsX12_text (va_wsS RX12 50 yX12_in wsX12_in) := goodIn_app (goodIn_r _ [5, 6, 7] rfl (by decide +kernel)) ggX12_text_X12_in
set_option maxRecDepth 20000 in
theorem ggX12_text_X12_finds : GoodIn wsX12_text wsX12_finds := goodIn_r _ [12, 13, 14, 74, 75, 76, 77, 78, 79, 80, 81, 82, 83, 84, 85, 86, 87, 88, 89, 90, 91, 92, 93, 94, 95, 96] rfl (by decide +kernel)
set_option maxRecDepth 20000 in
theorem gX12_text_X12_finds : GoodIn wsX12_text (wsV RX12 131 RX12 yX12_finds wsX12_finds) := goodIn_app (goodIn_r _ [9, 10, 11, 7] rfl (by decide +kernel)) ggX12_text_X12_finds
set_option maxRecDepth 20000 in
theorem ggX12_text_X12_reads : GoodIn wsX12_text wsX12_reads := goodIn_r _ [18, 19, 20, 21, 2, 22, 3, 23, 24, 25, 26, 7, 27, 28, 29, 30, 31, 32, 33, 34, 35, 36, 37, 38, 1, 39, 40, 41, 42, 4, 43, 44, 45, 46, 47, 48, 49, 50, 51, 52, 53, 54, 55, 56, 57, 58, 59, 60, 61, 62, 63, 64, 65, 66, 67, 68, 69, 70, 71, 72, 73, 5, 6, 8, 74, 75, 76, 77, 78, 79, 80, 81, 82, 83, 84, 85, 86, 87, 88, 89, 90, 91, 92, 93, 94, 95, 96] rfl (by decide +kernel)
set_option maxRecDepth 20000 in
theorem gX12_text_X12_reads : GoodIn wsX12_text (wsV RX12 136 RX12 yX12_reads wsX12_reads) := goodIn_app (goodIn_r _ [15, 16, 17, 7] rfl (by decide +kernel)) ggX12_text_X12_reads
theorem dX12_text_0 : decode cX12_text 0 = .ok (.iload_n 1, 1) := by decide +kernel
theorem dX12_text_1 : decode cX12_text 1 = .ok (.i2l, 1) := by decide +kernel
theorem dX12_text_2 : decode cX12_text 2 = .ok (.lconst 0, 1) := by decide +kernel
theorem dX12_text_3 : decode cX12_text 3 = .ok (.lconst 1, 1) := by decide +kernel
theorem dX12_text_4 : decode cX12_text 4 = .ok (.invokestatic 50, 3) := by decide +kernel
theorem dX12_text_7 : decode cX12_text 7 = .ok (.ifCond .ne 9, 3) := by decide +kernel
theorem dX12_text_10 : decode cX12_text 10 = .ok (.aload_n 0, 1) := by decide +kernel
theorem dX12_text_11 : decode cX12_text 11 = .ok (.iconst 1, 1) := by decide +kernel
theorem dX12_text_12 : decode cX12_text 12 = .ok (.invokevirtual 131, 3) := by decide +kernel
theorem dX12_text_15 : decode cX12_text 15 = .ok (.ireturn, 1) := by decide +kernel
theorem dX12_text_16 : decode cX12_text 16 = .ok (.aload_n 0, 1) := by decide +kernel
theorem dX12_text_17 : decode cX12_text 17 = .ok (.getfield 7, 3) := by decide +kernel
theorem dX12_text_20 : decode cX12_text 20 = .ok (.iconst 4, 1) := by decide +kernel
theorem dX12_text_21 : decode cX12_text 21 = .ok (.iaload, 1) := by decide +kernel
theorem dX12_text_22 : decode cX12_text 22 = .ok (.istore_n 2, 1) := by decide +kernel
theorem dX12_text_23 : decode cX12_text 23 = .ok (.aload_n 0, 1) := by decide +kernel
theorem dX12_text_24 : decode cX12_text 24 = .ok (.getfield 7, 3) := by decide +kernel
theorem dX12_text_27 : decode cX12_text 27 = .ok (.iconst 4, 1) := by decide +kernel
theorem dX12_text_28 : decode cX12_text 28 = .ok (.iconst 0, 1) := by decide +kernel
theorem dX12_text_29 : decode cX12_text 29 = .ok (.iastore, 1) := by decide +kernel
theorem dX12_text_30 : decode cX12_text 30 = .ok (.aload_n 0, 1) := by decide +kernel
theorem dX12_text_31 : decode cX12_text 31 = .ok (.sipush 276, 3) := by decide +kernel
theorem dX12_text_34 : decode cX12_text 34 = .ok (.iload_n 2, 1) := by decide +kernel
theorem dX12_text_35 : decode cX12_text 35 = .ok (.iload_n 1, 1) := by decide +kernel
theorem dX12_text_36 : decode cX12_text 36 = .ok (.invokevirtual 136, 3) := by decide +kernel
theorem dX12_text_39 : decode cX12_text 39 = .ok (.aload_n 0, 1) := by decide +kernel
theorem dX12_text_40 : decode cX12_text 40 = .ok (.getfield 65, 3) := by decide +kernel
theorem dX12_text_43 : decode cX12_text 43 = .ok (.ifCond .lt 11, 3) := by decide +kernel
theorem dX12_text_46 : decode cX12_text 46 = .ok (.bipush (-10), 2) := by decide +kernel
theorem dX12_text_48 : decode cX12_text 48 = .ok (.aload_n 0, 1) := by decide +kernel
theorem dX12_text_49 : decode cX12_text 49 = .ok (.getfield 65, 3) := by decide +kernel
theorem dX12_text_52 : decode cX12_text 52 = .ok (.isub, 1) := by decide +kernel
theorem dX12_text_53 : decode cX12_text 53 = .ok (.ireturn, 1) := by decide +kernel
theorem dX12_text_54 : decode cX12_text 54 = .ok (.aload_n 0, 1) := by decide +kernel
theorem dX12_text_55 : decode cX12_text 55 = .ok (.getfield 7, 3) := by decide +kernel
theorem dX12_text_58 : decode cX12_text 58 = .ok (.sipush 154, 3) := by decide +kernel
theorem dX12_text_61 : decode cX12_text 61 = .ok (.iload_n 1, 1) := by decide +kernel
theorem dX12_text_62 : decode cX12_text 62 = .ok (.iadd, 1) := by decide +kernel
theorem dX12_text_63 : decode cX12_text 63 = .ok (.aload_n 0, 1) := by decide +kernel
theorem dX12_text_64 : decode cX12_text 64 = .ok (.getfield 79, 3) := by decide +kernel
theorem dX12_text_67 : decode cX12_text 67 = .ok (.iastore, 1) := by decide +kernel
theorem dX12_text_68 : decode cX12_text 68 = .ok (.iconst 0, 1) := by decide +kernel
theorem dX12_text_69 : decode cX12_text 69 = .ok (.istore_n 3, 1) := by decide +kernel
theorem dX12_text_70 : decode cX12_text 70 = .ok (.iload_n 3, 1) := by decide +kernel
theorem dX12_text_71 : decode cX12_text 71 = .ok (.aload_n 0, 1) := by decide +kernel
theorem dX12_text_72 : decode cX12_text 72 = .ok (.getfield 79, 3) := by decide +kernel
theorem dX12_text_75 : decode cX12_text 75 = .ok (.if_icmp .ge 30, 3) := by decide +kernel
theorem dX12_text_78 : decode cX12_text 78 = .ok (.aload_n 0, 1) := by decide +kernel
theorem dX12_text_79 : decode cX12_text 79 = .ok (.getfield 7, 3) := by decide +kernel
theorem dX12_text_82 : decode cX12_text 82 = .ok (.sipush 176, 3) := by decide +kernel
theorem dX12_text_85 : decode cX12_text 85 = .ok (.bipush 50, 2) := by decide +kernel
theorem dX12_text_87 : decode cX12_text 87 = .ok (.iload_n 1, 1) := by decide +kernel
theorem dX12_text_88 : decode cX12_text 88 = .ok (.imul, 1) := by decide +kernel
theorem dX12_text_89 : decode cX12_text 89 = .ok (.iadd, 1) := by decide +kernel
theorem dX12_text_90 : decode cX12_text 90 = .ok (.iload_n 3, 1) := by decide +kernel
theorem dX12_text_91 : decode cX12_text 91 = .ok (.iadd, 1) := by decide +kernel
theorem dX12_text_92 : decode cX12_text 92 = .ok (.aload_n 0, 1) := by decide +kernel
theorem dX12_text_93 : decode cX12_text 93 = .ok (.getfield 25, 3) := by decide +kernel
theorem dX12_text_96 : decode cX12_text 96 = .ok (.iload_n 3, 1) := by decide +kernel
theorem dX12_text_97 : decode cX12_text 97 = .ok (.iaload, 1) := by decide +kernel
theorem dX12_text_98 : decode cX12_text 98 = .ok (.iastore, 1) := by decide +kernel
theorem dX12_text_99 : decode cX12_text 99 = .ok (.iinc 3 1, 3) := by decide +kernel
theorem dX12_text_102 : decode cX12_text 102 = .ok (.goto (-32), 3) := by decide +kernel
theorem dX12_text_105 : decode cX12_text 105 = .ok (.iconst 1, 1) := by decide +kernel
theorem dX12_text_106 : decode cX12_text 106 = .ok (.ireturn, 1) := by decide +kernel
set_option maxRecDepth 20000 in
theorem ggX12_textGives_X12_worked : GoodIn wsX12_textGives wsX12_worked := goodIn_r _ [7, 1, 8, 2, 9, 10, 6, 11, 15, 16, 17, 18, 19, 20, 21, 22, 23, 24, 25, 26, 27, 28, 29, 30, 31, 32, 33, 34, 35, 36, 37] rfl (by decide +kernel)
set_option maxRecDepth 20000 in
theorem gX12_textGives_X12_worked : GoodIn wsX12_textGives (wsV RX12 140 RX12 yX12_worked wsX12_worked) := goodIn_app (goodIn_r _ [3, 4, 5, 6] rfl (by decide +kernel)) ggX12_textGives_X12_worked
set_option maxRecDepth 20000 in
theorem ggX12_textGives_X12_held : GoodIn wsX12_textGives wsX12_held := goodIn_r _ [14] rfl (by decide +kernel)
set_option maxRecDepth 20000 in
theorem gX12_textGives_X12_held : GoodIn wsX12_textGives (va_wsS RX12 144 yX12_held wsX12_held) := goodIn_app (goodIn_r _ [12, 13, 6] rfl (by decide +kernel)) ggX12_textGives_X12_held
theorem dX12_textGives_0 : decode cX12_textGives 0 = .ok (.iload_n 2, 1) := by decide +kernel
theorem dX12_textGives_1 : decode cX12_textGives 1 = .ok (.istore 5, 2) := by decide +kernel
theorem dX12_textGives_3 : decode cX12_textGives 3 = .ok (.aload_n 0, 1) := by decide +kernel
theorem dX12_textGives_4 : decode cX12_textGives 4 = .ok (.getfield 7, 3) := by decide +kernel
theorem dX12_textGives_7 : decode cX12_textGives 7 = .ok (.sipush 154, 3) := by decide +kernel
theorem dX12_textGives_10 : decode cX12_textGives 10 = .ok (.iload_n 1, 1) := by decide +kernel
theorem dX12_textGives_11 : decode cX12_textGives 11 = .ok (.iadd, 1) := by decide +kernel
theorem dX12_textGives_12 : decode cX12_textGives 12 = .ok (.iaload, 1) := by decide +kernel
theorem dX12_textGives_13 : decode cX12_textGives 13 = .ok (.ifCond .le 49, 3) := by decide +kernel
theorem dX12_textGives_16 : decode cX12_textGives 16 = .ok (.aload_n 0, 1) := by decide +kernel
theorem dX12_textGives_17 : decode cX12_textGives 17 = .ok (.getfield 22, 3) := by decide +kernel
theorem dX12_textGives_20 : decode cX12_textGives 20 = .ok (.iconst 0, 1) := by decide +kernel
theorem dX12_textGives_21 : decode cX12_textGives 21 = .ok (.iload_n 2, 1) := by decide +kernel
theorem dX12_textGives_22 : decode cX12_textGives 22 = .ok (.iastore, 1) := by decide +kernel
theorem dX12_textGives_23 : decode cX12_textGives 23 = .ok (.aload_n 0, 1) := by decide +kernel
theorem dX12_textGives_24 : decode cX12_textGives 24 = .ok (.getfield 22, 3) := by decide +kernel
theorem dX12_textGives_27 : decode cX12_textGives 27 = .ok (.iconst 1, 1) := by decide +kernel
theorem dX12_textGives_28 : decode cX12_textGives 28 = .ok (.iload_n 3, 1) := by decide +kernel
theorem dX12_textGives_29 : decode cX12_textGives 29 = .ok (.iastore, 1) := by decide +kernel
theorem dX12_textGives_30 : decode cX12_textGives 30 = .ok (.aload_n 0, 1) := by decide +kernel
theorem dX12_textGives_31 : decode cX12_textGives 31 = .ok (.getfield 22, 3) := by decide +kernel
theorem dX12_textGives_34 : decode cX12_textGives 34 = .ok (.iconst 2, 1) := by decide +kernel
theorem dX12_textGives_35 : decode cX12_textGives 35 = .ok (.iload 4, 2) := by decide +kernel
theorem dX12_textGives_37 : decode cX12_textGives 37 = .ok (.iastore, 1) := by decide +kernel
theorem dX12_textGives_38 : decode cX12_textGives 38 = .ok (.aload_n 0, 1) := by decide +kernel
theorem dX12_textGives_39 : decode cX12_textGives 39 = .ok (.sipush 176, 3) := by decide +kernel
theorem dX12_textGives_42 : decode cX12_textGives 42 = .ok (.bipush 50, 2) := by decide +kernel
theorem dX12_textGives_44 : decode cX12_textGives 44 = .ok (.iload_n 1, 1) := by decide +kernel
theorem dX12_textGives_45 : decode cX12_textGives 45 = .ok (.imul, 1) := by decide +kernel
theorem dX12_textGives_46 : decode cX12_textGives 46 = .ok (.iadd, 1) := by decide +kernel
theorem dX12_textGives_47 : decode cX12_textGives 47 = .ok (.aload_n 0, 1) := by decide +kernel
theorem dX12_textGives_48 : decode cX12_textGives 48 = .ok (.getfield 7, 3) := by decide +kernel
theorem dX12_textGives_51 : decode cX12_textGives 51 = .ok (.sipush 154, 3) := by decide +kernel
theorem dX12_textGives_54 : decode cX12_textGives 54 = .ok (.iload_n 1, 1) := by decide +kernel
theorem dX12_textGives_55 : decode cX12_textGives 55 = .ok (.iadd, 1) := by decide +kernel
theorem dX12_textGives_56 : decode cX12_textGives 56 = .ok (.iaload, 1) := by decide +kernel
theorem dX12_textGives_57 : decode cX12_textGives 57 = .ok (.invokevirtual 140, 3) := by decide +kernel
theorem dX12_textGives_60 : decode cX12_textGives 60 = .ok (.istore 5, 2) := by decide +kernel
theorem dX12_textGives_62 : decode cX12_textGives 62 = .ok (.iload 5, 2) := by decide +kernel
theorem dX12_textGives_64 : decode cX12_textGives 64 = .ok (.iconst 0, 1) := by decide +kernel
theorem dX12_textGives_65 : decode cX12_textGives 65 = .ok (.iload_n 1, 1) := by decide +kernel
theorem dX12_textGives_66 : decode cX12_textGives 66 = .ok (.ifCond .ne 8, 3) := by decide +kernel
theorem dX12_textGives_69 : decode cX12_textGives 69 = .ok (.bipush 9, 2) := by decide +kernel
theorem dX12_textGives_71 : decode cX12_textGives 71 = .ok (.goto 5, 3) := by decide +kernel
theorem dX12_textGives_74 : decode cX12_textGives 74 = .ok (.bipush 20, 2) := by decide +kernel
theorem dX12_textGives_76 : decode cX12_textGives 76 = .ok (.invokestatic 144, 3) := by decide +kernel
theorem dX12_textGives_79 : decode cX12_textGives 79 = .ok (.ireturn, 1) := by decide +kernel
set_option maxRecDepth 20000 in
theorem ggX12_law_X12_in : GoodIn wsX12_law wsX12_in := goodIn_r _ [4] rfl (by decide +kernel)
set_option maxRecDepth 20000 in
theorem gX12_law_X12_in : GoodIn wsX12_law (va_wsS RX12 50 yX12_in wsX12_in) := goodIn_app (goodIn_r _ [1, 2, 3] rfl (by decide +kernel)) ggX12_law_X12_in
set_option maxRecDepth 20000 in
theorem ggX12_law_X12_textGives : GoodIn wsX12_law wsX12_textGives := goodIn_r _ [8, 9, 10, 11, 12, 13, 3, 14, 15, 16, 17, 18, 19, 20, 21, 28, 29, 30, 31, 32, 33, 34, 35, 36, 37, 38, 39, 40, 41, 42, 43, 44, 45, 46, 47, 48, 49, 50] rfl (by decide +kernel)
set_option maxRecDepth 20000 in
theorem gX12_law_X12_textGives : GoodIn wsX12_law (wsV RX12 147 RX12 yX12_textGives wsX12_textGives) := goodIn_app (goodIn_r _ [5, 6, 7, 3] rfl (by decide +kernel)) ggX12_law_X12_textGives
set_option maxRecDepth 20000 in
theorem ggX12_law_X12_finds : GoodIn wsX12_law wsX12_finds := goodIn_r _ [25, 26, 27, 28, 29, 30, 31, 32, 33, 34, 35, 36, 37, 38, 39, 40, 41, 42, 43, 44, 45, 46, 47, 48, 49, 50] rfl (by decide +kernel)
set_option maxRecDepth 20000 in
theorem gX12_law_X12_finds : GoodIn wsX12_law (wsV RX12 131 RX12 yX12_finds wsX12_finds) := goodIn_app (goodIn_r _ [22, 23, 24, 3] rfl (by decide +kernel)) ggX12_law_X12_finds
theorem dX12_law_0 : decode cX12_law 0 = .ok (.iload_n 1, 1) := by decide +kernel
theorem dX12_law_1 : decode cX12_law 1 = .ok (.i2l, 1) := by decide +kernel
theorem dX12_law_2 : decode cX12_law 2 = .ok (.lconst 0, 1) := by decide +kernel
theorem dX12_law_3 : decode cX12_law 3 = .ok (.lconst 1, 1) := by decide +kernel
theorem dX12_law_4 : decode cX12_law 4 = .ok (.invokestatic 50, 3) := by decide +kernel
theorem dX12_law_7 : decode cX12_law 7 = .ok (.ifCond .eq 15, 3) := by decide +kernel
theorem dX12_law_10 : decode cX12_law 10 = .ok (.aload_n 0, 1) := by decide +kernel
theorem dX12_law_11 : decode cX12_law 11 = .ok (.iload_n 1, 1) := by decide +kernel
theorem dX12_law_12 : decode cX12_law 12 = .ok (.iload_n 2, 1) := by decide +kernel
theorem dX12_law_13 : decode cX12_law 13 = .ok (.iload_n 3, 1) := by decide +kernel
theorem dX12_law_14 : decode cX12_law 14 = .ok (.iload 4, 2) := by decide +kernel
theorem dX12_law_16 : decode cX12_law 16 = .ok (.invokevirtual 147, 3) := by decide +kernel
theorem dX12_law_19 : decode cX12_law 19 = .ok (.goto 8, 3) := by decide +kernel
theorem dX12_law_22 : decode cX12_law 22 = .ok (.aload_n 0, 1) := by decide +kernel
theorem dX12_law_23 : decode cX12_law 23 = .ok (.iconst 1, 1) := by decide +kernel
theorem dX12_law_24 : decode cX12_law 24 = .ok (.invokevirtual 131, 3) := by decide +kernel
theorem dX12_law_27 : decode cX12_law 27 = .ok (.ireturn, 1) := by decide +kernel
set_option maxRecDepth 20000 in
theorem ggX12_on_X12_of : GoodIn wsX12_on wsX12_of := goodIn_r _ [5, 6, 7, 8, 9, 10, 11, 12, 13, 14, 15, 16, 17, 18, 19, 20, 21, 22, 23, 24, 25, 26, 27, 28, 29] rfl (by decide +kernel)
set_option maxRecDepth 20000 in
theorem gX12_on_X12_of : GoodIn wsX12_on (wsV RX12 151 RX12 yX12_of wsX12_of) := goodIn_app (goodIn_r _ [1, 2, 3, 4] rfl (by decide +kernel)) ggX12_on_X12_of
theorem dX12_on_0 : decode cX12_on 0 = .ok (.iconst 0, 1) := by decide +kernel
theorem dX12_on_1 : decode cX12_on 1 = .ok (.istore_n 2, 1) := by decide +kernel
theorem dX12_on_2 : decode cX12_on 2 = .ok (.iconst 0, 1) := by decide +kernel
theorem dX12_on_3 : decode cX12_on 3 = .ok (.istore_n 3, 1) := by decide +kernel
theorem dX12_on_4 : decode cX12_on 4 = .ok (.iload_n 3, 1) := by decide +kernel
theorem dX12_on_5 : decode cX12_on 5 = .ok (.bipush 12, 2) := by decide +kernel
theorem dX12_on_7 : decode cX12_on 7 = .ok (.if_icmp .ge 30, 3) := by decide +kernel
theorem dX12_on_10 : decode cX12_on 10 = .ok (.iload_n 2, 1) := by decide +kernel
theorem dX12_on_11 : decode cX12_on 11 = .ok (.aload_n 0, 1) := by decide +kernel
theorem dX12_on_12 : decode cX12_on 12 = .ok (.iload_n 1, 1) := by decide +kernel
theorem dX12_on_13 : decode cX12_on 13 = .ok (.iconst 3, 1) := by decide +kernel
theorem dX12_on_14 : decode cX12_on 14 = .ok (.iload_n 3, 1) := by decide +kernel
theorem dX12_on_15 : decode cX12_on 15 = .ok (.iadd, 1) := by decide +kernel
theorem dX12_on_16 : decode cX12_on 16 = .ok (.invokevirtual 151, 3) := by decide +kernel
theorem dX12_on_19 : decode cX12_on 19 = .ok (.ifCond .le 9, 3) := by decide +kernel
theorem dX12_on_22 : decode cX12_on 22 = .ok (.iconst 1, 1) := by decide +kernel
theorem dX12_on_23 : decode cX12_on 23 = .ok (.iload_n 3, 1) := by decide +kernel
theorem dX12_on_24 : decode cX12_on 24 = .ok (.ishl, 1) := by decide +kernel
theorem dX12_on_25 : decode cX12_on 25 = .ok (.goto 4, 3) := by decide +kernel
theorem dX12_on_28 : decode cX12_on 28 = .ok (.iconst 0, 1) := by decide +kernel
theorem dX12_on_29 : decode cX12_on 29 = .ok (.ior, 1) := by decide +kernel
theorem dX12_on_30 : decode cX12_on 30 = .ok (.istore_n 2, 1) := by decide +kernel
theorem dX12_on_31 : decode cX12_on 31 = .ok (.iinc 3 1, 3) := by decide +kernel
theorem dX12_on_34 : decode cX12_on 34 = .ok (.goto (-30), 3) := by decide +kernel
theorem dX12_on_37 : decode cX12_on 37 = .ok (.iload_n 2, 1) := by decide +kernel
theorem dX12_on_38 : decode cX12_on 38 = .ok (.ireturn, 1) := by decide +kernel
set_option maxRecDepth 20000 in
theorem ggX12_isThrough_X12_of : GoodIn wsX12_isThrough wsX12_of := goodIn_r _ [5, 6, 7, 8, 9, 10, 11, 12, 13, 14, 15, 16, 17, 18, 19, 20, 21, 22, 23, 24, 25, 26, 27, 28, 29] rfl (by decide +kernel)
set_option maxRecDepth 20000 in
theorem gX12_isThrough_X12_of : GoodIn wsX12_isThrough (wsV RX12 151 RX12 yX12_of wsX12_of) := goodIn_app (goodIn_r _ [1, 2, 3, 4] rfl (by decide +kernel)) ggX12_isThrough_X12_of
theorem dX12_isThrough_0 : decode cX12_isThrough 0 = .ok (.aload_n 0, 1) := by decide +kernel
theorem dX12_isThrough_1 : decode cX12_isThrough 1 = .ok (.iload_n 1, 1) := by decide +kernel
theorem dX12_isThrough_2 : decode cX12_isThrough 2 = .ok (.iconst 2, 1) := by decide +kernel
theorem dX12_isThrough_3 : decode cX12_isThrough 3 = .ok (.invokevirtual 151, 3) := by decide +kernel
theorem dX12_isThrough_6 : decode cX12_isThrough 6 = .ok (.ifCond .ne 7, 3) := by decide +kernel
theorem dX12_isThrough_9 : decode cX12_isThrough 9 = .ok (.iconst 1, 1) := by decide +kernel
theorem dX12_isThrough_10 : decode cX12_isThrough 10 = .ok (.goto 4, 3) := by decide +kernel
theorem dX12_isThrough_13 : decode cX12_isThrough 13 = .ok (.iconst 0, 1) := by decide +kernel
theorem dX12_isThrough_14 : decode cX12_isThrough 14 = .ok (.ireturn, 1) := by decide +kernel
set_option maxRecDepth 20000 in
theorem ggX12_stays_X12_of : GoodIn wsX12_stays wsX12_of := goodIn_r _ [6, 1, 7, 8, 9, 10, 11, 12, 13, 14, 15, 16, 17, 18, 19, 20, 21, 22, 23, 24, 25, 26, 27, 28, 29] rfl (by decide +kernel)
set_option maxRecDepth 20000 in
theorem gX12_stays_X12_of : GoodIn wsX12_stays (wsV RX12 151 RX12 yX12_of wsX12_of) := goodIn_app (goodIn_r _ [2, 3, 4, 5] rfl (by decide +kernel)) ggX12_stays_X12_of
theorem dX12_stays_0 : decode cX12_stays 0 = .ok (.aload_n 0, 1) := by decide +kernel
theorem dX12_stays_1 : decode cX12_stays 1 = .ok (.getfield 7, 3) := by decide +kernel
theorem dX12_stays_4 : decode cX12_stays 4 = .ok (.bipush 6, 2) := by decide +kernel
theorem dX12_stays_6 : decode cX12_stays 6 = .ok (.iload_n 2, 1) := by decide +kernel
theorem dX12_stays_7 : decode cX12_stays 7 = .ok (.iadd, 1) := by decide +kernel
theorem dX12_stays_8 : decode cX12_stays 8 = .ok (.iaload, 1) := by decide +kernel
theorem dX12_stays_9 : decode cX12_stays 9 = .ok (.istore_n 3, 1) := by decide +kernel
theorem dX12_stays_10 : decode cX12_stays 10 = .ok (.aload_n 0, 1) := by decide +kernel
theorem dX12_stays_11 : decode cX12_stays 11 = .ok (.iload_n 1, 1) := by decide +kernel
theorem dX12_stays_12 : decode cX12_stays 12 = .ok (.iconst 0, 1) := by decide +kernel
theorem dX12_stays_13 : decode cX12_stays 13 = .ok (.invokevirtual 151, 3) := by decide +kernel
theorem dX12_stays_16 : decode cX12_stays 16 = .ok (.tableswitch 85 1 6 #[40, 85, 46, 48, 56, 67], 40) := by decide +kernel
theorem dX12_stays_56 : decode cX12_stays 56 = .ok (.iconst 3, 1) := by decide +kernel
theorem dX12_stays_57 : decode cX12_stays 57 = .ok (.iload_n 3, 1) := by decide +kernel
theorem dX12_stays_58 : decode cX12_stays 58 = .ok (.iconst 2, 1) := by decide +kernel
theorem dX12_stays_59 : decode cX12_stays 59 = .ok (.idiv, 1) := by decide +kernel
theorem dX12_stays_60 : decode cX12_stays 60 = .ok (.iadd, 1) := by decide +kernel
theorem dX12_stays_61 : decode cX12_stays 61 = .ok (.ireturn, 1) := by decide +kernel
theorem dX12_stays_62 : decode cX12_stays 62 = .ok (.iload_n 3, 1) := by decide +kernel
theorem dX12_stays_63 : decode cX12_stays 63 = .ok (.ireturn, 1) := by decide +kernel
theorem dX12_stays_64 : decode cX12_stays 64 = .ok (.iconst 2, 1) := by decide +kernel
theorem dX12_stays_65 : decode cX12_stays 65 = .ok (.iconst 3, 1) := by decide +kernel
theorem dX12_stays_66 : decode cX12_stays 66 = .ok (.iload_n 3, 1) := by decide +kernel
theorem dX12_stays_67 : decode cX12_stays 67 = .ok (.iconst 2, 1) := by decide +kernel
theorem dX12_stays_68 : decode cX12_stays 68 = .ok (.idiv, 1) := by decide +kernel
theorem dX12_stays_69 : decode cX12_stays 69 = .ok (.iadd, 1) := by decide +kernel
theorem dX12_stays_70 : decode cX12_stays 70 = .ok (.imul, 1) := by decide +kernel
theorem dX12_stays_71 : decode cX12_stays 71 = .ok (.ireturn, 1) := by decide +kernel
theorem dX12_stays_72 : decode cX12_stays 72 = .ok (.iconst 3, 1) := by decide +kernel
theorem dX12_stays_73 : decode cX12_stays 73 = .ok (.aload_n 0, 1) := by decide +kernel
theorem dX12_stays_74 : decode cX12_stays 74 = .ok (.iload_n 1, 1) := by decide +kernel
theorem dX12_stays_75 : decode cX12_stays 75 = .ok (.iconst 1, 1) := by decide +kernel
theorem dX12_stays_76 : decode cX12_stays 76 = .ok (.invokevirtual 151, 3) := by decide +kernel
theorem dX12_stays_79 : decode cX12_stays 79 = .ok (.iconst 3, 1) := by decide +kernel
theorem dX12_stays_80 : decode cX12_stays 80 = .ok (.idiv, 1) := by decide +kernel
theorem dX12_stays_81 : decode cX12_stays 81 = .ok (.iadd, 1) := by decide +kernel
theorem dX12_stays_82 : decode cX12_stays 82 = .ok (.ireturn, 1) := by decide +kernel
theorem dX12_stays_83 : decode cX12_stays 83 = .ok (.aload_n 0, 1) := by decide +kernel
theorem dX12_stays_84 : decode cX12_stays 84 = .ok (.iload_n 1, 1) := by decide +kernel
theorem dX12_stays_85 : decode cX12_stays 85 = .ok (.iconst 2, 1) := by decide +kernel
theorem dX12_stays_86 : decode cX12_stays 86 = .ok (.invokevirtual 151, 3) := by decide +kernel
theorem dX12_stays_89 : decode cX12_stays 89 = .ok (.bipush 10, 2) := by decide +kernel
theorem dX12_stays_91 : decode cX12_stays 91 = .ok (.if_icmp .ge 8, 3) := by decide +kernel
theorem dX12_stays_94 : decode cX12_stays 94 = .ok (.bipush 9, 2) := by decide +kernel
theorem dX12_stays_96 : decode cX12_stays 96 = .ok (.goto 4, 3) := by decide +kernel
theorem dX12_stays_99 : decode cX12_stays 99 = .ok (.iload_n 3, 1) := by decide +kernel
theorem dX12_stays_100 : decode cX12_stays 100 = .ok (.ireturn, 1) := by decide +kernel
theorem dX12_stays_101 : decode cX12_stays 101 = .ok (.iconst 3, 1) := by decide +kernel
theorem dX12_stays_102 : decode cX12_stays 102 = .ok (.ireturn, 1) := by decide +kernel
set_option maxRecDepth 20000 in
theorem ggX12_reads0_X12_of : GoodIn wsX12_reads0 wsX12_of := goodIn_r _ [5, 6, 7, 8, 9, 10, 11, 12, 13, 14, 15, 16, 17, 18, 19, 20, 21, 22, 23, 24, 25, 26, 27, 28, 29] rfl (by decide +kernel)
set_option maxRecDepth 20000 in
theorem gX12_reads0_X12_of : GoodIn wsX12_reads0 (wsV RX12 151 RX12 yX12_of wsX12_of) := goodIn_app (goodIn_r _ [1, 2, 3, 4] rfl (by decide +kernel)) ggX12_reads0_X12_of
theorem dX12_reads0_0 : decode cX12_reads0 0 = .ok (.aload_n 0, 1) := by decide +kernel
theorem dX12_reads0_1 : decode cX12_reads0 1 = .ok (.iload_n 1, 1) := by decide +kernel
theorem dX12_reads0_2 : decode cX12_reads0 2 = .ok (.iconst 0, 1) := by decide +kernel
theorem dX12_reads0_3 : decode cX12_reads0 3 = .ok (.invokevirtual 151, 3) := by decide +kernel
theorem dX12_reads0_6 : decode cX12_reads0 6 = .ok (.tableswitch 61 1 6 #[38, 56, 61, 40, 56, 58], 38) := by decide +kernel
theorem dX12_reads0_44 : decode cX12_reads0 44 = .ok (.iconst 2, 1) := by decide +kernel
theorem dX12_reads0_45 : decode cX12_reads0 45 = .ok (.ireturn, 1) := by decide +kernel
theorem dX12_reads0_46 : decode cX12_reads0 46 = .ok (.aload_n 0, 1) := by decide +kernel
theorem dX12_reads0_47 : decode cX12_reads0 47 = .ok (.iload_n 1, 1) := by decide +kernel
theorem dX12_reads0_48 : decode cX12_reads0 48 = .ok (.iconst 1, 1) := by decide +kernel
theorem dX12_reads0_49 : decode cX12_reads0 49 = .ok (.invokevirtual 151, 3) := by decide +kernel
theorem dX12_reads0_52 : decode cX12_reads0 52 = .ok (.iconst 4, 1) := by decide +kernel
theorem dX12_reads0_53 : decode cX12_reads0 53 = .ok (.if_icmp .le 7, 3) := by decide +kernel
theorem dX12_reads0_56 : decode cX12_reads0 56 = .ok (.iconst 1, 1) := by decide +kernel
theorem dX12_reads0_57 : decode cX12_reads0 57 = .ok (.goto 4, 3) := by decide +kernel
theorem dX12_reads0_60 : decode cX12_reads0 60 = .ok (.iconst 2, 1) := by decide +kernel
theorem dX12_reads0_61 : decode cX12_reads0 61 = .ok (.ireturn, 1) := by decide +kernel
theorem dX12_reads0_62 : decode cX12_reads0 62 = .ok (.iconst 5, 1) := by decide +kernel
theorem dX12_reads0_63 : decode cX12_reads0 63 = .ok (.ireturn, 1) := by decide +kernel
theorem dX12_reads0_64 : decode cX12_reads0 64 = .ok (.bipush 9, 2) := by decide +kernel
theorem dX12_reads0_66 : decode cX12_reads0 66 = .ok (.ireturn, 1) := by decide +kernel
theorem dX12_reads0_67 : decode cX12_reads0 67 = .ok (.iconst 3, 1) := by decide +kernel
theorem dX12_reads0_68 : decode cX12_reads0 68 = .ok (.ireturn, 1) := by decide +kernel
set_option maxRecDepth 20000 in
theorem ggX12_wears_X12_on : GoodIn wsX12_wears wsX12_on := goodIn_r _ [5, 6, 7, 8, 4, 9, 10, 14, 15, 16, 17, 18, 19, 20, 21, 22, 23, 24, 25, 26, 27, 28, 29, 30, 31, 32, 33, 34, 35, 36] rfl (by decide +kernel)
set_option maxRecDepth 20000 in
theorem gX12_wears_X12_on : GoodIn wsX12_wears (wsV RX12 154 RX12 yX12_on wsX12_on) := goodIn_app (goodIn_r _ [1, 2, 3, 4] rfl (by decide +kernel)) ggX12_wears_X12_on
set_option maxRecDepth 20000 in
theorem ggX12_wears_X12_ones : GoodIn wsX12_wears wsX12_ones := goodIn_r _ [13] rfl (by decide +kernel)
set_option maxRecDepth 20000 in
theorem gX12_wears_X12_ones : GoodIn wsX12_wears (va_wsS RX12 157 yX12_ones wsX12_ones) := goodIn_app (goodIn_r _ [11, 12, 4] rfl (by decide +kernel)) ggX12_wears_X12_ones
set_option maxRecDepth 20000 in
theorem ggX12_wears_X12_of : GoodIn wsX12_wears wsX12_of := goodIn_r _ [9, 10, 14, 15, 16, 17, 18, 19, 20, 21, 22, 23, 24, 25, 26, 27, 28, 29, 30, 31, 32, 33, 34, 35, 36] rfl (by decide +kernel)
set_option maxRecDepth 20000 in
theorem gX12_wears_X12_of : GoodIn wsX12_wears (wsV RX12 151 RX12 yX12_of wsX12_of) := goodIn_app (goodIn_r _ [6, 7, 8, 4] rfl (by decide +kernel)) ggX12_wears_X12_of
theorem dX12_wears_0 : decode cX12_wears 0 = .ok (.aload_n 0, 1) := by decide +kernel
theorem dX12_wears_1 : decode cX12_wears 1 = .ok (.iload_n 1, 1) := by decide +kernel
theorem dX12_wears_2 : decode cX12_wears 2 = .ok (.invokevirtual 154, 3) := by decide +kernel
theorem dX12_wears_5 : decode cX12_wears 5 = .ok (.invokestatic 157, 3) := by decide +kernel
theorem dX12_wears_8 : decode cX12_wears 8 = .ok (.istore_n 2, 1) := by decide +kernel
theorem dX12_wears_9 : decode cX12_wears 9 = .ok (.aload_n 0, 1) := by decide +kernel
theorem dX12_wears_10 : decode cX12_wears 10 = .ok (.iload_n 1, 1) := by decide +kernel
theorem dX12_wears_11 : decode cX12_wears 11 = .ok (.iconst 0, 1) := by decide +kernel
theorem dX12_wears_12 : decode cX12_wears 12 = .ok (.invokevirtual 151, 3) := by decide +kernel
theorem dX12_wears_15 : decode cX12_wears 15 = .ok (.tableswitch 55 1 6 #[37, 55, 39, 37, 41, 51], 37) := by decide +kernel
theorem dX12_wears_52 : decode cX12_wears 52 = .ok (.iconst 2, 1) := by decide +kernel
theorem dX12_wears_53 : decode cX12_wears 53 = .ok (.ireturn, 1) := by decide +kernel
theorem dX12_wears_54 : decode cX12_wears 54 = .ok (.iconst 3, 1) := by decide +kernel
theorem dX12_wears_55 : decode cX12_wears 55 = .ok (.ireturn, 1) := by decide +kernel
theorem dX12_wears_56 : decode cX12_wears 56 = .ok (.iload_n 2, 1) := by decide +kernel
theorem dX12_wears_57 : decode cX12_wears 57 = .ok (.ifCond .ne 7, 3) := by decide +kernel
theorem dX12_wears_60 : decode cX12_wears 60 = .ok (.iconst 0, 1) := by decide +kernel
theorem dX12_wears_61 : decode cX12_wears 61 = .ok (.goto 4, 3) := by decide +kernel
theorem dX12_wears_64 : decode cX12_wears 64 = .ok (.iconst 1, 1) := by decide +kernel
theorem dX12_wears_65 : decode cX12_wears 65 = .ok (.ireturn, 1) := by decide +kernel
theorem dX12_wears_66 : decode cX12_wears 66 = .ok (.iconst 3, 1) := by decide +kernel
theorem dX12_wears_67 : decode cX12_wears 67 = .ok (.iload_n 2, 1) := by decide +kernel
theorem dX12_wears_68 : decode cX12_wears 68 = .ok (.iadd, 1) := by decide +kernel
theorem dX12_wears_69 : decode cX12_wears 69 = .ok (.ireturn, 1) := by decide +kernel
theorem dX12_wears_70 : decode cX12_wears 70 = .ok (.iconst 1, 1) := by decide +kernel
theorem dX12_wears_71 : decode cX12_wears 71 = .ok (.ireturn, 1) := by decide +kernel
set_option maxRecDepth 20000 in
theorem ggX12_rubs_X12_wears : GoodIn wsX12_rubs wsX12_wears := goodIn_r _ [5, 6, 7, 8, 4, 9, 10, 11, 12, 13, 14, 15, 16, 17, 34, 35, 36, 37, 38, 39, 40, 41, 42, 43, 44, 45, 46, 47, 48, 49, 50, 51, 52, 53, 54, 55, 56] rfl (by decide +kernel)
set_option maxRecDepth 20000 in
theorem gX12_rubs_X12_wears : GoodIn wsX12_rubs (wsV RX12 160 RX12 yX12_wears wsX12_wears) := goodIn_app (goodIn_r _ [1, 2, 3, 4] rfl (by decide +kernel)) ggX12_rubs_X12_wears
set_option maxRecDepth 20000 in
theorem ggX12_rubs_X12_of : GoodIn wsX12_rubs wsX12_of := goodIn_r _ [13, 14, 34, 35, 36, 37, 38, 39, 40, 41, 42, 43, 44, 45, 46, 47, 48, 49, 50, 51, 52, 53, 54, 55, 56] rfl (by decide +kernel)
set_option maxRecDepth 20000 in
theorem gX12_rubs_X12_of : GoodIn wsX12_rubs (wsV RX12 151 RX12 yX12_of wsX12_of) := goodIn_app (goodIn_r _ [10, 11, 12, 4] rfl (by decide +kernel)) ggX12_rubs_X12_of
set_option maxRecDepth 20000 in
theorem ggX12_rubs_X12_on : GoodIn wsX12_rubs wsX12_on := goodIn_r _ [9, 10, 11, 12, 4, 13, 14, 34, 35, 36, 37, 38, 39, 40, 41, 42, 43, 44, 45, 46, 47, 48, 49, 50, 51, 52, 53, 54, 55, 56] rfl (by decide +kernel)
set_option maxRecDepth 20000 in
theorem gX12_rubs_X12_on : GoodIn wsX12_rubs (wsV RX12 154 RX12 yX12_on wsX12_on) := goodIn_app (goodIn_r _ [6, 7, 8, 4] rfl (by decide +kernel)) ggX12_rubs_X12_on
set_option maxRecDepth 20000 in
theorem ggX12_rubs_X12_ones : GoodIn wsX12_rubs wsX12_ones := goodIn_r _ [17] rfl (by decide +kernel)
set_option maxRecDepth 20000 in
theorem gX12_rubs_X12_ones : GoodIn wsX12_rubs (va_wsS RX12 157 yX12_ones wsX12_ones) := goodIn_app (goodIn_r _ [15, 16, 4] rfl (by decide +kernel)) ggX12_rubs_X12_ones
set_option maxRecDepth 20000 in
theorem ggX12_rubs_X12_textGives : GoodIn wsX12_rubs wsX12_textGives := goodIn_r _ [21, 14, 22, 23, 24, 25, 4, 26, 27, 28, 29, 30, 31, 32, 33, 34, 35, 36, 37, 38, 39, 40, 41, 42, 43, 44, 45, 46, 47, 48, 49, 50, 51, 52, 53, 54, 55, 56] rfl (by decide +kernel)
set_option maxRecDepth 20000 in
theorem gX12_rubs_X12_textGives : GoodIn wsX12_rubs (wsV RX12 147 RX12 yX12_textGives wsX12_textGives) := goodIn_app (goodIn_r _ [18, 19, 20, 4] rfl (by decide +kernel)) ggX12_rubs_X12_textGives
theorem dX12_rubs_0 : decode cX12_rubs 0 = .ok (.aload_n 0, 1) := by decide +kernel
theorem dX12_rubs_1 : decode cX12_rubs 1 = .ok (.iconst 1, 1) := by decide +kernel
theorem dX12_rubs_2 : decode cX12_rubs 2 = .ok (.aload_n 0, 1) := by decide +kernel
theorem dX12_rubs_3 : decode cX12_rubs 3 = .ok (.iload_n 1, 1) := by decide +kernel
theorem dX12_rubs_4 : decode cX12_rubs 4 = .ok (.invokevirtual 160, 3) := by decide +kernel
theorem dX12_rubs_7 : decode cX12_rubs 7 = .ok (.aload_n 0, 1) := by decide +kernel
theorem dX12_rubs_8 : decode cX12_rubs 8 = .ok (.iload_n 1, 1) := by decide +kernel
theorem dX12_rubs_9 : decode cX12_rubs 9 = .ok (.iconst 2, 1) := by decide +kernel
theorem dX12_rubs_10 : decode cX12_rubs 10 = .ok (.invokevirtual 151, 3) := by decide +kernel
theorem dX12_rubs_13 : decode cX12_rubs 13 = .ok (.aload_n 0, 1) := by decide +kernel
theorem dX12_rubs_14 : decode cX12_rubs 14 = .ok (.iload_n 1, 1) := by decide +kernel
theorem dX12_rubs_15 : decode cX12_rubs 15 = .ok (.invokevirtual 154, 3) := by decide +kernel
theorem dX12_rubs_18 : decode cX12_rubs 18 = .ok (.invokestatic 157, 3) := by decide +kernel
theorem dX12_rubs_21 : decode cX12_rubs 21 = .ok (.invokevirtual 147, 3) := by decide +kernel
theorem dX12_rubs_24 : decode cX12_rubs 24 = .ok (.ireturn, 1) := by decide +kernel
set_option maxRecDepth 20000 in
theorem ggX12_swallows_X12_stays : GoodIn wsX12_swallows wsX12_stays := goodIn_r _ [6, 1, 7, 8, 9, 5, 10, 31, 32, 33, 34, 35, 36, 37, 38, 39, 40, 41, 42, 43, 44, 45, 46, 47, 48, 49, 50, 51, 52, 53] rfl (by decide +kernel)
set_option maxRecDepth 20000 in
theorem gX12_swallows_X12_stays : GoodIn wsX12_swallows (wsV RX12 163 RX12 yX12_stays wsX12_stays) := goodIn_app (goodIn_r _ [2, 3, 4, 5] rfl (by decide +kernel)) ggX12_swallows_X12_stays
set_option maxRecDepth 20000 in
theorem ggX12_swallows_X12_of : GoodIn wsX12_swallows wsX12_of := goodIn_r _ [10, 1, 31, 32, 33, 34, 35, 36, 37, 38, 39, 40, 41, 42, 43, 44, 45, 46, 47, 48, 49, 50, 51, 52, 53] rfl (by decide +kernel)
set_option maxRecDepth 20000 in
theorem gX12_swallows_X12_of : GoodIn wsX12_swallows (wsV RX12 151 RX12 yX12_of wsX12_of) := goodIn_app (goodIn_r _ [7, 8, 9, 5] rfl (by decide +kernel)) ggX12_swallows_X12_of
set_option maxRecDepth 20000 in
theorem ggX12_swallows_X12_textGives : GoodIn wsX12_swallows wsX12_textGives := goodIn_r _ [14, 1, 15, 16, 17, 18, 5, 19, 20, 21, 22, 23, 24, 25, 26, 31, 32, 33, 34, 35, 36, 37, 38, 39, 40, 41, 42, 43, 44, 45, 46, 47, 48, 49, 50, 51, 52, 53] rfl (by decide +kernel)
set_option maxRecDepth 20000 in
theorem gX12_swallows_X12_textGives : GoodIn wsX12_swallows (wsV RX12 147 RX12 yX12_textGives wsX12_textGives) := goodIn_app (goodIn_r _ [11, 12, 13, 5] rfl (by decide +kernel)) ggX12_swallows_X12_textGives
set_option maxRecDepth 20000 in
theorem ggX12_swallows_X12_sets : GoodIn wsX12_swallows wsX12_sets := goodIn_r _ [30, 1, 31, 32, 33, 34, 35, 36, 37, 38, 39, 40, 41, 42, 43, 44, 45, 46, 47, 48, 49, 50, 51, 52, 53] rfl (by decide +kernel)
set_option maxRecDepth 20000 in
theorem gX12_swallows_X12_sets : GoodIn wsX12_swallows (wsV RX12 166 RX12 yX12_sets wsX12_sets) := goodIn_app (goodIn_r _ [27, 28, 29, 5] rfl (by decide +kernel)) ggX12_swallows_X12_sets
theorem dX12_swallows_0 : decode cX12_swallows 0 = .ok (.aload_n 0, 1) := by decide +kernel
theorem dX12_swallows_1 : decode cX12_swallows 1 = .ok (.iconst 0, 1) := by decide +kernel
theorem dX12_swallows_2 : decode cX12_swallows 2 = .ok (.aload_n 0, 1) := by decide +kernel
theorem dX12_swallows_3 : decode cX12_swallows 3 = .ok (.iload_n 1, 1) := by decide +kernel
theorem dX12_swallows_4 : decode cX12_swallows 4 = .ok (.iload_n 2, 1) := by decide +kernel
theorem dX12_swallows_5 : decode cX12_swallows 5 = .ok (.invokevirtual 163, 3) := by decide +kernel
theorem dX12_swallows_8 : decode cX12_swallows 8 = .ok (.aload_n 0, 1) := by decide +kernel
theorem dX12_swallows_9 : decode cX12_swallows 9 = .ok (.getfield 7, 3) := by decide +kernel
theorem dX12_swallows_12 : decode cX12_swallows 12 = .ok (.bipush 6, 2) := by decide +kernel
theorem dX12_swallows_14 : decode cX12_swallows 14 = .ok (.iload_n 2, 1) := by decide +kernel
theorem dX12_swallows_15 : decode cX12_swallows 15 = .ok (.iadd, 1) := by decide +kernel
theorem dX12_swallows_16 : decode cX12_swallows 16 = .ok (.iaload, 1) := by decide +kernel
theorem dX12_swallows_17 : decode cX12_swallows 17 = .ok (.aload_n 0, 1) := by decide +kernel
theorem dX12_swallows_18 : decode cX12_swallows 18 = .ok (.iload_n 1, 1) := by decide +kernel
theorem dX12_swallows_19 : decode cX12_swallows 19 = .ok (.iconst 2, 1) := by decide +kernel
theorem dX12_swallows_20 : decode cX12_swallows 20 = .ok (.invokevirtual 151, 3) := by decide +kernel
theorem dX12_swallows_23 : decode cX12_swallows 23 = .ok (.invokevirtual 147, 3) := by decide +kernel
theorem dX12_swallows_26 : decode cX12_swallows 26 = .ok (.istore_n 3, 1) := by decide +kernel
theorem dX12_swallows_27 : decode cX12_swallows 27 = .ok (.aload_n 0, 1) := by decide +kernel
theorem dX12_swallows_28 : decode cX12_swallows 28 = .ok (.iload_n 1, 1) := by decide +kernel
theorem dX12_swallows_29 : decode cX12_swallows 29 = .ok (.iconst 3, 1) := by decide +kernel
theorem dX12_swallows_30 : decode cX12_swallows 30 = .ok (.iload_n 2, 1) := by decide +kernel
theorem dX12_swallows_31 : decode cX12_swallows 31 = .ok (.iadd, 1) := by decide +kernel
theorem dX12_swallows_32 : decode cX12_swallows 32 = .ok (.iload_n 3, 1) := by decide +kernel
theorem dX12_swallows_33 : decode cX12_swallows 33 = .ok (.aload_n 0, 1) := by decide +kernel
theorem dX12_swallows_34 : decode cX12_swallows 34 = .ok (.iload_n 1, 1) := by decide +kernel
theorem dX12_swallows_35 : decode cX12_swallows 35 = .ok (.iconst 3, 1) := by decide +kernel
theorem dX12_swallows_36 : decode cX12_swallows 36 = .ok (.iload_n 2, 1) := by decide +kernel
theorem dX12_swallows_37 : decode cX12_swallows 37 = .ok (.iadd, 1) := by decide +kernel
theorem dX12_swallows_38 : decode cX12_swallows 38 = .ok (.invokevirtual 151, 3) := by decide +kernel
theorem dX12_swallows_41 : decode cX12_swallows 41 = .ok (.if_icmp .le 7, 3) := by decide +kernel
theorem dX12_swallows_44 : decode cX12_swallows 44 = .ok (.iload_n 3, 1) := by decide +kernel
theorem dX12_swallows_45 : decode cX12_swallows 45 = .ok (.goto 11, 3) := by decide +kernel
theorem dX12_swallows_48 : decode cX12_swallows 48 = .ok (.aload_n 0, 1) := by decide +kernel
theorem dX12_swallows_49 : decode cX12_swallows 49 = .ok (.iload_n 1, 1) := by decide +kernel
theorem dX12_swallows_50 : decode cX12_swallows 50 = .ok (.iconst 3, 1) := by decide +kernel
theorem dX12_swallows_51 : decode cX12_swallows 51 = .ok (.iload_n 2, 1) := by decide +kernel
theorem dX12_swallows_52 : decode cX12_swallows 52 = .ok (.iadd, 1) := by decide +kernel
theorem dX12_swallows_53 : decode cX12_swallows 53 = .ok (.invokevirtual 151, 3) := by decide +kernel
theorem dX12_swallows_56 : decode cX12_swallows 56 = .ok (.invokevirtual 166, 3) := by decide +kernel
theorem dX12_swallows_59 : decode cX12_swallows 59 = .ok (.return_, 1) := by decide +kernel
set_option maxRecDepth 20000 in
theorem ggX12_washes_X12_on : GoodIn wsX12_washes wsX12_on := goodIn_r _ [6, 7, 8, 9, 5, 10, 1, 50, 51, 52, 53, 54, 55, 56, 57, 58, 59, 60, 61, 62, 63, 64, 65, 66, 67, 68, 69, 70, 71, 72] rfl (by decide +kernel)
set_option maxRecDepth 20000 in
theorem gX12_washes_X12_on : GoodIn wsX12_washes (wsV RX12 154 RX12 yX12_on wsX12_on) := goodIn_app (goodIn_r _ [2, 3, 4, 5] rfl (by decide +kernel)) ggX12_washes_X12_on
set_option maxRecDepth 20000 in
theorem ggX12_washes_X12_rubs : GoodIn wsX12_washes wsX12_rubs := goodIn_r _ [14, 15, 16, 17, 5, 18, 2, 3, 4, 6, 7, 8, 9, 10, 1, 19, 20, 21, 22, 23, 24, 25, 26, 27, 28, 29, 30, 31, 32, 33, 34, 35, 36, 37, 50, 51, 52, 53, 54, 55, 56, 57, 58, 59, 60, 61, 62, 63, 64, 65, 66, 67, 68, 69, 70, 71, 72] rfl (by decide +kernel)
set_option maxRecDepth 20000 in
theorem gX12_washes_X12_rubs : GoodIn wsX12_washes (wsV RX12 169 RX12 yX12_rubs wsX12_rubs) := goodIn_app (goodIn_r _ [11, 12, 13, 5] rfl (by decide +kernel)) ggX12_washes_X12_rubs
set_option maxRecDepth 20000 in
theorem ggX12_washes_X12_of : GoodIn wsX12_washes wsX12_of := goodIn_r _ [10, 1, 50, 51, 52, 53, 54, 55, 56, 57, 58, 59, 60, 61, 62, 63, 64, 65, 66, 67, 68, 69, 70, 71, 72] rfl (by decide +kernel)
set_option maxRecDepth 20000 in
theorem gX12_washes_X12_of : GoodIn wsX12_washes (wsV RX12 151 RX12 yX12_of wsX12_of) := goodIn_app (goodIn_r _ [7, 8, 9, 5] rfl (by decide +kernel)) ggX12_washes_X12_of
set_option maxRecDepth 20000 in
theorem ggX12_washes_X12_reads0 : GoodIn wsX12_washes wsX12_reads0 := goodIn_r _ [41, 7, 8, 9, 5, 10, 1, 50, 51, 52, 53, 54, 55, 56, 57, 58, 59, 60, 61, 62, 63, 64, 65, 66, 67, 68, 69, 70, 71, 72] rfl (by decide +kernel)
set_option maxRecDepth 20000 in
theorem gX12_washes_X12_reads0 : GoodIn wsX12_washes (wsV RX12 172 RX12 yX12_reads0 wsX12_reads0) := goodIn_app (goodIn_r _ [38, 39, 40, 5] rfl (by decide +kernel)) ggX12_washes_X12_reads0
set_option maxRecDepth 20000 in
theorem ggX12_washes_X12_held : GoodIn wsX12_washes wsX12_held := goodIn_r _ [37] rfl (by decide +kernel)
set_option maxRecDepth 20000 in
theorem gX12_washes_X12_held : GoodIn wsX12_washes (va_wsS RX12 144 yX12_held wsX12_held) := goodIn_app (goodIn_r _ [35, 36, 5] rfl (by decide +kernel)) ggX12_washes_X12_held
set_option maxRecDepth 20000 in
theorem ggX12_washes_X12_sets : GoodIn wsX12_washes wsX12_sets := goodIn_r _ [45, 1, 50, 51, 52, 53, 54, 55, 56, 57, 58, 59, 60, 61, 62, 63, 64, 65, 66, 67, 68, 69, 70, 71, 72] rfl (by decide +kernel)
set_option maxRecDepth 20000 in
theorem gX12_washes_X12_sets : GoodIn wsX12_washes (wsV RX12 166 RX12 yX12_sets wsX12_sets) := goodIn_app (goodIn_r _ [42, 43, 44, 5] rfl (by decide +kernel)) ggX12_washes_X12_sets
set_option maxRecDepth 20000 in
theorem ggX12_washes_X12_isThrough : GoodIn wsX12_washes wsX12_isThrough := goodIn_r _ [49, 7, 8, 9, 5, 10, 1, 50, 51, 52, 53, 54, 55, 56, 57, 58, 59, 60, 61, 62, 63, 64, 65, 66, 67, 68, 69, 70, 71, 72] rfl (by decide +kernel)
set_option maxRecDepth 20000 in
theorem gX12_washes_X12_isThrough : GoodIn wsX12_washes (wsV RX12 175 RX12 yX12_isThrough wsX12_isThrough) := goodIn_app (goodIn_r _ [46, 47, 48, 5] rfl (by decide +kernel)) ggX12_washes_X12_isThrough
theorem dX12_washes_0 : decode cX12_washes 0 = .ok (.aload_n 0, 1) := by decide +kernel
theorem dX12_washes_1 : decode cX12_washes 1 = .ok (.iload_n 1, 1) := by decide +kernel
theorem dX12_washes_2 : decode cX12_washes 2 = .ok (.invokevirtual 154, 3) := by decide +kernel
theorem dX12_washes_5 : decode cX12_washes 5 = .ok (.istore_n 2, 1) := by decide +kernel
theorem dX12_washes_6 : decode cX12_washes 6 = .ok (.aload_n 0, 1) := by decide +kernel
theorem dX12_washes_7 : decode cX12_washes 7 = .ok (.iload_n 1, 1) := by decide +kernel
theorem dX12_washes_8 : decode cX12_washes 8 = .ok (.invokevirtual 169, 3) := by decide +kernel
theorem dX12_washes_11 : decode cX12_washes 11 = .ok (.istore_n 3, 1) := by decide +kernel
theorem dX12_washes_12 : decode cX12_washes 12 = .ok (.iconst 0, 1) := by decide +kernel
theorem dX12_washes_13 : decode cX12_washes 13 = .ok (.istore 4, 2) := by decide +kernel
theorem dX12_washes_15 : decode cX12_washes 15 = .ok (.iload 4, 2) := by decide +kernel
theorem dX12_washes_17 : decode cX12_washes 17 = .ok (.bipush 12, 2) := by decide +kernel
theorem dX12_washes_19 : decode cX12_washes 19 = .ok (.if_icmp .ge 52, 3) := by decide +kernel
theorem dX12_washes_22 : decode cX12_washes 22 = .ok (.aload_n 0, 1) := by decide +kernel
theorem dX12_washes_23 : decode cX12_washes 23 = .ok (.iload_n 1, 1) := by decide +kernel
theorem dX12_washes_24 : decode cX12_washes 24 = .ok (.iconst 3, 1) := by decide +kernel
theorem dX12_washes_25 : decode cX12_washes 25 = .ok (.iload 4, 2) := by decide +kernel
theorem dX12_washes_27 : decode cX12_washes 27 = .ok (.iadd, 1) := by decide +kernel
theorem dX12_washes_28 : decode cX12_washes 28 = .ok (.invokevirtual 151, 3) := by decide +kernel
theorem dX12_washes_31 : decode cX12_washes 31 = .ok (.istore 5, 2) := by decide +kernel
theorem dX12_washes_33 : decode cX12_washes 33 = .ok (.aload_n 0, 1) := by decide +kernel
theorem dX12_washes_34 : decode cX12_washes 34 = .ok (.getfield 7, 3) := by decide +kernel
theorem dX12_washes_37 : decode cX12_washes 37 = .ok (.iconst 2, 1) := by decide +kernel
theorem dX12_washes_38 : decode cX12_washes 38 = .ok (.dup2, 1) := by decide +kernel
theorem dX12_washes_39 : decode cX12_washes 39 = .ok (.iaload, 1) := by decide +kernel
theorem dX12_washes_40 : decode cX12_washes 40 = .ok (.iload 5, 2) := by decide +kernel
theorem dX12_washes_42 : decode cX12_washes 42 = .ok (.ifCond .le 20, 3) := by decide +kernel
theorem dX12_washes_45 : decode cX12_washes 45 = .ok (.iload 5, 2) := by decide +kernel
theorem dX12_washes_47 : decode cX12_washes 47 = .ok (.aload_n 0, 1) := by decide +kernel
theorem dX12_washes_48 : decode cX12_washes 48 = .ok (.iload_n 1, 1) := by decide +kernel
theorem dX12_washes_49 : decode cX12_washes 49 = .ok (.invokevirtual 172, 3) := by decide +kernel
theorem dX12_washes_52 : decode cX12_washes 52 = .ok (.if_icmp .lt 10, 3) := by decide +kernel
theorem dX12_washes_55 : decode cX12_washes 55 = .ok (.iconst 1, 1) := by decide +kernel
theorem dX12_washes_56 : decode cX12_washes 56 = .ok (.iload 4, 2) := by decide +kernel
theorem dX12_washes_58 : decode cX12_washes 58 = .ok (.ishl, 1) := by decide +kernel
theorem dX12_washes_59 : decode cX12_washes 59 = .ok (.goto 4, 3) := by decide +kernel
theorem dX12_washes_62 : decode cX12_washes 62 = .ok (.iconst 0, 1) := by decide +kernel
theorem dX12_washes_63 : decode cX12_washes 63 = .ok (.ior, 1) := by decide +kernel
theorem dX12_washes_64 : decode cX12_washes 64 = .ok (.iastore, 1) := by decide +kernel
theorem dX12_washes_65 : decode cX12_washes 65 = .ok (.iinc 4 1, 3) := by decide +kernel
theorem dX12_washes_68 : decode cX12_washes 68 = .ok (.goto (-53), 3) := by decide +kernel
theorem dX12_washes_71 : decode cX12_washes 71 = .ok (.aload_n 0, 1) := by decide +kernel
theorem dX12_washes_72 : decode cX12_washes 72 = .ok (.iload_n 1, 1) := by decide +kernel
theorem dX12_washes_73 : decode cX12_washes 73 = .ok (.iconst 2, 1) := by decide +kernel
theorem dX12_washes_74 : decode cX12_washes 74 = .ok (.aload_n 0, 1) := by decide +kernel
theorem dX12_washes_75 : decode cX12_washes 75 = .ok (.iload_n 1, 1) := by decide +kernel
theorem dX12_washes_76 : decode cX12_washes 76 = .ok (.iconst 2, 1) := by decide +kernel
theorem dX12_washes_77 : decode cX12_washes 77 = .ok (.invokevirtual 151, 3) := by decide +kernel
theorem dX12_washes_80 : decode cX12_washes 80 = .ok (.iload_n 3, 1) := by decide +kernel
theorem dX12_washes_81 : decode cX12_washes 81 = .ok (.isub, 1) := by decide +kernel
theorem dX12_washes_82 : decode cX12_washes 82 = .ok (.iconst 0, 1) := by decide +kernel
theorem dX12_washes_83 : decode cX12_washes 83 = .ok (.bipush 99, 2) := by decide +kernel
theorem dX12_washes_85 : decode cX12_washes 85 = .ok (.invokestatic 144, 3) := by decide +kernel
theorem dX12_washes_88 : decode cX12_washes 88 = .ok (.invokevirtual 166, 3) := by decide +kernel
theorem dX12_washes_91 : decode cX12_washes 91 = .ok (.aload_n 0, 1) := by decide +kernel
theorem dX12_washes_92 : decode cX12_washes 92 = .ok (.iload_n 1, 1) := by decide +kernel
theorem dX12_washes_93 : decode cX12_washes 93 = .ok (.invokevirtual 175, 3) := by decide +kernel
theorem dX12_washes_96 : decode cX12_washes 96 = .ok (.istore 4, 2) := by decide +kernel
theorem dX12_washes_98 : decode cX12_washes 98 = .ok (.aload_n 0, 1) := by decide +kernel
theorem dX12_washes_99 : decode cX12_washes 99 = .ok (.getfield 7, 3) := by decide +kernel
theorem dX12_washes_102 : decode cX12_washes 102 = .ok (.iconst 2, 1) := by decide +kernel
theorem dX12_washes_103 : decode cX12_washes 103 = .ok (.dup2, 1) := by decide +kernel
theorem dX12_washes_104 : decode cX12_washes 104 = .ok (.iaload, 1) := by decide +kernel
theorem dX12_washes_105 : decode cX12_washes 105 = .ok (.iload 4, 2) := by decide +kernel
theorem dX12_washes_107 : decode cX12_washes 107 = .ok (.ifCond .eq 7, 3) := by decide +kernel
theorem dX12_washes_110 : decode cX12_washes 110 = .ok (.iload_n 2, 1) := by decide +kernel
theorem dX12_washes_111 : decode cX12_washes 111 = .ok (.goto 4, 3) := by decide +kernel
theorem dX12_washes_114 : decode cX12_washes 114 = .ok (.iconst 0, 1) := by decide +kernel
theorem dX12_washes_115 : decode cX12_washes 115 = .ok (.ior, 1) := by decide +kernel
theorem dX12_washes_116 : decode cX12_washes 116 = .ok (.iastore, 1) := by decide +kernel
theorem dX12_washes_117 : decode cX12_washes 117 = .ok (.iconst 0, 1) := by decide +kernel
theorem dX12_washes_118 : decode cX12_washes 118 = .ok (.istore 5, 2) := by decide +kernel
theorem dX12_washes_120 : decode cX12_washes 120 = .ok (.iload 5, 2) := by decide +kernel
theorem dX12_washes_122 : decode cX12_washes 122 = .ok (.bipush 12, 2) := by decide +kernel
theorem dX12_washes_124 : decode cX12_washes 124 = .ok (.if_icmp .ge 38, 3) := by decide +kernel
theorem dX12_washes_127 : decode cX12_washes 127 = .ok (.aload_n 0, 1) := by decide +kernel
theorem dX12_washes_128 : decode cX12_washes 128 = .ok (.iload_n 1, 1) := by decide +kernel
theorem dX12_washes_129 : decode cX12_washes 129 = .ok (.iconst 3, 1) := by decide +kernel
theorem dX12_washes_130 : decode cX12_washes 130 = .ok (.iload 5, 2) := by decide +kernel
theorem dX12_washes_132 : decode cX12_washes 132 = .ok (.iadd, 1) := by decide +kernel
theorem dX12_washes_133 : decode cX12_washes 133 = .ok (.iload 4, 2) := by decide +kernel
theorem dX12_washes_135 : decode cX12_washes 135 = .ok (.ifCond .eq 7, 3) := by decide +kernel
theorem dX12_washes_138 : decode cX12_washes 138 = .ok (.iconst 0, 1) := by decide +kernel
theorem dX12_washes_139 : decode cX12_washes 139 = .ok (.goto 14, 3) := by decide +kernel
theorem dX12_washes_142 : decode cX12_washes 142 = .ok (.aload_n 0, 1) := by decide +kernel
theorem dX12_washes_143 : decode cX12_washes 143 = .ok (.iload_n 1, 1) := by decide +kernel
theorem dX12_washes_144 : decode cX12_washes 144 = .ok (.iconst 3, 1) := by decide +kernel
theorem dX12_washes_145 : decode cX12_washes 145 = .ok (.iload 5, 2) := by decide +kernel
theorem dX12_washes_147 : decode cX12_washes 147 = .ok (.iadd, 1) := by decide +kernel
theorem dX12_washes_148 : decode cX12_washes 148 = .ok (.invokevirtual 151, 3) := by decide +kernel
theorem dX12_washes_151 : decode cX12_washes 151 = .ok (.iconst 2, 1) := by decide +kernel
theorem dX12_washes_152 : decode cX12_washes 152 = .ok (.idiv, 1) := by decide +kernel
theorem dX12_washes_153 : decode cX12_washes 153 = .ok (.invokevirtual 166, 3) := by decide +kernel
theorem dX12_washes_156 : decode cX12_washes 156 = .ok (.iinc 5 1, 3) := by decide +kernel
theorem dX12_washes_159 : decode cX12_washes 159 = .ok (.goto (-39), 3) := by decide +kernel
theorem dX12_washes_162 : decode cX12_washes 162 = .ok (.return_, 1) := by decide +kernel
set_option maxRecDepth 20000 in
theorem ggX12_hourGoes_X12_isSpoon : GoodIn wsX12_hourGoes wsX12_isSpoon := goodIn_r _ [6, 1, 7, 8, 5, 9, 69, 70, 71, 72, 73, 74, 75, 76, 77, 78, 79, 80, 81, 82, 83, 84, 85, 86, 87, 88, 89, 90, 91] rfl (by decide +kernel)
set_option maxRecDepth 20000 in
theorem gX12_hourGoes_X12_isSpoon : GoodIn wsX12_hourGoes (wsV RX12 178 RX12 yX12_isSpoon wsX12_isSpoon) := goodIn_app (goodIn_r _ [2, 3, 4, 5] rfl (by decide +kernel)) ggX12_hourGoes_X12_isSpoon
set_option maxRecDepth 20000 in
theorem ggX12_hourGoes_X12_isThrough : GoodIn wsX12_hourGoes wsX12_isThrough := goodIn_r _ [13, 14, 15, 16, 5, 17, 1, 69, 70, 71, 72, 73, 74, 75, 76, 77, 78, 79, 80, 81, 82, 83, 84, 85, 86, 87, 88, 89, 90, 91] rfl (by decide +kernel)
set_option maxRecDepth 20000 in
theorem gX12_hourGoes_X12_isThrough : GoodIn wsX12_hourGoes (wsV RX12 175 RX12 yX12_isThrough wsX12_isThrough) := goodIn_app (goodIn_r _ [10, 11, 12, 5] rfl (by decide +kernel)) ggX12_hourGoes_X12_isThrough
set_option maxRecDepth 20000 in
theorem ggX12_hourGoes_X12_swallows : GoodIn wsX12_hourGoes wsX12_swallows := goodIn_r _ [21, 1, 22, 23, 24, 5, 25, 14, 15, 16, 17, 26, 27, 28, 29, 30, 31, 32, 33, 34, 35, 36, 37, 38, 39, 40, 41, 42, 43, 44, 45, 69, 70, 71, 72, 73, 74, 75, 76, 77, 78, 79, 80, 81, 82, 83, 84, 85, 86, 87, 88, 89, 90, 91] rfl (by decide +kernel)
set_option maxRecDepth 20000 in
theorem gX12_hourGoes_X12_swallows : GoodIn wsX12_hourGoes (wsV RX12 181 RX12 yX12_swallows wsX12_swallows) := goodIn_app (goodIn_r _ [18, 19, 20, 5] rfl (by decide +kernel)) ggX12_hourGoes_X12_swallows
set_option maxRecDepth 20000 in
theorem ggX12_hourGoes_X12_washes : GoodIn wsX12_hourGoes wsX12_washes := goodIn_r _ [49, 1, 50, 51, 52, 5, 53, 14, 15, 16, 17, 54, 55, 56, 57, 58, 59, 60, 61, 62, 63, 64, 26, 27, 28, 29, 30, 31, 32, 33, 34, 35, 36, 37, 38, 39, 40, 41, 65, 66, 67, 68, 42, 43, 44, 45, 10, 11, 12, 13, 69, 70, 71, 72, 73, 74, 75, 76, 77, 78, 79, 80, 81, 82, 83, 84, 85, 86, 87, 88, 89, 90, 91] rfl (by decide +kernel)
set_option maxRecDepth 20000 in
theorem gX12_hourGoes_X12_washes : GoodIn wsX12_hourGoes (wsV RX12 185 RX12 yX12_washes wsX12_washes) := goodIn_app (goodIn_r _ [46, 47, 48, 5] rfl (by decide +kernel)) ggX12_hourGoes_X12_washes
set_option maxRecDepth 20000 in
theorem ggX12_hourGoes_X12_of : GoodIn wsX12_hourGoes wsX12_of := goodIn_r _ [17, 1, 69, 70, 71, 72, 73, 74, 75, 76, 77, 78, 79, 80, 81, 82, 83, 84, 85, 86, 87, 88, 89, 90, 91] rfl (by decide +kernel)
set_option maxRecDepth 20000 in
theorem gX12_hourGoes_X12_of : GoodIn wsX12_hourGoes (wsV RX12 151 RX12 yX12_of wsX12_of) := goodIn_app (goodIn_r _ [14, 15, 16, 5] rfl (by decide +kernel)) ggX12_hourGoes_X12_of
set_option maxRecDepth 20000 in
theorem ggX12_hourGoes_X12_held : GoodIn wsX12_hourGoes wsX12_held := goodIn_r _ [41] rfl (by decide +kernel)
set_option maxRecDepth 20000 in
theorem gX12_hourGoes_X12_held : GoodIn wsX12_hourGoes (va_wsS RX12 144 yX12_held wsX12_held) := goodIn_app (goodIn_r _ [39, 40, 5] rfl (by decide +kernel)) ggX12_hourGoes_X12_held
set_option maxRecDepth 20000 in
theorem ggX12_hourGoes_X12_sets : GoodIn wsX12_hourGoes wsX12_sets := goodIn_r _ [45, 1, 69, 70, 71, 72, 73, 74, 75, 76, 77, 78, 79, 80, 81, 82, 83, 84, 85, 86, 87, 88, 89, 90, 91] rfl (by decide +kernel)
set_option maxRecDepth 20000 in
theorem gX12_hourGoes_X12_sets : GoodIn wsX12_hourGoes (wsV RX12 166 RX12 yX12_sets wsX12_sets) := goodIn_app (goodIn_r _ [42, 43, 44, 5] rfl (by decide +kernel)) ggX12_hourGoes_X12_sets
theorem dX12_hourGoes_0 : decode cX12_hourGoes 0 = .ok (.aload_n 0, 1) := by decide +kernel
theorem dX12_hourGoes_1 : decode cX12_hourGoes 1 = .ok (.getfield 7, 3) := by decide +kernel
theorem dX12_hourGoes_4 : decode cX12_hourGoes 4 = .ok (.bipush 18, 2) := by decide +kernel
theorem dX12_hourGoes_6 : decode cX12_hourGoes 6 = .ok (.aload_n 0, 1) := by decide +kernel
theorem dX12_hourGoes_7 : decode cX12_hourGoes 7 = .ok (.getfield 7, 3) := by decide +kernel
theorem dX12_hourGoes_10 : decode cX12_hourGoes 10 = .ok (.iconst 1, 1) := by decide +kernel
theorem dX12_hourGoes_11 : decode cX12_hourGoes 11 = .ok (.iaload, 1) := by decide +kernel
theorem dX12_hourGoes_12 : decode cX12_hourGoes 12 = .ok (.bipush 6, 2) := by decide +kernel
theorem dX12_hourGoes_14 : decode cX12_hourGoes 14 = .ok (.irem, 1) := by decide +kernel
theorem dX12_hourGoes_15 : decode cX12_hourGoes 15 = .ok (.iadd, 1) := by decide +kernel
theorem dX12_hourGoes_16 : decode cX12_hourGoes 16 = .ok (.iaload, 1) := by decide +kernel
theorem dX12_hourGoes_17 : decode cX12_hourGoes 17 = .ok (.istore_n 1, 1) := by decide +kernel
theorem dX12_hourGoes_18 : decode cX12_hourGoes 18 = .ok (.aload_n 0, 1) := by decide +kernel
theorem dX12_hourGoes_19 : decode cX12_hourGoes 19 = .ok (.iload_n 1, 1) := by decide +kernel
theorem dX12_hourGoes_20 : decode cX12_hourGoes 20 = .ok (.invokevirtual 178, 3) := by decide +kernel
theorem dX12_hourGoes_23 : decode cX12_hourGoes 23 = .ok (.ifCond .eq 33, 3) := by decide +kernel
theorem dX12_hourGoes_26 : decode cX12_hourGoes 26 = .ok (.aload_n 0, 1) := by decide +kernel
theorem dX12_hourGoes_27 : decode cX12_hourGoes 27 = .ok (.iload_n 1, 1) := by decide +kernel
theorem dX12_hourGoes_28 : decode cX12_hourGoes 28 = .ok (.invokevirtual 175, 3) := by decide +kernel
theorem dX12_hourGoes_31 : decode cX12_hourGoes 31 = .ok (.ifCond .ne 25, 3) := by decide +kernel
theorem dX12_hourGoes_34 : decode cX12_hourGoes 34 = .ok (.aload_n 0, 1) := by decide +kernel
theorem dX12_hourGoes_35 : decode cX12_hourGoes 35 = .ok (.iload_n 1, 1) := by decide +kernel
theorem dX12_hourGoes_36 : decode cX12_hourGoes 36 = .ok (.aload_n 0, 1) := by decide +kernel
theorem dX12_hourGoes_37 : decode cX12_hourGoes 37 = .ok (.getfield 7, 3) := by decide +kernel
theorem dX12_hourGoes_40 : decode cX12_hourGoes 40 = .ok (.bipush 24, 2) := by decide +kernel
theorem dX12_hourGoes_42 : decode cX12_hourGoes 42 = .ok (.aload_n 0, 1) := by decide +kernel
theorem dX12_hourGoes_43 : decode cX12_hourGoes 43 = .ok (.getfield 7, 3) := by decide +kernel
theorem dX12_hourGoes_46 : decode cX12_hourGoes 46 = .ok (.iconst 1, 1) := by decide +kernel
theorem dX12_hourGoes_47 : decode cX12_hourGoes 47 = .ok (.iaload, 1) := by decide +kernel
theorem dX12_hourGoes_48 : decode cX12_hourGoes 48 = .ok (.bipush 6, 2) := by decide +kernel
theorem dX12_hourGoes_50 : decode cX12_hourGoes 50 = .ok (.irem, 1) := by decide +kernel
theorem dX12_hourGoes_51 : decode cX12_hourGoes 51 = .ok (.iadd, 1) := by decide +kernel
theorem dX12_hourGoes_52 : decode cX12_hourGoes 52 = .ok (.iaload, 1) := by decide +kernel
theorem dX12_hourGoes_53 : decode cX12_hourGoes 53 = .ok (.invokevirtual 181, 3) := by decide +kernel
theorem dX12_hourGoes_56 : decode cX12_hourGoes 56 = .ok (.aload_n 0, 1) := by decide +kernel
theorem dX12_hourGoes_57 : decode cX12_hourGoes 57 = .ok (.getfield 7, 3) := by decide +kernel
theorem dX12_hourGoes_60 : decode cX12_hourGoes 60 = .ok (.bipush 30, 2) := by decide +kernel
theorem dX12_hourGoes_62 : decode cX12_hourGoes 62 = .ok (.aload_n 0, 1) := by decide +kernel
theorem dX12_hourGoes_63 : decode cX12_hourGoes 63 = .ok (.getfield 7, 3) := by decide +kernel
theorem dX12_hourGoes_66 : decode cX12_hourGoes 66 = .ok (.iconst 1, 1) := by decide +kernel
theorem dX12_hourGoes_67 : decode cX12_hourGoes 67 = .ok (.iaload, 1) := by decide +kernel
theorem dX12_hourGoes_68 : decode cX12_hourGoes 68 = .ok (.iconst 4, 1) := by decide +kernel
theorem dX12_hourGoes_69 : decode cX12_hourGoes 69 = .ok (.irem, 1) := by decide +kernel
theorem dX12_hourGoes_70 : decode cX12_hourGoes 70 = .ok (.iadd, 1) := by decide +kernel
theorem dX12_hourGoes_71 : decode cX12_hourGoes 71 = .ok (.iaload, 1) := by decide +kernel
theorem dX12_hourGoes_72 : decode cX12_hourGoes 72 = .ok (.istore_n 2, 1) := by decide +kernel
theorem dX12_hourGoes_73 : decode cX12_hourGoes 73 = .ok (.aload_n 0, 1) := by decide +kernel
theorem dX12_hourGoes_74 : decode cX12_hourGoes 74 = .ok (.iload_n 2, 1) := by decide +kernel
theorem dX12_hourGoes_75 : decode cX12_hourGoes 75 = .ok (.invokevirtual 178, 3) := by decide +kernel
theorem dX12_hourGoes_78 : decode cX12_hourGoes 78 = .ok (.ifCond .eq 16, 3) := by decide +kernel
theorem dX12_hourGoes_81 : decode cX12_hourGoes 81 = .ok (.aload_n 0, 1) := by decide +kernel
theorem dX12_hourGoes_82 : decode cX12_hourGoes 82 = .ok (.iload_n 2, 1) := by decide +kernel
theorem dX12_hourGoes_83 : decode cX12_hourGoes 83 = .ok (.invokevirtual 175, 3) := by decide +kernel
theorem dX12_hourGoes_86 : decode cX12_hourGoes 86 = .ok (.ifCond .ne 8, 3) := by decide +kernel
theorem dX12_hourGoes_89 : decode cX12_hourGoes 89 = .ok (.aload_n 0, 1) := by decide +kernel
theorem dX12_hourGoes_90 : decode cX12_hourGoes 90 = .ok (.iload_n 2, 1) := by decide +kernel
theorem dX12_hourGoes_91 : decode cX12_hourGoes 91 = .ok (.invokevirtual 185, 3) := by decide +kernel
theorem dX12_hourGoes_94 : decode cX12_hourGoes 94 = .ok (.iconst 0, 1) := by decide +kernel
theorem dX12_hourGoes_95 : decode cX12_hourGoes 95 = .ok (.istore_n 3, 1) := by decide +kernel
theorem dX12_hourGoes_96 : decode cX12_hourGoes 96 = .ok (.iload_n 3, 1) := by decide +kernel
theorem dX12_hourGoes_97 : decode cX12_hourGoes 97 = .ok (.aload_n 0, 1) := by decide +kernel
theorem dX12_hourGoes_98 : decode cX12_hourGoes 98 = .ok (.getfield 7, 3) := by decide +kernel
theorem dX12_hourGoes_101 : decode cX12_hourGoes 101 = .ok (.iconst 0, 1) := by decide +kernel
theorem dX12_hourGoes_102 : decode cX12_hourGoes 102 = .ok (.iaload, 1) := by decide +kernel
theorem dX12_hourGoes_103 : decode cX12_hourGoes 103 = .ok (.if_icmp .ge 51, 3) := by decide +kernel
theorem dX12_hourGoes_106 : decode cX12_hourGoes 106 = .ok (.iconst 0, 1) := by decide +kernel
theorem dX12_hourGoes_107 : decode cX12_hourGoes 107 = .ok (.istore 4, 2) := by decide +kernel
theorem dX12_hourGoes_109 : decode cX12_hourGoes 109 = .ok (.iload 4, 2) := by decide +kernel
theorem dX12_hourGoes_111 : decode cX12_hourGoes 111 = .ok (.bipush 12, 2) := by decide +kernel
theorem dX12_hourGoes_113 : decode cX12_hourGoes 113 = .ok (.if_icmp .ge 35, 3) := by decide +kernel
theorem dX12_hourGoes_116 : decode cX12_hourGoes 116 = .ok (.aload_n 0, 1) := by decide +kernel
theorem dX12_hourGoes_117 : decode cX12_hourGoes 117 = .ok (.iload_n 3, 1) := by decide +kernel
theorem dX12_hourGoes_118 : decode cX12_hourGoes 118 = .ok (.iconst 3, 1) := by decide +kernel
theorem dX12_hourGoes_119 : decode cX12_hourGoes 119 = .ok (.iload 4, 2) := by decide +kernel
theorem dX12_hourGoes_121 : decode cX12_hourGoes 121 = .ok (.iadd, 1) := by decide +kernel
theorem dX12_hourGoes_122 : decode cX12_hourGoes 122 = .ok (.aload_n 0, 1) := by decide +kernel
theorem dX12_hourGoes_123 : decode cX12_hourGoes 123 = .ok (.iload_n 3, 1) := by decide +kernel
theorem dX12_hourGoes_124 : decode cX12_hourGoes 124 = .ok (.iconst 3, 1) := by decide +kernel
theorem dX12_hourGoes_125 : decode cX12_hourGoes 125 = .ok (.iload 4, 2) := by decide +kernel
theorem dX12_hourGoes_127 : decode cX12_hourGoes 127 = .ok (.iadd, 1) := by decide +kernel
theorem dX12_hourGoes_128 : decode cX12_hourGoes 128 = .ok (.invokevirtual 151, 3) := by decide +kernel
theorem dX12_hourGoes_131 : decode cX12_hourGoes 131 = .ok (.iconst 1, 1) := by decide +kernel
theorem dX12_hourGoes_132 : decode cX12_hourGoes 132 = .ok (.isub, 1) := by decide +kernel
theorem dX12_hourGoes_133 : decode cX12_hourGoes 133 = .ok (.iconst 0, 1) := by decide +kernel
theorem dX12_hourGoes_134 : decode cX12_hourGoes 134 = .ok (.bipush 9, 2) := by decide +kernel
theorem dX12_hourGoes_136 : decode cX12_hourGoes 136 = .ok (.invokestatic 144, 3) := by decide +kernel
theorem dX12_hourGoes_139 : decode cX12_hourGoes 139 = .ok (.invokevirtual 166, 3) := by decide +kernel
theorem dX12_hourGoes_142 : decode cX12_hourGoes 142 = .ok (.iinc 4 1, 3) := by decide +kernel
theorem dX12_hourGoes_145 : decode cX12_hourGoes 145 = .ok (.goto (-36), 3) := by decide +kernel
theorem dX12_hourGoes_148 : decode cX12_hourGoes 148 = .ok (.iinc 3 1, 3) := by decide +kernel
theorem dX12_hourGoes_151 : decode cX12_hourGoes 151 = .ok (.goto (-55), 3) := by decide +kernel
theorem dX12_hourGoes_154 : decode cX12_hourGoes 154 = .ok (.aload_n 0, 1) := by decide +kernel
theorem dX12_hourGoes_155 : decode cX12_hourGoes 155 = .ok (.getfield 7, 3) := by decide +kernel
theorem dX12_hourGoes_158 : decode cX12_hourGoes 158 = .ok (.iconst 1, 1) := by decide +kernel
theorem dX12_hourGoes_159 : decode cX12_hourGoes 159 = .ok (.dup2, 1) := by decide +kernel
theorem dX12_hourGoes_160 : decode cX12_hourGoes 160 = .ok (.iaload, 1) := by decide +kernel
theorem dX12_hourGoes_161 : decode cX12_hourGoes 161 = .ok (.iconst 1, 1) := by decide +kernel
theorem dX12_hourGoes_162 : decode cX12_hourGoes 162 = .ok (.iadd, 1) := by decide +kernel
theorem dX12_hourGoes_163 : decode cX12_hourGoes 163 = .ok (.iastore, 1) := by decide +kernel
theorem dX12_hourGoes_164 : decode cX12_hourGoes 164 = .ok (.return_, 1) := by decide +kernel
set_option maxRecDepth 20000 in
theorem ggX12_hoursGo_X12_hourGoes : GoodIn wsX12_hoursGo wsX12_hourGoes := goodIn_r _ [5, 6, 7, 8, 9, 4, 10, 11, 12, 13, 14, 15, 16, 17, 18, 19, 20, 21, 22, 23, 24, 25, 26, 27, 28, 29, 30, 31, 32, 33, 34, 35, 36, 37, 38, 39, 40, 41, 42, 43, 44, 45, 46, 47, 48, 49, 50, 51, 52, 53, 54, 55, 56, 57, 58, 59, 60, 61, 62, 63, 64, 65, 66, 67, 68, 69, 70, 71, 72, 73, 74, 75, 76, 77, 78, 79, 80, 81, 82, 83, 84, 85, 86, 87, 88, 89, 90, 91, 92, 93, 94, 95] rfl (by decide +kernel)
set_option maxRecDepth 20000 in
theorem gX12_hoursGo_X12_hourGoes : GoodIn wsX12_hoursGo (wsV RX12 188 RX12 yX12_hourGoes wsX12_hourGoes) := goodIn_app (goodIn_r _ [1, 2, 3, 4] rfl (by decide +kernel)) ggX12_hoursGo_X12_hourGoes
theorem dX12_hoursGo_0 : decode cX12_hoursGo 0 = .ok (.iconst 0, 1) := by decide +kernel
theorem dX12_hoursGo_1 : decode cX12_hoursGo 1 = .ok (.istore_n 2, 1) := by decide +kernel
theorem dX12_hoursGo_2 : decode cX12_hoursGo 2 = .ok (.iload_n 2, 1) := by decide +kernel
theorem dX12_hoursGo_3 : decode cX12_hoursGo 3 = .ok (.iload_n 1, 1) := by decide +kernel
theorem dX12_hoursGo_4 : decode cX12_hoursGo 4 = .ok (.if_icmp .ge 13, 3) := by decide +kernel
theorem dX12_hoursGo_7 : decode cX12_hoursGo 7 = .ok (.aload_n 0, 1) := by decide +kernel
theorem dX12_hoursGo_8 : decode cX12_hoursGo 8 = .ok (.invokevirtual 188, 3) := by decide +kernel
theorem dX12_hoursGo_11 : decode cX12_hoursGo 11 = .ok (.iinc 2 1, 3) := by decide +kernel
theorem dX12_hoursGo_14 : decode cX12_hoursGo 14 = .ok (.goto (-12), 3) := by decide +kernel
theorem dX12_hoursGo_17 : decode cX12_hoursGo 17 = .ok (.return_, 1) := by decide +kernel
set_option maxRecDepth 20000 in
theorem ggX12_word_X12_isWord : GoodIn wsX12_word wsX12_isWord := goodIn_r _ [5, 6, 7, 8, 4, 9] rfl (by decide +kernel)
set_option maxRecDepth 20000 in
theorem gX12_word_X12_isWord : GoodIn wsX12_word (va_wsS RX12 191 yX12_isWord wsX12_isWord) := goodIn_app (goodIn_r _ [2, 3, 4] rfl (by decide +kernel)) ggX12_word_X12_isWord
set_option maxRecDepth 20000 in
theorem ggX12_word_X12_in : GoodIn wsX12_word wsX12_in := goodIn_r _ [9] rfl (by decide +kernel)
set_option maxRecDepth 20000 in
theorem gX12_word_X12_in : GoodIn wsX12_word (va_wsS RX12 50 yX12_in wsX12_in) := goodIn_app (goodIn_r _ [7, 8, 4] rfl (by decide +kernel)) ggX12_word_X12_in
set_option maxRecDepth 20000 in
theorem ggX12_word_X12_becomes : GoodIn wsX12_word wsX12_becomes := goodIn_r _ [13, 14, 21, 22, 23, 24, 25, 26, 27, 28, 29, 30, 31, 32, 33, 34, 35, 36, 37, 38, 39, 40, 41, 42, 43] rfl (by decide +kernel)
set_option maxRecDepth 20000 in
theorem gX12_word_X12_becomes : GoodIn wsX12_word (wsV RX12 196 RX12 yX12_becomes wsX12_becomes) := goodIn_app (goodIn_r _ [10, 11, 12, 4] rfl (by decide +kernel)) ggX12_word_X12_becomes
set_option maxRecDepth 20000 in
theorem ggX12_word_X12_finds : GoodIn wsX12_word wsX12_finds := goodIn_r _ [18, 19, 20, 21, 22, 23, 24, 25, 26, 27, 28, 29, 30, 31, 32, 33, 34, 35, 36, 37, 38, 39, 40, 41, 42, 43] rfl (by decide +kernel)
set_option maxRecDepth 20000 in
theorem gX12_word_X12_finds : GoodIn wsX12_word (wsV RX12 131 RX12 yX12_finds wsX12_finds) := goodIn_app (goodIn_r _ [15, 16, 17, 4] rfl (by decide +kernel)) ggX12_word_X12_finds
theorem dX12_word_0 : decode cX12_word 0 = .ok (.iload_n 1, 1) := by decide +kernel
theorem dX12_word_1 : decode cX12_word 1 = .ok (.invokestatic 191, 3) := by decide +kernel
theorem dX12_word_4 : decode cX12_word 4 = .ok (.ifCond .eq 27, 3) := by decide +kernel
theorem dX12_word_7 : decode cX12_word 7 = .ok (.iload_n 2, 1) := by decide +kernel
theorem dX12_word_8 : decode cX12_word 8 = .ok (.i2l, 1) := by decide +kernel
theorem dX12_word_9 : decode cX12_word 9 = .ok (.lconst 0, 1) := by decide +kernel
theorem dX12_word_10 : decode cX12_word 10 = .ok (.ldc2_w 194, 3) := by decide +kernel
theorem dX12_word_13 : decode cX12_word 13 = .ok (.invokestatic 50, 3) := by decide +kernel
theorem dX12_word_16 : decode cX12_word 16 = .ok (.ifCond .eq 15, 3) := by decide +kernel
theorem dX12_word_19 : decode cX12_word 19 = .ok (.aload_n 0, 1) := by decide +kernel
theorem dX12_word_20 : decode cX12_word 20 = .ok (.bipush 6, 2) := by decide +kernel
theorem dX12_word_22 : decode cX12_word 22 = .ok (.iload_n 1, 1) := by decide +kernel
theorem dX12_word_23 : decode cX12_word 23 = .ok (.iadd, 1) := by decide +kernel
theorem dX12_word_24 : decode cX12_word 24 = .ok (.iload_n 2, 1) := by decide +kernel
theorem dX12_word_25 : decode cX12_word 25 = .ok (.invokevirtual 196, 3) := by decide +kernel
theorem dX12_word_28 : decode cX12_word 28 = .ok (.goto 8, 3) := by decide +kernel
theorem dX12_word_31 : decode cX12_word 31 = .ok (.aload_n 0, 1) := by decide +kernel
theorem dX12_word_32 : decode cX12_word 32 = .ok (.iconst 1, 1) := by decide +kernel
theorem dX12_word_33 : decode cX12_word 33 = .ok (.invokevirtual 131, 3) := by decide +kernel
theorem dX12_word_36 : decode cX12_word 36 = .ok (.ireturn, 1) := by decide +kernel
set_option maxRecDepth 20000 in
theorem ggX12_spoonsWith_X12_of : GoodIn wsX12_spoonsWith wsX12_of := goodIn_r _ [6, 1, 7, 8, 9, 10, 11, 12, 13, 14, 15, 16, 17, 18, 19, 20, 21, 22, 23, 24, 25, 26, 27, 28, 29] rfl (by decide +kernel)
set_option maxRecDepth 20000 in
theorem gX12_spoonsWith_X12_of : GoodIn wsX12_spoonsWith (wsV RX12 151 RX12 yX12_of wsX12_of) := goodIn_app (goodIn_r _ [2, 3, 4, 5] rfl (by decide +kernel)) ggX12_spoonsWith_X12_of
theorem dX12_spoonsWith_0 : decode cX12_spoonsWith 0 = .ok (.iconst 0, 1) := by decide +kernel
theorem dX12_spoonsWith_1 : decode cX12_spoonsWith 1 = .ok (.istore_n 2, 1) := by decide +kernel
theorem dX12_spoonsWith_2 : decode cX12_spoonsWith 2 = .ok (.iconst 0, 1) := by decide +kernel
theorem dX12_spoonsWith_3 : decode cX12_spoonsWith 3 = .ok (.istore_n 3, 1) := by decide +kernel
theorem dX12_spoonsWith_4 : decode cX12_spoonsWith 4 = .ok (.iload_n 3, 1) := by decide +kernel
theorem dX12_spoonsWith_5 : decode cX12_spoonsWith 5 = .ok (.aload_n 0, 1) := by decide +kernel
theorem dX12_spoonsWith_6 : decode cX12_spoonsWith 6 = .ok (.getfield 7, 3) := by decide +kernel
theorem dX12_spoonsWith_9 : decode cX12_spoonsWith 9 = .ok (.iconst 0, 1) := by decide +kernel
theorem dX12_spoonsWith_10 : decode cX12_spoonsWith 10 = .ok (.iaload, 1) := by decide +kernel
theorem dX12_spoonsWith_11 : decode cX12_spoonsWith 11 = .ok (.if_icmp .ge 30, 3) := by decide +kernel
theorem dX12_spoonsWith_14 : decode cX12_spoonsWith 14 = .ok (.iload_n 2, 1) := by decide +kernel
theorem dX12_spoonsWith_15 : decode cX12_spoonsWith 15 = .ok (.aload_n 0, 1) := by decide +kernel
theorem dX12_spoonsWith_16 : decode cX12_spoonsWith 16 = .ok (.iload_n 3, 1) := by decide +kernel
theorem dX12_spoonsWith_17 : decode cX12_spoonsWith 17 = .ok (.iconst 3, 1) := by decide +kernel
theorem dX12_spoonsWith_18 : decode cX12_spoonsWith 18 = .ok (.iload_n 1, 1) := by decide +kernel
theorem dX12_spoonsWith_19 : decode cX12_spoonsWith 19 = .ok (.iadd, 1) := by decide +kernel
theorem dX12_spoonsWith_20 : decode cX12_spoonsWith 20 = .ok (.invokevirtual 151, 3) := by decide +kernel
theorem dX12_spoonsWith_23 : decode cX12_spoonsWith 23 = .ok (.ifCond .le 9, 3) := by decide +kernel
theorem dX12_spoonsWith_26 : decode cX12_spoonsWith 26 = .ok (.iconst 1, 1) := by decide +kernel
theorem dX12_spoonsWith_27 : decode cX12_spoonsWith 27 = .ok (.iload_n 3, 1) := by decide +kernel
theorem dX12_spoonsWith_28 : decode cX12_spoonsWith 28 = .ok (.ishl, 1) := by decide +kernel
theorem dX12_spoonsWith_29 : decode cX12_spoonsWith 29 = .ok (.goto 4, 3) := by decide +kernel
theorem dX12_spoonsWith_32 : decode cX12_spoonsWith 32 = .ok (.iconst 0, 1) := by decide +kernel
theorem dX12_spoonsWith_33 : decode cX12_spoonsWith 33 = .ok (.ior, 1) := by decide +kernel
theorem dX12_spoonsWith_34 : decode cX12_spoonsWith 34 = .ok (.istore_n 2, 1) := by decide +kernel
theorem dX12_spoonsWith_35 : decode cX12_spoonsWith 35 = .ok (.iinc 3 1, 3) := by decide +kernel
theorem dX12_spoonsWith_38 : decode cX12_spoonsWith 38 = .ok (.goto (-34), 3) := by decide +kernel
theorem dX12_spoonsWith_41 : decode cX12_spoonsWith 41 = .ok (.iload_n 2, 1) := by decide +kernel
theorem dX12_spoonsWith_42 : decode cX12_spoonsWith 42 = .ok (.ireturn, 1) := by decide +kernel
set_option maxRecDepth 20000 in
theorem ggX12_ofWord_X12_isWord : GoodIn wsX12_ofWord wsX12_isWord := goodIn_r _ [6, 7, 8, 9, 5, 10] rfl (by decide +kernel)
set_option maxRecDepth 20000 in
theorem gX12_ofWord_X12_isWord : GoodIn wsX12_ofWord (va_wsS RX12 191 yX12_isWord wsX12_isWord) := goodIn_app (goodIn_r _ [3, 4, 5] rfl (by decide +kernel)) ggX12_ofWord_X12_isWord
set_option maxRecDepth 20000 in
theorem ggX12_ofWord_X12_in : GoodIn wsX12_ofWord wsX12_in := goodIn_r _ [10] rfl (by decide +kernel)
set_option maxRecDepth 20000 in
theorem gX12_ofWord_X12_in : GoodIn wsX12_ofWord (va_wsS RX12 50 yX12_in wsX12_in) := goodIn_app (goodIn_r _ [8, 9, 5] rfl (by decide +kernel)) ggX12_ofWord_X12_in
set_option maxRecDepth 20000 in
theorem ggX12_ofWord_X12_finds : GoodIn wsX12_ofWord wsX12_finds := goodIn_r _ [14, 15, 16, 25, 26, 27, 28, 29, 30, 31, 32, 33, 34, 35, 36, 37, 38, 39, 40, 41, 42, 43, 44, 45, 46, 47] rfl (by decide +kernel)
set_option maxRecDepth 20000 in
theorem gX12_ofWord_X12_finds : GoodIn wsX12_ofWord (wsV RX12 131 RX12 yX12_finds wsX12_finds) := goodIn_app (goodIn_r _ [11, 12, 13, 5] rfl (by decide +kernel)) ggX12_ofWord_X12_finds
set_option maxRecDepth 20000 in
theorem ggX12_ofWord_X12_spoonsWith : GoodIn wsX12_ofWord wsX12_spoonsWith := goodIn_r _ [20, 2, 21, 22, 23, 5, 24, 25, 26, 27, 28, 29, 30, 31, 32, 33, 34, 35, 36, 37, 38, 39, 40, 41, 42, 43, 44, 45, 46, 47] rfl (by decide +kernel)
set_option maxRecDepth 20000 in
theorem gX12_ofWord_X12_spoonsWith : GoodIn wsX12_ofWord (wsV RX12 201 RX12 yX12_spoonsWith wsX12_spoonsWith) := goodIn_app (goodIn_r _ [17, 18, 19, 5] rfl (by decide +kernel)) ggX12_ofWord_X12_spoonsWith
theorem dX12_ofWord_0 : decode cX12_ofWord 0 = .ok (.iload_n 1, 1) := by decide +kernel
theorem dX12_ofWord_1 : decode cX12_ofWord 1 = .ok (.invokestatic 191, 3) := by decide +kernel
theorem dX12_ofWord_4 : decode cX12_ofWord 4 = .ok (.ifCond .eq 15, 3) := by decide +kernel
theorem dX12_ofWord_7 : decode cX12_ofWord 7 = .ok (.iload_n 2, 1) := by decide +kernel
theorem dX12_ofWord_8 : decode cX12_ofWord 8 = .ok (.i2l, 1) := by decide +kernel
theorem dX12_ofWord_9 : decode cX12_ofWord 9 = .ok (.lconst 0, 1) := by decide +kernel
theorem dX12_ofWord_10 : decode cX12_ofWord 10 = .ok (.ldc2_w 199, 3) := by decide +kernel
theorem dX12_ofWord_13 : decode cX12_ofWord 13 = .ok (.invokestatic 50, 3) := by decide +kernel
theorem dX12_ofWord_16 : decode cX12_ofWord 16 = .ok (.ifCond .ne 9, 3) := by decide +kernel
theorem dX12_ofWord_19 : decode cX12_ofWord 19 = .ok (.aload_n 0, 1) := by decide +kernel
theorem dX12_ofWord_20 : decode cX12_ofWord 20 = .ok (.iconst 1, 1) := by decide +kernel
theorem dX12_ofWord_21 : decode cX12_ofWord 21 = .ok (.invokevirtual 131, 3) := by decide +kernel
theorem dX12_ofWord_24 : decode cX12_ofWord 24 = .ok (.ireturn, 1) := by decide +kernel
theorem dX12_ofWord_25 : decode cX12_ofWord 25 = .ok (.iload_n 2, 1) := by decide +kernel
theorem dX12_ofWord_26 : decode cX12_ofWord 26 = .ok (.ifCond .ne 15, 3) := by decide +kernel
theorem dX12_ofWord_29 : decode cX12_ofWord 29 = .ok (.aload_n 0, 1) := by decide +kernel
theorem dX12_ofWord_30 : decode cX12_ofWord 30 = .ok (.getfield 7, 3) := by decide +kernel
theorem dX12_ofWord_33 : decode cX12_ofWord 33 = .ok (.bipush 6, 2) := by decide +kernel
theorem dX12_ofWord_35 : decode cX12_ofWord 35 = .ok (.iload_n 1, 1) := by decide +kernel
theorem dX12_ofWord_36 : decode cX12_ofWord 36 = .ok (.iadd, 1) := by decide +kernel
theorem dX12_ofWord_37 : decode cX12_ofWord 37 = .ok (.iaload, 1) := by decide +kernel
theorem dX12_ofWord_38 : decode cX12_ofWord 38 = .ok (.goto 26, 3) := by decide +kernel
theorem dX12_ofWord_41 : decode cX12_ofWord 41 = .ok (.iload_n 2, 1) := by decide +kernel
theorem dX12_ofWord_42 : decode cX12_ofWord 42 = .ok (.iconst 1, 1) := by decide +kernel
theorem dX12_ofWord_43 : decode cX12_ofWord 43 = .ok (.if_icmp .ne 16, 3) := by decide +kernel
theorem dX12_ofWord_46 : decode cX12_ofWord 46 = .ok (.aload_n 0, 1) := by decide +kernel
theorem dX12_ofWord_47 : decode cX12_ofWord 47 = .ok (.getfield 7, 3) := by decide +kernel
theorem dX12_ofWord_50 : decode cX12_ofWord 50 = .ok (.iconst 2, 1) := by decide +kernel
theorem dX12_ofWord_51 : decode cX12_ofWord 51 = .ok (.iaload, 1) := by decide +kernel
theorem dX12_ofWord_52 : decode cX12_ofWord 52 = .ok (.iload_n 1, 1) := by decide +kernel
theorem dX12_ofWord_53 : decode cX12_ofWord 53 = .ok (.ishr, 1) := by decide +kernel
theorem dX12_ofWord_54 : decode cX12_ofWord 54 = .ok (.iconst 1, 1) := by decide +kernel
theorem dX12_ofWord_55 : decode cX12_ofWord 55 = .ok (.iand, 1) := by decide +kernel
theorem dX12_ofWord_56 : decode cX12_ofWord 56 = .ok (.goto 8, 3) := by decide +kernel
theorem dX12_ofWord_59 : decode cX12_ofWord 59 = .ok (.aload_n 0, 1) := by decide +kernel
theorem dX12_ofWord_60 : decode cX12_ofWord 60 = .ok (.iload_n 1, 1) := by decide +kernel
theorem dX12_ofWord_61 : decode cX12_ofWord 61 = .ok (.invokevirtual 201, 3) := by decide +kernel
theorem dX12_ofWord_64 : decode cX12_ofWord 64 = .ok (.ireturn, 1) := by decide +kernel
set_option maxRecDepth 20000 in
theorem ggX12_known_X12_areWords : GoodIn wsX12_known wsX12_areWords := goodIn_r _ [4, 5, 6, 7, 3, 8] rfl (by decide +kernel)
set_option maxRecDepth 20000 in
theorem gX12_known_X12_areWords : GoodIn wsX12_known (va_wsS RX12 204 yX12_areWords wsX12_areWords) := goodIn_app (goodIn_r _ [1, 2, 3] rfl (by decide +kernel)) ggX12_known_X12_areWords
set_option maxRecDepth 20000 in
theorem ggX12_known_X12_becomes : GoodIn wsX12_known wsX12_becomes := goodIn_r _ [12, 13, 20, 21, 22, 23, 24, 25, 26, 27, 28, 29, 30, 31, 32, 33, 34, 35, 36, 37, 38, 39, 40, 41, 42] rfl (by decide +kernel)
set_option maxRecDepth 20000 in
theorem gX12_known_X12_becomes : GoodIn wsX12_known (wsV RX12 196 RX12 yX12_becomes wsX12_becomes) := goodIn_app (goodIn_r _ [9, 10, 11, 3] rfl (by decide +kernel)) ggX12_known_X12_becomes
set_option maxRecDepth 20000 in
theorem ggX12_known_X12_finds : GoodIn wsX12_known wsX12_finds := goodIn_r _ [17, 18, 19, 20, 21, 22, 23, 24, 25, 26, 27, 28, 29, 30, 31, 32, 33, 34, 35, 36, 37, 38, 39, 40, 41, 42] rfl (by decide +kernel)
set_option maxRecDepth 20000 in
theorem gX12_known_X12_finds : GoodIn wsX12_known (wsV RX12 131 RX12 yX12_finds wsX12_finds) := goodIn_app (goodIn_r _ [14, 15, 16, 3] rfl (by decide +kernel)) ggX12_known_X12_finds
theorem dX12_known_0 : decode cX12_known 0 = .ok (.iload_n 1, 1) := by decide +kernel
theorem dX12_known_1 : decode cX12_known 1 = .ok (.invokestatic 204, 3) := by decide +kernel
theorem dX12_known_4 : decode cX12_known 4 = .ok (.ifCond .eq 12, 3) := by decide +kernel
theorem dX12_known_7 : decode cX12_known 7 = .ok (.aload_n 0, 1) := by decide +kernel
theorem dX12_known_8 : decode cX12_known 8 = .ok (.iconst 2, 1) := by decide +kernel
theorem dX12_known_9 : decode cX12_known 9 = .ok (.iload_n 1, 1) := by decide +kernel
theorem dX12_known_10 : decode cX12_known 10 = .ok (.invokevirtual 196, 3) := by decide +kernel
theorem dX12_known_13 : decode cX12_known 13 = .ok (.goto 8, 3) := by decide +kernel
theorem dX12_known_16 : decode cX12_known 16 = .ok (.aload_n 0, 1) := by decide +kernel
theorem dX12_known_17 : decode cX12_known 17 = .ok (.iconst 1, 1) := by decide +kernel
theorem dX12_known_18 : decode cX12_known 18 = .ok (.invokevirtual 131, 3) := by decide +kernel
theorem dX12_known_21 : decode cX12_known 21 = .ok (.ireturn, 1) := by decide +kernel
theorem dX12_swallowOf_0 : decode cX12_swallowOf 0 = .ok (.bipush 12, 2) := by decide +kernel
theorem dX12_swallowOf_2 : decode cX12_swallowOf 2 = .ok (.aload_n 0, 1) := by decide +kernel
theorem dX12_swallowOf_3 : decode cX12_swallowOf 3 = .ok (.getfield 7, 3) := by decide +kernel
theorem dX12_swallowOf_6 : decode cX12_swallowOf 6 = .ok (.bipush 18, 2) := by decide +kernel
theorem dX12_swallowOf_8 : decode cX12_swallowOf 8 = .ok (.iload_n 1, 1) := by decide +kernel
theorem dX12_swallowOf_9 : decode cX12_swallowOf 9 = .ok (.iadd, 1) := by decide +kernel
theorem dX12_swallowOf_10 : decode cX12_swallowOf 10 = .ok (.iaload, 1) := by decide +kernel
theorem dX12_swallowOf_11 : decode cX12_swallowOf 11 = .ok (.iconst 1, 1) := by decide +kernel
theorem dX12_swallowOf_12 : decode cX12_swallowOf 12 = .ok (.iadd, 1) := by decide +kernel
theorem dX12_swallowOf_13 : decode cX12_swallowOf 13 = .ok (.imul, 1) := by decide +kernel
theorem dX12_swallowOf_14 : decode cX12_swallowOf 14 = .ok (.aload_n 0, 1) := by decide +kernel
theorem dX12_swallowOf_15 : decode cX12_swallowOf 15 = .ok (.getfield 7, 3) := by decide +kernel
theorem dX12_swallowOf_18 : decode cX12_swallowOf 18 = .ok (.bipush 24, 2) := by decide +kernel
theorem dX12_swallowOf_20 : decode cX12_swallowOf 20 = .ok (.iload_n 1, 1) := by decide +kernel
theorem dX12_swallowOf_21 : decode cX12_swallowOf 21 = .ok (.iadd, 1) := by decide +kernel
theorem dX12_swallowOf_22 : decode cX12_swallowOf 22 = .ok (.iaload, 1) := by decide +kernel
theorem dX12_swallowOf_23 : decode cX12_swallowOf 23 = .ok (.iadd, 1) := by decide +kernel
theorem dX12_swallowOf_24 : decode cX12_swallowOf 24 = .ok (.ireturn, 1) := by decide +kernel
set_option maxRecDepth 20000 in
theorem ggX12_swallow_X12_in : GoodIn wsX12_swallow wsX12_in := goodIn_r _ [8] rfl (by decide +kernel)
set_option maxRecDepth 20000 in
theorem gX12_swallow_X12_in : GoodIn wsX12_swallow (va_wsS RX12 50 yX12_in wsX12_in) := goodIn_app (goodIn_r _ [5, 6, 7] rfl (by decide +kernel)) ggX12_swallow_X12_in
set_option maxRecDepth 20000 in
theorem ggX12_swallow_X12_isWord : GoodIn wsX12_swallow wsX12_isWord := goodIn_r _ [11, 12, 5, 6, 7, 8] rfl (by decide +kernel)
set_option maxRecDepth 20000 in
theorem gX12_swallow_X12_isWord : GoodIn wsX12_swallow (va_wsS RX12 191 yX12_isWord wsX12_isWord) := goodIn_app (goodIn_r _ [9, 10, 7] rfl (by decide +kernel)) ggX12_swallow_X12_isWord
set_option maxRecDepth 20000 in
theorem ggX12_swallow_X12_finds : GoodIn wsX12_swallow wsX12_finds := goodIn_r _ [16, 17, 18, 23, 24, 25, 26, 27, 28, 29, 30, 31, 32, 33, 34, 35, 36, 37, 38, 39, 40, 41, 42, 43, 44, 45] rfl (by decide +kernel)
set_option maxRecDepth 20000 in
theorem gX12_swallow_X12_finds : GoodIn wsX12_swallow (wsV RX12 131 RX12 yX12_finds wsX12_finds) := goodIn_app (goodIn_r _ [13, 14, 15, 7] rfl (by decide +kernel)) ggX12_swallow_X12_finds
set_option maxRecDepth 20000 in
theorem ggX12_swallow_X12_swallowOf : GoodIn wsX12_swallow wsX12_swallowOf := goodIn_r _ [22, 4, 23, 24, 25, 26, 27, 28, 29, 30, 31, 32, 33, 34, 35, 36, 37, 38, 39, 40, 41, 42, 43, 44, 45] rfl (by decide +kernel)
set_option maxRecDepth 20000 in
theorem gX12_swallow_X12_swallowOf : GoodIn wsX12_swallow (wsV RX12 213 RX12 yX12_swallowOf wsX12_swallowOf) := goodIn_app (goodIn_r _ [19, 20, 21, 7] rfl (by decide +kernel)) ggX12_swallow_X12_swallowOf
theorem dX12_swallow_0 : decode cX12_swallow 0 = .ok (.iload_n 1, 1) := by decide +kernel
theorem dX12_swallow_1 : decode cX12_swallow 1 = .ok (.i2l, 1) := by decide +kernel
theorem dX12_swallow_2 : decode cX12_swallow 2 = .ok (.lconst 0, 1) := by decide +kernel
theorem dX12_swallow_3 : decode cX12_swallow 3 = .ok (.ldc2_w 207, 3) := by decide +kernel
theorem dX12_swallow_6 : decode cX12_swallow 6 = .ok (.invokestatic 50, 3) := by decide +kernel
theorem dX12_swallow_9 : decode cX12_swallow 9 = .ok (.ifCond .eq 24, 3) := by decide +kernel
theorem dX12_swallow_12 : decode cX12_swallow 12 = .ok (.iload_n 2, 1) := by decide +kernel
theorem dX12_swallow_13 : decode cX12_swallow 13 = .ok (.i2l, 1) := by decide +kernel
theorem dX12_swallow_14 : decode cX12_swallow 14 = .ok (.ldc2_w 209, 3) := by decide +kernel
theorem dX12_swallow_17 : decode cX12_swallow 17 = .ok (.ldc2_w 211, 3) := by decide +kernel
theorem dX12_swallow_20 : decode cX12_swallow 20 = .ok (.invokestatic 50, 3) := by decide +kernel
theorem dX12_swallow_23 : decode cX12_swallow 23 = .ok (.ifCond .eq 10, 3) := by decide +kernel
theorem dX12_swallow_26 : decode cX12_swallow 26 = .ok (.iload_n 3, 1) := by decide +kernel
theorem dX12_swallow_27 : decode cX12_swallow 27 = .ok (.invokestatic 191, 3) := by decide +kernel
theorem dX12_swallow_30 : decode cX12_swallow 30 = .ok (.ifCond .ne 9, 3) := by decide +kernel
theorem dX12_swallow_33 : decode cX12_swallow 33 = .ok (.aload_n 0, 1) := by decide +kernel
theorem dX12_swallow_34 : decode cX12_swallow 34 = .ok (.iconst 1, 1) := by decide +kernel
theorem dX12_swallow_35 : decode cX12_swallow 35 = .ok (.invokevirtual 131, 3) := by decide +kernel
theorem dX12_swallow_38 : decode cX12_swallow 38 = .ok (.ireturn, 1) := by decide +kernel
theorem dX12_swallow_39 : decode cX12_swallow 39 = .ok (.aload_n 0, 1) := by decide +kernel
theorem dX12_swallow_40 : decode cX12_swallow 40 = .ok (.iload_n 1, 1) := by decide +kernel
theorem dX12_swallow_41 : decode cX12_swallow 41 = .ok (.invokevirtual 213, 3) := by decide +kernel
theorem dX12_swallow_44 : decode cX12_swallow 44 = .ok (.istore 4, 2) := by decide +kernel
theorem dX12_swallow_46 : decode cX12_swallow 46 = .ok (.aload_n 0, 1) := by decide +kernel
theorem dX12_swallow_47 : decode cX12_swallow 47 = .ok (.getfield 7, 3) := by decide +kernel
theorem dX12_swallow_50 : decode cX12_swallow 50 = .ok (.bipush 18, 2) := by decide +kernel
theorem dX12_swallow_52 : decode cX12_swallow 52 = .ok (.iload_n 1, 1) := by decide +kernel
theorem dX12_swallow_53 : decode cX12_swallow 53 = .ok (.iadd, 1) := by decide +kernel
theorem dX12_swallow_54 : decode cX12_swallow 54 = .ok (.iload_n 2, 1) := by decide +kernel
theorem dX12_swallow_55 : decode cX12_swallow 55 = .ok (.iastore, 1) := by decide +kernel
theorem dX12_swallow_56 : decode cX12_swallow 56 = .ok (.aload_n 0, 1) := by decide +kernel
theorem dX12_swallow_57 : decode cX12_swallow 57 = .ok (.getfield 7, 3) := by decide +kernel
theorem dX12_swallow_60 : decode cX12_swallow 60 = .ok (.bipush 24, 2) := by decide +kernel
theorem dX12_swallow_62 : decode cX12_swallow 62 = .ok (.iload_n 1, 1) := by decide +kernel
theorem dX12_swallow_63 : decode cX12_swallow 63 = .ok (.iadd, 1) := by decide +kernel
theorem dX12_swallow_64 : decode cX12_swallow 64 = .ok (.iload_n 3, 1) := by decide +kernel
theorem dX12_swallow_65 : decode cX12_swallow 65 = .ok (.iastore, 1) := by decide +kernel
theorem dX12_swallow_66 : decode cX12_swallow 66 = .ok (.iload 4, 2) := by decide +kernel
theorem dX12_swallow_68 : decode cX12_swallow 68 = .ok (.ireturn, 1) := by decide +kernel
set_option maxRecDepth 20000 in
theorem ggX12_ofSwallow_X12_in : GoodIn wsX12_ofSwallow wsX12_in := goodIn_r _ [5] rfl (by decide +kernel)
set_option maxRecDepth 20000 in
theorem gX12_ofSwallow_X12_in : GoodIn wsX12_ofSwallow (va_wsS RX12 50 yX12_in wsX12_in) := goodIn_app (goodIn_r _ [2, 3, 4] rfl (by decide +kernel)) ggX12_ofSwallow_X12_in
set_option maxRecDepth 20000 in
theorem ggX12_ofSwallow_X12_swallowOf : GoodIn wsX12_ofSwallow wsX12_swallowOf := goodIn_r _ [9, 10, 17, 18, 19, 20, 21, 22, 23, 24, 25, 26, 27, 28, 29, 30, 31, 32, 33, 34, 35, 36, 37, 38, 39] rfl (by decide +kernel)
set_option maxRecDepth 20000 in
theorem gX12_ofSwallow_X12_swallowOf : GoodIn wsX12_ofSwallow (wsV RX12 213 RX12 yX12_swallowOf wsX12_swallowOf) := goodIn_app (goodIn_r _ [6, 7, 8, 4] rfl (by decide +kernel)) ggX12_ofSwallow_X12_swallowOf
set_option maxRecDepth 20000 in
theorem ggX12_ofSwallow_X12_finds : GoodIn wsX12_ofSwallow wsX12_finds := goodIn_r _ [14, 15, 16, 17, 18, 19, 20, 21, 22, 23, 24, 25, 26, 27, 28, 29, 30, 31, 32, 33, 34, 35, 36, 37, 38, 39] rfl (by decide +kernel)
set_option maxRecDepth 20000 in
theorem gX12_ofSwallow_X12_finds : GoodIn wsX12_ofSwallow (wsV RX12 131 RX12 yX12_finds wsX12_finds) := goodIn_app (goodIn_r _ [11, 12, 13, 4] rfl (by decide +kernel)) ggX12_ofSwallow_X12_finds
theorem dX12_ofSwallow_0 : decode cX12_ofSwallow 0 = .ok (.iload_n 1, 1) := by decide +kernel
theorem dX12_ofSwallow_1 : decode cX12_ofSwallow 1 = .ok (.i2l, 1) := by decide +kernel
theorem dX12_ofSwallow_2 : decode cX12_ofSwallow 2 = .ok (.lconst 0, 1) := by decide +kernel
theorem dX12_ofSwallow_3 : decode cX12_ofSwallow 3 = .ok (.ldc2_w 207, 3) := by decide +kernel
theorem dX12_ofSwallow_6 : decode cX12_ofSwallow 6 = .ok (.invokestatic 50, 3) := by decide +kernel
theorem dX12_ofSwallow_9 : decode cX12_ofSwallow 9 = .ok (.ifCond .eq 11, 3) := by decide +kernel
theorem dX12_ofSwallow_12 : decode cX12_ofSwallow 12 = .ok (.aload_n 0, 1) := by decide +kernel
theorem dX12_ofSwallow_13 : decode cX12_ofSwallow 13 = .ok (.iload_n 1, 1) := by decide +kernel
theorem dX12_ofSwallow_14 : decode cX12_ofSwallow 14 = .ok (.invokevirtual 213, 3) := by decide +kernel
theorem dX12_ofSwallow_17 : decode cX12_ofSwallow 17 = .ok (.goto 8, 3) := by decide +kernel
theorem dX12_ofSwallow_20 : decode cX12_ofSwallow 20 = .ok (.aload_n 0, 1) := by decide +kernel
theorem dX12_ofSwallow_21 : decode cX12_ofSwallow 21 = .ok (.iconst 1, 1) := by decide +kernel
theorem dX12_ofSwallow_22 : decode cX12_ofSwallow 22 = .ok (.invokevirtual 131, 3) := by decide +kernel
theorem dX12_ofSwallow_25 : decode cX12_ofSwallow 25 = .ok (.ireturn, 1) := by decide +kernel
set_option maxRecDepth 20000 in
theorem ggX12_wash_X12_in : GoodIn wsX12_wash wsX12_in := goodIn_r _ [7] rfl (by decide +kernel)
set_option maxRecDepth 20000 in
theorem gX12_wash_X12_in : GoodIn wsX12_wash (va_wsS RX12 50 yX12_in wsX12_in) := goodIn_app (goodIn_r _ [4, 5, 6] rfl (by decide +kernel)) ggX12_wash_X12_in
set_option maxRecDepth 20000 in
theorem ggX12_wash_X12_becomes : GoodIn wsX12_wash wsX12_becomes := goodIn_r _ [11, 12, 19, 20, 21, 22, 23, 24, 25, 26, 27, 28, 29, 30, 31, 32, 33, 34, 35, 36, 37, 38, 39, 40, 41] rfl (by decide +kernel)
set_option maxRecDepth 20000 in
theorem gX12_wash_X12_becomes : GoodIn wsX12_wash (wsV RX12 196 RX12 yX12_becomes wsX12_becomes) := goodIn_app (goodIn_r _ [8, 9, 10, 6] rfl (by decide +kernel)) ggX12_wash_X12_becomes
set_option maxRecDepth 20000 in
theorem ggX12_wash_X12_finds : GoodIn wsX12_wash wsX12_finds := goodIn_r _ [16, 17, 18, 19, 20, 21, 22, 23, 24, 25, 26, 27, 28, 29, 30, 31, 32, 33, 34, 35, 36, 37, 38, 39, 40, 41] rfl (by decide +kernel)
set_option maxRecDepth 20000 in
theorem gX12_wash_X12_finds : GoodIn wsX12_wash (wsV RX12 131 RX12 yX12_finds wsX12_finds) := goodIn_app (goodIn_r _ [13, 14, 15, 6] rfl (by decide +kernel)) ggX12_wash_X12_finds
theorem dX12_wash_0 : decode cX12_wash 0 = .ok (.iload_n 1, 1) := by decide +kernel
theorem dX12_wash_1 : decode cX12_wash 1 = .ok (.i2l, 1) := by decide +kernel
theorem dX12_wash_2 : decode cX12_wash 2 = .ok (.lconst 0, 1) := by decide +kernel
theorem dX12_wash_3 : decode cX12_wash 3 = .ok (.ldc2_w 216, 3) := by decide +kernel
theorem dX12_wash_6 : decode cX12_wash 6 = .ok (.invokestatic 50, 3) := by decide +kernel
theorem dX12_wash_9 : decode cX12_wash 9 = .ok (.ifCond .eq 31, 3) := by decide +kernel
theorem dX12_wash_12 : decode cX12_wash 12 = .ok (.iload_n 2, 1) := by decide +kernel
theorem dX12_wash_13 : decode cX12_wash 13 = .ok (.i2l, 1) := by decide +kernel
theorem dX12_wash_14 : decode cX12_wash 14 = .ok (.ldc2_w 209, 3) := by decide +kernel
theorem dX12_wash_17 : decode cX12_wash 17 = .ok (.ldc2_w 211, 3) := by decide +kernel
theorem dX12_wash_20 : decode cX12_wash 20 = .ok (.invokestatic 50, 3) := by decide +kernel
theorem dX12_wash_23 : decode cX12_wash 23 = .ok (.ifCond .eq 17, 3) := by decide +kernel
theorem dX12_wash_26 : decode cX12_wash 26 = .ok (.iconst 1, 1) := by decide +kernel
theorem dX12_wash_27 : decode cX12_wash 27 = .ok (.aload_n 0, 1) := by decide +kernel
theorem dX12_wash_28 : decode cX12_wash 28 = .ok (.bipush 30, 2) := by decide +kernel
theorem dX12_wash_30 : decode cX12_wash 30 = .ok (.iload_n 1, 1) := by decide +kernel
theorem dX12_wash_31 : decode cX12_wash 31 = .ok (.iadd, 1) := by decide +kernel
theorem dX12_wash_32 : decode cX12_wash 32 = .ok (.iload_n 2, 1) := by decide +kernel
theorem dX12_wash_33 : decode cX12_wash 33 = .ok (.invokevirtual 196, 3) := by decide +kernel
theorem dX12_wash_36 : decode cX12_wash 36 = .ok (.iadd, 1) := by decide +kernel
theorem dX12_wash_37 : decode cX12_wash 37 = .ok (.goto 8, 3) := by decide +kernel
theorem dX12_wash_40 : decode cX12_wash 40 = .ok (.aload_n 0, 1) := by decide +kernel
theorem dX12_wash_41 : decode cX12_wash 41 = .ok (.iconst 1, 1) := by decide +kernel
theorem dX12_wash_42 : decode cX12_wash 42 = .ok (.invokevirtual 131, 3) := by decide +kernel
theorem dX12_wash_45 : decode cX12_wash 45 = .ok (.ireturn, 1) := by decide +kernel
set_option maxRecDepth 20000 in
theorem ggX12_ofWash_X12_in : GoodIn wsX12_ofWash wsX12_in := goodIn_r _ [6] rfl (by decide +kernel)
set_option maxRecDepth 20000 in
theorem gX12_ofWash_X12_in : GoodIn wsX12_ofWash (va_wsS RX12 50 yX12_in wsX12_in) := goodIn_app (goodIn_r _ [3, 4, 5] rfl (by decide +kernel)) ggX12_ofWash_X12_in
set_option maxRecDepth 20000 in
theorem ggX12_ofWash_X12_finds : GoodIn wsX12_ofWash wsX12_finds := goodIn_r _ [10, 11, 12, 13, 14, 15, 16, 17, 18, 19, 20, 21, 22, 23, 24, 25, 26, 27, 28, 29, 30, 31, 32, 33, 34, 35] rfl (by decide +kernel)
set_option maxRecDepth 20000 in
theorem gX12_ofWash_X12_finds : GoodIn wsX12_ofWash (wsV RX12 131 RX12 yX12_finds wsX12_finds) := goodIn_app (goodIn_r _ [7, 8, 9, 5] rfl (by decide +kernel)) ggX12_ofWash_X12_finds
theorem dX12_ofWash_0 : decode cX12_ofWash 0 = .ok (.iload_n 1, 1) := by decide +kernel
theorem dX12_ofWash_1 : decode cX12_ofWash 1 = .ok (.i2l, 1) := by decide +kernel
theorem dX12_ofWash_2 : decode cX12_ofWash 2 = .ok (.lconst 0, 1) := by decide +kernel
theorem dX12_ofWash_3 : decode cX12_ofWash 3 = .ok (.ldc2_w 216, 3) := by decide +kernel
theorem dX12_ofWash_6 : decode cX12_ofWash 6 = .ok (.invokestatic 50, 3) := by decide +kernel
theorem dX12_ofWash_9 : decode cX12_ofWash 9 = .ok (.ifCond .eq 17, 3) := by decide +kernel
theorem dX12_ofWash_12 : decode cX12_ofWash 12 = .ok (.iconst 1, 1) := by decide +kernel
theorem dX12_ofWash_13 : decode cX12_ofWash 13 = .ok (.aload_n 0, 1) := by decide +kernel
theorem dX12_ofWash_14 : decode cX12_ofWash 14 = .ok (.getfield 7, 3) := by decide +kernel
theorem dX12_ofWash_17 : decode cX12_ofWash 17 = .ok (.bipush 30, 2) := by decide +kernel
theorem dX12_ofWash_19 : decode cX12_ofWash 19 = .ok (.iload_n 1, 1) := by decide +kernel
theorem dX12_ofWash_20 : decode cX12_ofWash 20 = .ok (.iadd, 1) := by decide +kernel
theorem dX12_ofWash_21 : decode cX12_ofWash 21 = .ok (.iaload, 1) := by decide +kernel
theorem dX12_ofWash_22 : decode cX12_ofWash 22 = .ok (.iadd, 1) := by decide +kernel
theorem dX12_ofWash_23 : decode cX12_ofWash 23 = .ok (.goto 8, 3) := by decide +kernel
theorem dX12_ofWash_26 : decode cX12_ofWash 26 = .ok (.aload_n 0, 1) := by decide +kernel
theorem dX12_ofWash_27 : decode cX12_ofWash 27 = .ok (.iconst 1, 1) := by decide +kernel
theorem dX12_ofWash_28 : decode cX12_ofWash 28 = .ok (.invokevirtual 131, 3) := by decide +kernel
theorem dX12_ofWash_31 : decode cX12_ofWash 31 = .ok (.ireturn, 1) := by decide +kernel
set_option maxRecDepth 20000 in
theorem ggX12_isKm_X12_in : GoodIn wsX12_isKm wsX12_in := goodIn_r _ [5] rfl (by decide +kernel)
set_option maxRecDepth 20000 in
theorem gX12_isKm_X12_in : GoodIn wsX12_isKm (va_wsS RX12 50 yX12_in wsX12_in) := goodIn_app (goodIn_r _ [2, 3, 4] rfl (by decide +kernel)) ggX12_isKm_X12_in
theorem dX12_isKm_0 : decode cX12_isKm 0 = .ok (.iload_n 0, 1) := by decide +kernel
theorem dX12_isKm_1 : decode cX12_isKm 1 = .ok (.i2l, 1) := by decide +kernel
theorem dX12_isKm_2 : decode cX12_isKm 2 = .ok (.lconst 0, 1) := by decide +kernel
theorem dX12_isKm_3 : decode cX12_isKm 3 = .ok (.ldc2_w 218, 3) := by decide +kernel
theorem dX12_isKm_6 : decode cX12_isKm 6 = .ok (.invokestatic 50, 3) := by decide +kernel
theorem dX12_isKm_9 : decode cX12_isKm 9 = .ok (.ireturn, 1) := by decide +kernel
set_option maxRecDepth 20000 in
theorem ggX12_spoon_X12_isKm : GoodIn wsX12_spoon wsX12_isKm := goodIn_r _ [6, 7, 8, 9, 5, 10] rfl (by decide +kernel)
set_option maxRecDepth 20000 in
theorem gX12_spoon_X12_isKm : GoodIn wsX12_spoon (va_wsS RX12 220 yX12_isKm wsX12_isKm) := goodIn_app (goodIn_r _ [3, 4, 5] rfl (by decide +kernel)) ggX12_spoon_X12_isKm
set_option maxRecDepth 20000 in
theorem ggX12_spoon_X12_in : GoodIn wsX12_spoon wsX12_in := goodIn_r _ [10] rfl (by decide +kernel)
set_option maxRecDepth 20000 in
theorem gX12_spoon_X12_in : GoodIn wsX12_spoon (va_wsS RX12 50 yX12_in wsX12_in) := goodIn_app (goodIn_r _ [8, 9, 5] rfl (by decide +kernel)) ggX12_spoon_X12_in
set_option maxRecDepth 20000 in
theorem ggX12_spoon_X12_finds : GoodIn wsX12_spoon wsX12_finds := goodIn_r _ [14, 15, 16, 21, 22, 23, 24, 25, 26, 27, 28, 29, 30, 31, 32, 33, 34, 35, 36, 37, 38, 39, 40, 41, 42, 43] rfl (by decide +kernel)
set_option maxRecDepth 20000 in
theorem gX12_spoon_X12_finds : GoodIn wsX12_spoon (wsV RX12 131 RX12 yX12_finds wsX12_finds) := goodIn_app (goodIn_r _ [11, 12, 13, 5] rfl (by decide +kernel)) ggX12_spoon_X12_finds
set_option maxRecDepth 20000 in
theorem ggX12_spoon_X12_sets : GoodIn wsX12_spoon wsX12_sets := goodIn_r _ [20, 2, 21, 22, 23, 24, 25, 26, 27, 28, 29, 30, 31, 32, 33, 34, 35, 36, 37, 38, 39, 40, 41, 42, 43] rfl (by decide +kernel)
set_option maxRecDepth 20000 in
theorem gX12_spoon_X12_sets : GoodIn wsX12_spoon (wsV RX12 166 RX12 yX12_sets wsX12_sets) := goodIn_app (goodIn_r _ [17, 18, 19, 5] rfl (by decide +kernel)) ggX12_spoon_X12_sets
theorem dX12_spoon_0 : decode cX12_spoon 0 = .ok (.iload_n 1, 1) := by decide +kernel
theorem dX12_spoon_1 : decode cX12_spoon 1 = .ok (.invokestatic 220, 3) := by decide +kernel
theorem dX12_spoon_4 : decode cX12_spoon 4 = .ok (.ifCond .eq 15, 3) := by decide +kernel
theorem dX12_spoon_7 : decode cX12_spoon 7 = .ok (.iload_n 2, 1) := by decide +kernel
theorem dX12_spoon_8 : decode cX12_spoon 8 = .ok (.i2l, 1) := by decide +kernel
theorem dX12_spoon_9 : decode cX12_spoon 9 = .ok (.lconst 0, 1) := by decide +kernel
theorem dX12_spoon_10 : decode cX12_spoon 10 = .ok (.ldc2_w 223, 3) := by decide +kernel
theorem dX12_spoon_13 : decode cX12_spoon 13 = .ok (.invokestatic 50, 3) := by decide +kernel
theorem dX12_spoon_16 : decode cX12_spoon 16 = .ok (.ifCond .ne 9, 3) := by decide +kernel
theorem dX12_spoon_19 : decode cX12_spoon 19 = .ok (.aload_n 0, 1) := by decide +kernel
theorem dX12_spoon_20 : decode cX12_spoon 20 = .ok (.iconst 1, 1) := by decide +kernel
theorem dX12_spoon_21 : decode cX12_spoon 21 = .ok (.invokevirtual 131, 3) := by decide +kernel
theorem dX12_spoon_24 : decode cX12_spoon 24 = .ok (.ireturn, 1) := by decide +kernel
theorem dX12_spoon_25 : decode cX12_spoon 25 = .ok (.aload_n 0, 1) := by decide +kernel
theorem dX12_spoon_26 : decode cX12_spoon 26 = .ok (.getfield 7, 3) := by decide +kernel
theorem dX12_spoon_29 : decode cX12_spoon 29 = .ok (.iconst 0, 1) := by decide +kernel
theorem dX12_spoon_30 : decode cX12_spoon 30 = .ok (.iaload, 1) := by decide +kernel
theorem dX12_spoon_31 : decode cX12_spoon 31 = .ok (.bipush 8, 2) := by decide +kernel
theorem dX12_spoon_33 : decode cX12_spoon 33 = .ok (.if_icmp .ne 9, 3) := by decide +kernel
theorem dX12_spoon_36 : decode cX12_spoon 36 = .ok (.aload_n 0, 1) := by decide +kernel
theorem dX12_spoon_37 : decode cX12_spoon 37 = .ok (.iconst 4, 1) := by decide +kernel
theorem dX12_spoon_38 : decode cX12_spoon 38 = .ok (.invokevirtual 131, 3) := by decide +kernel
theorem dX12_spoon_41 : decode cX12_spoon 41 = .ok (.ireturn, 1) := by decide +kernel
theorem dX12_spoon_42 : decode cX12_spoon 42 = .ok (.aload_n 0, 1) := by decide +kernel
theorem dX12_spoon_43 : decode cX12_spoon 43 = .ok (.getfield 7, 3) := by decide +kernel
theorem dX12_spoon_46 : decode cX12_spoon 46 = .ok (.iconst 0, 1) := by decide +kernel
theorem dX12_spoon_47 : decode cX12_spoon 47 = .ok (.iaload, 1) := by decide +kernel
theorem dX12_spoon_48 : decode cX12_spoon 48 = .ok (.istore_n 3, 1) := by decide +kernel
theorem dX12_spoon_49 : decode cX12_spoon 49 = .ok (.aload_n 0, 1) := by decide +kernel
theorem dX12_spoon_50 : decode cX12_spoon 50 = .ok (.iload_n 3, 1) := by decide +kernel
theorem dX12_spoon_51 : decode cX12_spoon 51 = .ok (.iconst 0, 1) := by decide +kernel
theorem dX12_spoon_52 : decode cX12_spoon 52 = .ok (.iload_n 1, 1) := by decide +kernel
theorem dX12_spoon_53 : decode cX12_spoon 53 = .ok (.bipush 10, 2) := by decide +kernel
theorem dX12_spoon_55 : decode cX12_spoon 55 = .ok (.idiv, 1) := by decide +kernel
theorem dX12_spoon_56 : decode cX12_spoon 56 = .ok (.invokevirtual 166, 3) := by decide +kernel
theorem dX12_spoon_59 : decode cX12_spoon 59 = .ok (.aload_n 0, 1) := by decide +kernel
theorem dX12_spoon_60 : decode cX12_spoon 60 = .ok (.iload_n 3, 1) := by decide +kernel
theorem dX12_spoon_61 : decode cX12_spoon 61 = .ok (.iconst 1, 1) := by decide +kernel
theorem dX12_spoon_62 : decode cX12_spoon 62 = .ok (.iload_n 1, 1) := by decide +kernel
theorem dX12_spoon_63 : decode cX12_spoon 63 = .ok (.bipush 10, 2) := by decide +kernel
theorem dX12_spoon_65 : decode cX12_spoon 65 = .ok (.irem, 1) := by decide +kernel
theorem dX12_spoon_66 : decode cX12_spoon 66 = .ok (.invokevirtual 166, 3) := by decide +kernel
theorem dX12_spoon_69 : decode cX12_spoon 69 = .ok (.aload_n 0, 1) := by decide +kernel
theorem dX12_spoon_70 : decode cX12_spoon 70 = .ok (.iload_n 3, 1) := by decide +kernel
theorem dX12_spoon_71 : decode cX12_spoon 71 = .ok (.iconst 2, 1) := by decide +kernel
theorem dX12_spoon_72 : decode cX12_spoon 72 = .ok (.iload_n 2, 1) := by decide +kernel
theorem dX12_spoon_73 : decode cX12_spoon 73 = .ok (.invokevirtual 166, 3) := by decide +kernel
theorem dX12_spoon_76 : decode cX12_spoon 76 = .ok (.iconst 0, 1) := by decide +kernel
theorem dX12_spoon_77 : decode cX12_spoon 77 = .ok (.istore 4, 2) := by decide +kernel
theorem dX12_spoon_79 : decode cX12_spoon 79 = .ok (.iload 4, 2) := by decide +kernel
theorem dX12_spoon_81 : decode cX12_spoon 81 = .ok (.bipush 12, 2) := by decide +kernel
theorem dX12_spoon_83 : decode cX12_spoon 83 = .ok (.if_icmp .ge 19, 3) := by decide +kernel
theorem dX12_spoon_86 : decode cX12_spoon 86 = .ok (.aload_n 0, 1) := by decide +kernel
theorem dX12_spoon_87 : decode cX12_spoon 87 = .ok (.iload_n 3, 1) := by decide +kernel
theorem dX12_spoon_88 : decode cX12_spoon 88 = .ok (.iconst 3, 1) := by decide +kernel
theorem dX12_spoon_89 : decode cX12_spoon 89 = .ok (.iload 4, 2) := by decide +kernel
theorem dX12_spoon_91 : decode cX12_spoon 91 = .ok (.iadd, 1) := by decide +kernel
theorem dX12_spoon_92 : decode cX12_spoon 92 = .ok (.iconst 0, 1) := by decide +kernel
theorem dX12_spoon_93 : decode cX12_spoon 93 = .ok (.invokevirtual 166, 3) := by decide +kernel
theorem dX12_spoon_96 : decode cX12_spoon 96 = .ok (.iinc 4 1, 3) := by decide +kernel
theorem dX12_spoon_99 : decode cX12_spoon 99 = .ok (.goto (-20), 3) := by decide +kernel
theorem dX12_spoon_102 : decode cX12_spoon 102 = .ok (.aload_n 0, 1) := by decide +kernel
theorem dX12_spoon_103 : decode cX12_spoon 103 = .ok (.getfield 7, 3) := by decide +kernel
theorem dX12_spoon_106 : decode cX12_spoon 106 = .ok (.iconst 0, 1) := by decide +kernel
theorem dX12_spoon_107 : decode cX12_spoon 107 = .ok (.dup2, 1) := by decide +kernel
theorem dX12_spoon_108 : decode cX12_spoon 108 = .ok (.iaload, 1) := by decide +kernel
theorem dX12_spoon_109 : decode cX12_spoon 109 = .ok (.iconst 1, 1) := by decide +kernel
theorem dX12_spoon_110 : decode cX12_spoon 110 = .ok (.iadd, 1) := by decide +kernel
theorem dX12_spoon_111 : decode cX12_spoon 111 = .ok (.iastore, 1) := by decide +kernel
theorem dX12_spoon_112 : decode cX12_spoon 112 = .ok (.iload_n 3, 1) := by decide +kernel
theorem dX12_spoon_113 : decode cX12_spoon 113 = .ok (.ireturn, 1) := by decide +kernel
set_option maxRecDepth 20000 in
theorem ggX12_ofSpoon_X12_isSpoon : GoodIn wsX12_ofSpoon wsX12_isSpoon := goodIn_r _ [6, 7, 8, 9, 5, 10, 52, 53, 54, 55, 56, 57, 58, 59, 60, 61, 62, 63, 64, 65, 66, 67, 68, 69, 70, 71, 72, 73, 74] rfl (by decide +kernel)
set_option maxRecDepth 20000 in
theorem gX12_ofSpoon_X12_isSpoon : GoodIn wsX12_ofSpoon (wsV RX12 178 RX12 yX12_isSpoon wsX12_isSpoon) := goodIn_app (goodIn_r _ [2, 3, 4, 5] rfl (by decide +kernel)) ggX12_ofSpoon_X12_isSpoon
set_option maxRecDepth 20000 in
theorem ggX12_ofSpoon_X12_in : GoodIn wsX12_ofSpoon wsX12_in := goodIn_r _ [10] rfl (by decide +kernel)
set_option maxRecDepth 20000 in
theorem gX12_ofSpoon_X12_in : GoodIn wsX12_ofSpoon (va_wsS RX12 50 yX12_in wsX12_in) := goodIn_app (goodIn_r _ [8, 9, 5] rfl (by decide +kernel)) ggX12_ofSpoon_X12_in
set_option maxRecDepth 20000 in
theorem ggX12_ofSpoon_X12_finds : GoodIn wsX12_ofSpoon wsX12_finds := goodIn_r _ [14, 15, 16, 52, 53, 54, 55, 56, 57, 58, 59, 60, 61, 62, 63, 64, 65, 66, 67, 68, 69, 70, 71, 72, 73, 74] rfl (by decide +kernel)
set_option maxRecDepth 20000 in
theorem gX12_ofSpoon_X12_finds : GoodIn wsX12_ofSpoon (wsV RX12 131 RX12 yX12_finds wsX12_finds) := goodIn_app (goodIn_r _ [11, 12, 13, 5] rfl (by decide +kernel)) ggX12_ofSpoon_X12_finds
set_option maxRecDepth 20000 in
theorem ggX12_ofSpoon_X12_of : GoodIn wsX12_ofSpoon wsX12_of := goodIn_r _ [20, 7, 52, 53, 54, 55, 56, 57, 58, 59, 60, 61, 62, 63, 64, 65, 66, 67, 68, 69, 70, 71, 72, 73, 74] rfl (by decide +kernel)
set_option maxRecDepth 20000 in
theorem gX12_ofSpoon_X12_of : GoodIn wsX12_ofSpoon (wsV RX12 151 RX12 yX12_of wsX12_of) := goodIn_app (goodIn_r _ [17, 18, 19, 5] rfl (by decide +kernel)) ggX12_ofSpoon_X12_of
set_option maxRecDepth 20000 in
theorem ggX12_ofSpoon_X12_on : GoodIn wsX12_ofSpoon wsX12_on := goodIn_r _ [24, 17, 18, 19, 5, 20, 7, 52, 53, 54, 55, 56, 57, 58, 59, 60, 61, 62, 63, 64, 65, 66, 67, 68, 69, 70, 71, 72, 73, 74] rfl (by decide +kernel)
set_option maxRecDepth 20000 in
theorem gX12_ofSpoon_X12_on : GoodIn wsX12_ofSpoon (wsV RX12 154 RX12 yX12_on wsX12_on) := goodIn_app (goodIn_r _ [21, 22, 23, 5] rfl (by decide +kernel)) ggX12_ofSpoon_X12_on
set_option maxRecDepth 20000 in
theorem ggX12_ofSpoon_X12_rubs : GoodIn wsX12_ofSpoon wsX12_rubs := goodIn_r _ [28, 29, 30, 31, 5, 32, 21, 22, 23, 24, 17, 18, 19, 20, 7, 33, 34, 35, 36, 37, 38, 39, 40, 41, 42, 43, 44, 45, 46, 47, 48, 49, 50, 51, 52, 53, 54, 55, 56, 57, 58, 59, 60, 61, 62, 63, 64, 65, 66, 67, 68, 69, 70, 71, 72, 73, 74] rfl (by decide +kernel)
set_option maxRecDepth 20000 in
theorem gX12_ofSpoon_X12_rubs : GoodIn wsX12_ofSpoon (wsV RX12 169 RX12 yX12_rubs wsX12_rubs) := goodIn_app (goodIn_r _ [25, 26, 27, 5] rfl (by decide +kernel)) ggX12_ofSpoon_X12_rubs
theorem dX12_ofSpoon_0 : decode cX12_ofSpoon 0 = .ok (.aload_n 0, 1) := by decide +kernel
theorem dX12_ofSpoon_1 : decode cX12_ofSpoon 1 = .ok (.iload_n 1, 1) := by decide +kernel
theorem dX12_ofSpoon_2 : decode cX12_ofSpoon 2 = .ok (.invokevirtual 178, 3) := by decide +kernel
theorem dX12_ofSpoon_5 : decode cX12_ofSpoon 5 = .ok (.ifCond .eq 15, 3) := by decide +kernel
theorem dX12_ofSpoon_8 : decode cX12_ofSpoon 8 = .ok (.iload_n 2, 1) := by decide +kernel
theorem dX12_ofSpoon_9 : decode cX12_ofSpoon 9 = .ok (.i2l, 1) := by decide +kernel
theorem dX12_ofSpoon_10 : decode cX12_ofSpoon 10 = .ok (.lconst 0, 1) := by decide +kernel
theorem dX12_ofSpoon_11 : decode cX12_ofSpoon 11 = .ok (.ldc2_w 225, 3) := by decide +kernel
theorem dX12_ofSpoon_14 : decode cX12_ofSpoon 14 = .ok (.invokestatic 50, 3) := by decide +kernel
theorem dX12_ofSpoon_17 : decode cX12_ofSpoon 17 = .ok (.ifCond .ne 9, 3) := by decide +kernel
theorem dX12_ofSpoon_20 : decode cX12_ofSpoon 20 = .ok (.aload_n 0, 1) := by decide +kernel
theorem dX12_ofSpoon_21 : decode cX12_ofSpoon 21 = .ok (.iconst 1, 1) := by decide +kernel
theorem dX12_ofSpoon_22 : decode cX12_ofSpoon 22 = .ok (.invokevirtual 131, 3) := by decide +kernel
theorem dX12_ofSpoon_25 : decode cX12_ofSpoon 25 = .ok (.ireturn, 1) := by decide +kernel
theorem dX12_ofSpoon_26 : decode cX12_ofSpoon 26 = .ok (.iload_n 2, 1) := by decide +kernel
theorem dX12_ofSpoon_27 : decode cX12_ofSpoon 27 = .ok (.iconst 3, 1) := by decide +kernel
theorem dX12_ofSpoon_28 : decode cX12_ofSpoon 28 = .ok (.if_icmp .ge 12, 3) := by decide +kernel
theorem dX12_ofSpoon_31 : decode cX12_ofSpoon 31 = .ok (.aload_n 0, 1) := by decide +kernel
theorem dX12_ofSpoon_32 : decode cX12_ofSpoon 32 = .ok (.iload_n 1, 1) := by decide +kernel
theorem dX12_ofSpoon_33 : decode cX12_ofSpoon 33 = .ok (.iload_n 2, 1) := by decide +kernel
theorem dX12_ofSpoon_34 : decode cX12_ofSpoon 34 = .ok (.invokevirtual 151, 3) := by decide +kernel
theorem dX12_ofSpoon_37 : decode cX12_ofSpoon 37 = .ok (.goto 39, 3) := by decide +kernel
theorem dX12_ofSpoon_40 : decode cX12_ofSpoon 40 = .ok (.iload_n 2, 1) := by decide +kernel
theorem dX12_ofSpoon_41 : decode cX12_ofSpoon 41 = .ok (.iconst 3, 1) := by decide +kernel
theorem dX12_ofSpoon_42 : decode cX12_ofSpoon 42 = .ok (.if_icmp .ne 11, 3) := by decide +kernel
theorem dX12_ofSpoon_45 : decode cX12_ofSpoon 45 = .ok (.aload_n 0, 1) := by decide +kernel
theorem dX12_ofSpoon_46 : decode cX12_ofSpoon 46 = .ok (.iload_n 1, 1) := by decide +kernel
theorem dX12_ofSpoon_47 : decode cX12_ofSpoon 47 = .ok (.invokevirtual 154, 3) := by decide +kernel
theorem dX12_ofSpoon_50 : decode cX12_ofSpoon 50 = .ok (.goto 26, 3) := by decide +kernel
theorem dX12_ofSpoon_53 : decode cX12_ofSpoon 53 = .ok (.iload_n 2, 1) := by decide +kernel
theorem dX12_ofSpoon_54 : decode cX12_ofSpoon 54 = .ok (.iconst 4, 1) := by decide +kernel
theorem dX12_ofSpoon_55 : decode cX12_ofSpoon 55 = .ok (.if_icmp .ne 11, 3) := by decide +kernel
theorem dX12_ofSpoon_58 : decode cX12_ofSpoon 58 = .ok (.aload_n 0, 1) := by decide +kernel
theorem dX12_ofSpoon_59 : decode cX12_ofSpoon 59 = .ok (.iload_n 1, 1) := by decide +kernel
theorem dX12_ofSpoon_60 : decode cX12_ofSpoon 60 = .ok (.invokevirtual 169, 3) := by decide +kernel
theorem dX12_ofSpoon_63 : decode cX12_ofSpoon 63 = .ok (.goto 13, 3) := by decide +kernel
theorem dX12_ofSpoon_66 : decode cX12_ofSpoon 66 = .ok (.aload_n 0, 1) := by decide +kernel
theorem dX12_ofSpoon_67 : decode cX12_ofSpoon 67 = .ok (.iload_n 1, 1) := by decide +kernel
theorem dX12_ofSpoon_68 : decode cX12_ofSpoon 68 = .ok (.iconst 3, 1) := by decide +kernel
theorem dX12_ofSpoon_69 : decode cX12_ofSpoon 69 = .ok (.iload_n 2, 1) := by decide +kernel
theorem dX12_ofSpoon_70 : decode cX12_ofSpoon 70 = .ok (.iadd, 1) := by decide +kernel
theorem dX12_ofSpoon_71 : decode cX12_ofSpoon 71 = .ok (.iconst 5, 1) := by decide +kernel
theorem dX12_ofSpoon_72 : decode cX12_ofSpoon 72 = .ok (.isub, 1) := by decide +kernel
theorem dX12_ofSpoon_73 : decode cX12_ofSpoon 73 = .ok (.invokevirtual 151, 3) := by decide +kernel
theorem dX12_ofSpoon_76 : decode cX12_ofSpoon 76 = .ok (.ireturn, 1) := by decide +kernel
set_option maxRecDepth 20000 in
theorem ggX12_change_X12_isSpoon : GoodIn wsX12_change wsX12_isSpoon := goodIn_r _ [8, 9, 10, 11, 7, 12, 23, 24, 25, 26, 27, 28, 29, 30, 31, 32, 33, 34, 35, 36, 37, 38, 39, 40, 41, 42, 43, 44, 45] rfl (by decide +kernel)
set_option maxRecDepth 20000 in
theorem gX12_change_X12_isSpoon : GoodIn wsX12_change (wsV RX12 178 RX12 yX12_isSpoon wsX12_isSpoon) := goodIn_app (goodIn_r _ [4, 5, 6, 7] rfl (by decide +kernel)) ggX12_change_X12_isSpoon
set_option maxRecDepth 20000 in
theorem ggX12_change_X12_in : GoodIn wsX12_change wsX12_in := goodIn_r _ [12] rfl (by decide +kernel)
set_option maxRecDepth 20000 in
theorem gX12_change_X12_in : GoodIn wsX12_change (va_wsS RX12 50 yX12_in wsX12_in) := goodIn_app (goodIn_r _ [10, 11, 7] rfl (by decide +kernel)) ggX12_change_X12_in
set_option maxRecDepth 20000 in
theorem ggX12_change_X12_finds : GoodIn wsX12_change wsX12_finds := goodIn_r _ [16, 17, 18, 23, 24, 25, 26, 27, 28, 29, 30, 31, 32, 33, 34, 35, 36, 37, 38, 39, 40, 41, 42, 43, 44, 45] rfl (by decide +kernel)
set_option maxRecDepth 20000 in
theorem gX12_change_X12_finds : GoodIn wsX12_change (wsV RX12 131 RX12 yX12_finds wsX12_finds) := goodIn_app (goodIn_r _ [13, 14, 15, 7] rfl (by decide +kernel)) ggX12_change_X12_finds
set_option maxRecDepth 20000 in
theorem ggX12_change_X12_becomes : GoodIn wsX12_change wsX12_becomes := goodIn_r _ [22, 9, 23, 24, 25, 26, 27, 28, 29, 30, 31, 32, 33, 34, 35, 36, 37, 38, 39, 40, 41, 42, 43, 44, 45] rfl (by decide +kernel)
set_option maxRecDepth 20000 in
theorem gX12_change_X12_becomes : GoodIn wsX12_change (wsV RX12 196 RX12 yX12_becomes wsX12_becomes) := goodIn_app (goodIn_r _ [19, 20, 21, 7] rfl (by decide +kernel)) ggX12_change_X12_becomes
theorem dX12_change_0 : decode cX12_change 0 = .ok (.aload_n 0, 1) := by decide +kernel
theorem dX12_change_1 : decode cX12_change 1 = .ok (.iload_n 1, 1) := by decide +kernel
theorem dX12_change_2 : decode cX12_change 2 = .ok (.invokevirtual 178, 3) := by decide +kernel
theorem dX12_change_5 : decode cX12_change 5 = .ok (.ifCond .eq 37, 3) := by decide +kernel
theorem dX12_change_8 : decode cX12_change 8 = .ok (.iload_n 2, 1) := by decide +kernel
theorem dX12_change_9 : decode cX12_change 9 = .ok (.i2l, 1) := by decide +kernel
theorem dX12_change_10 : decode cX12_change 10 = .ok (.lconst 0, 1) := by decide +kernel
theorem dX12_change_11 : decode cX12_change 11 = .ok (.ldc2_w 227, 3) := by decide +kernel
theorem dX12_change_14 : decode cX12_change 14 = .ok (.invokestatic 50, 3) := by decide +kernel
theorem dX12_change_17 : decode cX12_change 17 = .ok (.ifCond .eq 25, 3) := by decide +kernel
theorem dX12_change_20 : decode cX12_change 20 = .ok (.iload_n 3, 1) := by decide +kernel
theorem dX12_change_21 : decode cX12_change 21 = .ok (.i2l, 1) := by decide +kernel
theorem dX12_change_22 : decode cX12_change 22 = .ok (.lconst 0, 1) := by decide +kernel
theorem dX12_change_23 : decode cX12_change 23 = .ok (.iload_n 2, 1) := by decide +kernel
theorem dX12_change_24 : decode cX12_change 24 = .ok (.ifCond .ne 9, 3) := by decide +kernel
theorem dX12_change_27 : decode cX12_change 27 = .ok (.ldc2_w 223, 3) := by decide +kernel
theorem dX12_change_30 : decode cX12_change 30 = .ok (.goto 6, 3) := by decide +kernel
theorem dX12_change_33 : decode cX12_change 33 = .ok (.ldc2_w 194, 3) := by decide +kernel
theorem dX12_change_36 : decode cX12_change 36 = .ok (.invokestatic 50, 3) := by decide +kernel
theorem dX12_change_39 : decode cX12_change 39 = .ok (.ifCond .ne 9, 3) := by decide +kernel
theorem dX12_change_42 : decode cX12_change 42 = .ok (.aload_n 0, 1) := by decide +kernel
theorem dX12_change_43 : decode cX12_change 43 = .ok (.iconst 1, 1) := by decide +kernel
theorem dX12_change_44 : decode cX12_change 44 = .ok (.invokevirtual 131, 3) := by decide +kernel
theorem dX12_change_47 : decode cX12_change 47 = .ok (.ireturn, 1) := by decide +kernel
theorem dX12_change_48 : decode cX12_change 48 = .ok (.aload_n 0, 1) := by decide +kernel
theorem dX12_change_49 : decode cX12_change 49 = .ok (.bipush 34, 2) := by decide +kernel
theorem dX12_change_51 : decode cX12_change 51 = .ok (.bipush 15, 2) := by decide +kernel
theorem dX12_change_53 : decode cX12_change 53 = .ok (.iload_n 1, 1) := by decide +kernel
theorem dX12_change_54 : decode cX12_change 54 = .ok (.imul, 1) := by decide +kernel
theorem dX12_change_55 : decode cX12_change 55 = .ok (.iadd, 1) := by decide +kernel
theorem dX12_change_56 : decode cX12_change 56 = .ok (.iconst 2, 1) := by decide +kernel
theorem dX12_change_57 : decode cX12_change 57 = .ok (.iadd, 1) := by decide +kernel
theorem dX12_change_58 : decode cX12_change 58 = .ok (.iload_n 2, 1) := by decide +kernel
theorem dX12_change_59 : decode cX12_change 59 = .ok (.iadd, 1) := by decide +kernel
theorem dX12_change_60 : decode cX12_change 60 = .ok (.iload_n 3, 1) := by decide +kernel
theorem dX12_change_61 : decode cX12_change 61 = .ok (.invokevirtual 196, 3) := by decide +kernel
theorem dX12_change_64 : decode cX12_change 64 = .ok (.ireturn, 1) := by decide +kernel
set_option maxRecDepth 20000 in
theorem ggX12_become_X12_isSpoon : GoodIn wsX12_become wsX12_isSpoon := goodIn_r _ [5, 6, 7, 8, 4, 9, 28, 29, 30, 31, 32, 33, 34, 35, 36, 37, 38, 39, 40, 41, 42, 43, 44, 45, 46, 47, 48, 49, 50] rfl (by decide +kernel)
set_option maxRecDepth 20000 in
theorem gX12_become_X12_isSpoon : GoodIn wsX12_become (wsV RX12 178 RX12 yX12_isSpoon wsX12_isSpoon) := goodIn_app (goodIn_r _ [1, 2, 3, 4] rfl (by decide +kernel)) ggX12_become_X12_isSpoon
set_option maxRecDepth 20000 in
theorem ggX12_become_X12_isKm : GoodIn wsX12_become wsX12_isKm := goodIn_r _ [12, 13, 7, 8, 4, 9] rfl (by decide +kernel)
set_option maxRecDepth 20000 in
theorem gX12_become_X12_isKm : GoodIn wsX12_become (va_wsS RX12 220 yX12_isKm wsX12_isKm) := goodIn_app (goodIn_r _ [10, 11, 4] rfl (by decide +kernel)) ggX12_become_X12_isKm
set_option maxRecDepth 20000 in
theorem ggX12_become_X12_finds : GoodIn wsX12_become wsX12_finds := goodIn_r _ [17, 18, 19, 28, 29, 30, 31, 32, 33, 34, 35, 36, 37, 38, 39, 40, 41, 42, 43, 44, 45, 46, 47, 48, 49, 50] rfl (by decide +kernel)
set_option maxRecDepth 20000 in
theorem gX12_become_X12_finds : GoodIn wsX12_become (wsV RX12 131 RX12 yX12_finds wsX12_finds) := goodIn_app (goodIn_r _ [14, 15, 16, 4] rfl (by decide +kernel)) ggX12_become_X12_finds
set_option maxRecDepth 20000 in
theorem ggX12_become_X12_sets : GoodIn wsX12_become wsX12_sets := goodIn_r _ [23, 6, 28, 29, 30, 31, 32, 33, 34, 35, 36, 37, 38, 39, 40, 41, 42, 43, 44, 45, 46, 47, 48, 49, 50] rfl (by decide +kernel)
set_option maxRecDepth 20000 in
theorem gX12_become_X12_sets : GoodIn wsX12_become (wsV RX12 166 RX12 yX12_sets wsX12_sets) := goodIn_app (goodIn_r _ [20, 21, 22, 4] rfl (by decide +kernel)) ggX12_become_X12_sets
set_option maxRecDepth 20000 in
theorem ggX12_become_X12_becomes : GoodIn wsX12_become wsX12_becomes := goodIn_r _ [27, 6, 28, 29, 30, 31, 32, 33, 34, 35, 36, 37, 38, 39, 40, 41, 42, 43, 44, 45, 46, 47, 48, 49, 50] rfl (by decide +kernel)
set_option maxRecDepth 20000 in
theorem gX12_become_X12_becomes : GoodIn wsX12_become (wsV RX12 196 RX12 yX12_becomes wsX12_becomes) := goodIn_app (goodIn_r _ [24, 25, 26, 4] rfl (by decide +kernel)) ggX12_become_X12_becomes
theorem dX12_become_0 : decode cX12_become 0 = .ok (.aload_n 0, 1) := by decide +kernel
theorem dX12_become_1 : decode cX12_become 1 = .ok (.iload_n 1, 1) := by decide +kernel
theorem dX12_become_2 : decode cX12_become 2 = .ok (.invokevirtual 178, 3) := by decide +kernel
theorem dX12_become_5 : decode cX12_become 5 = .ok (.ifCond .eq 10, 3) := by decide +kernel
theorem dX12_become_8 : decode cX12_become 8 = .ok (.iload_n 2, 1) := by decide +kernel
theorem dX12_become_9 : decode cX12_become 9 = .ok (.invokestatic 220, 3) := by decide +kernel
theorem dX12_become_12 : decode cX12_become 12 = .ok (.ifCond .ne 9, 3) := by decide +kernel
theorem dX12_become_15 : decode cX12_become 15 = .ok (.aload_n 0, 1) := by decide +kernel
theorem dX12_become_16 : decode cX12_become 16 = .ok (.iconst 1, 1) := by decide +kernel
theorem dX12_become_17 : decode cX12_become 17 = .ok (.invokevirtual 131, 3) := by decide +kernel
theorem dX12_become_20 : decode cX12_become 20 = .ok (.ireturn, 1) := by decide +kernel
theorem dX12_become_21 : decode cX12_become 21 = .ok (.aload_n 0, 1) := by decide +kernel
theorem dX12_become_22 : decode cX12_become 22 = .ok (.iload_n 1, 1) := by decide +kernel
theorem dX12_become_23 : decode cX12_become 23 = .ok (.iconst 1, 1) := by decide +kernel
theorem dX12_become_24 : decode cX12_become 24 = .ok (.iload_n 2, 1) := by decide +kernel
theorem dX12_become_25 : decode cX12_become 25 = .ok (.bipush 10, 2) := by decide +kernel
theorem dX12_become_27 : decode cX12_become 27 = .ok (.irem, 1) := by decide +kernel
theorem dX12_become_28 : decode cX12_become 28 = .ok (.invokevirtual 166, 3) := by decide +kernel
theorem dX12_become_31 : decode cX12_become 31 = .ok (.aload_n 0, 1) := by decide +kernel
theorem dX12_become_32 : decode cX12_become 32 = .ok (.bipush 34, 2) := by decide +kernel
theorem dX12_become_34 : decode cX12_become 34 = .ok (.bipush 15, 2) := by decide +kernel
theorem dX12_become_36 : decode cX12_become 36 = .ok (.iload_n 1, 1) := by decide +kernel
theorem dX12_become_37 : decode cX12_become 37 = .ok (.imul, 1) := by decide +kernel
theorem dX12_become_38 : decode cX12_become 38 = .ok (.iadd, 1) := by decide +kernel
theorem dX12_become_39 : decode cX12_become 39 = .ok (.iload_n 2, 1) := by decide +kernel
theorem dX12_become_40 : decode cX12_become 40 = .ok (.bipush 10, 2) := by decide +kernel
theorem dX12_become_42 : decode cX12_become 42 = .ok (.idiv, 1) := by decide +kernel
theorem dX12_become_43 : decode cX12_become 43 = .ok (.invokevirtual 196, 3) := by decide +kernel
theorem dX12_become_46 : decode cX12_become 46 = .ok (.ireturn, 1) := by decide +kernel
set_option maxRecDepth 20000 in
theorem ggX12_as_X12_isSpoon : GoodIn wsX12_as wsX12_isSpoon := goodIn_r _ [6, 7, 8, 9, 5, 10, 24, 25, 26, 27, 28, 29, 30, 31, 32, 33, 34, 35, 36, 37, 38, 39, 40, 41, 42, 43, 44, 45, 46] rfl (by decide +kernel)
set_option maxRecDepth 20000 in
theorem gX12_as_X12_isSpoon : GoodIn wsX12_as (wsV RX12 178 RX12 yX12_isSpoon wsX12_isSpoon) := goodIn_app (goodIn_r _ [2, 3, 4, 5] rfl (by decide +kernel)) ggX12_as_X12_isSpoon
set_option maxRecDepth 20000 in
theorem ggX12_as_X12_in : GoodIn wsX12_as wsX12_in := goodIn_r _ [10] rfl (by decide +kernel)
set_option maxRecDepth 20000 in
theorem gX12_as_X12_in : GoodIn wsX12_as (va_wsS RX12 50 yX12_in wsX12_in) := goodIn_app (goodIn_r _ [8, 9, 5] rfl (by decide +kernel)) ggX12_as_X12_in
set_option maxRecDepth 20000 in
theorem ggX12_as_X12_finds : GoodIn wsX12_as wsX12_finds := goodIn_r _ [14, 15, 16, 24, 25, 26, 27, 28, 29, 30, 31, 32, 33, 34, 35, 36, 37, 38, 39, 40, 41, 42, 43, 44, 45, 46] rfl (by decide +kernel)
set_option maxRecDepth 20000 in
theorem gX12_as_X12_finds : GoodIn wsX12_as (wsV RX12 131 RX12 yX12_finds wsX12_finds) := goodIn_app (goodIn_r _ [11, 12, 13, 5] rfl (by decide +kernel)) ggX12_as_X12_finds
set_option maxRecDepth 20000 in
theorem ggX12_as_X12_of : GoodIn wsX12_as wsX12_of := goodIn_r _ [20, 7, 24, 25, 26, 27, 28, 29, 30, 31, 32, 33, 34, 35, 36, 37, 38, 39, 40, 41, 42, 43, 44, 45, 46] rfl (by decide +kernel)
set_option maxRecDepth 20000 in
theorem gX12_as_X12_of : GoodIn wsX12_as (wsV RX12 151 RX12 yX12_of wsX12_of) := goodIn_app (goodIn_r _ [17, 18, 19, 5] rfl (by decide +kernel)) ggX12_as_X12_of
set_option maxRecDepth 20000 in
theorem ggX12_as_X12_above : GoodIn wsX12_as wsX12_above := goodIn_r _ [23] rfl (by decide +kernel)
set_option maxRecDepth 20000 in
theorem gX12_as_X12_above : GoodIn wsX12_as (va_wsS RX12 231 yX12_above wsX12_above) := goodIn_app (goodIn_r _ [21, 22, 5] rfl (by decide +kernel)) ggX12_as_X12_above
theorem dX12_as_0 : decode cX12_as 0 = .ok (.aload_n 0, 1) := by decide +kernel
theorem dX12_as_1 : decode cX12_as 1 = .ok (.iload_n 1, 1) := by decide +kernel
theorem dX12_as_2 : decode cX12_as 2 = .ok (.invokevirtual 178, 3) := by decide +kernel
theorem dX12_as_5 : decode cX12_as 5 = .ok (.ifCond .eq 15, 3) := by decide +kernel
theorem dX12_as_8 : decode cX12_as 8 = .ok (.iload_n 2, 1) := by decide +kernel
theorem dX12_as_9 : decode cX12_as 9 = .ok (.i2l, 1) := by decide +kernel
theorem dX12_as_10 : decode cX12_as 10 = .ok (.lconst 0, 1) := by decide +kernel
theorem dX12_as_11 : decode cX12_as 11 = .ok (.ldc2_w 229, 3) := by decide +kernel
theorem dX12_as_14 : decode cX12_as 14 = .ok (.invokestatic 50, 3) := by decide +kernel
theorem dX12_as_17 : decode cX12_as 17 = .ok (.ifCond .ne 9, 3) := by decide +kernel
theorem dX12_as_20 : decode cX12_as 20 = .ok (.aload_n 0, 1) := by decide +kernel
theorem dX12_as_21 : decode cX12_as 21 = .ok (.iconst 1, 1) := by decide +kernel
theorem dX12_as_22 : decode cX12_as 22 = .ok (.invokevirtual 131, 3) := by decide +kernel
theorem dX12_as_25 : decode cX12_as 25 = .ok (.ireturn, 1) := by decide +kernel
theorem dX12_as_26 : decode cX12_as 26 = .ok (.aload_n 0, 1) := by decide +kernel
theorem dX12_as_27 : decode cX12_as 27 = .ok (.iload_n 1, 1) := by decide +kernel
theorem dX12_as_28 : decode cX12_as 28 = .ok (.iconst 0, 1) := by decide +kernel
theorem dX12_as_29 : decode cX12_as 29 = .ok (.invokevirtual 151, 3) := by decide +kernel
theorem dX12_as_32 : decode cX12_as 32 = .ok (.istore_n 3, 1) := by decide +kernel
theorem dX12_as_33 : decode cX12_as 33 = .ok (.iload_n 2, 1) := by decide +kernel
theorem dX12_as_34 : decode cX12_as 34 = .ok (.ifCond .eq 16, 3) := by decide +kernel
theorem dX12_as_37 : decode cX12_as 37 = .ok (.iload_n 2, 1) := by decide +kernel
theorem dX12_as_38 : decode cX12_as 38 = .ok (.iload_n 3, 1) := by decide +kernel
theorem dX12_as_39 : decode cX12_as 39 = .ok (.if_icmp .eq 11, 3) := by decide +kernel
theorem dX12_as_42 : decode cX12_as 42 = .ok (.iload_n 2, 1) := by decide +kernel
theorem dX12_as_43 : decode cX12_as 43 = .ok (.iload_n 3, 1) := by decide +kernel
theorem dX12_as_44 : decode cX12_as 44 = .ok (.invokestatic 231, 3) := by decide +kernel
theorem dX12_as_47 : decode cX12_as 47 = .ok (.if_icmp .ne 12, 3) := by decide +kernel
theorem dX12_as_50 : decode cX12_as 50 = .ok (.aload_n 0, 1) := by decide +kernel
theorem dX12_as_51 : decode cX12_as 51 = .ok (.iload_n 1, 1) := by decide +kernel
theorem dX12_as_52 : decode cX12_as 52 = .ok (.iconst 1, 1) := by decide +kernel
theorem dX12_as_53 : decode cX12_as 53 = .ok (.invokevirtual 151, 3) := by decide +kernel
theorem dX12_as_56 : decode cX12_as 56 = .ok (.goto 8, 3) := by decide +kernel
theorem dX12_as_59 : decode cX12_as 59 = .ok (.aload_n 0, 1) := by decide +kernel
theorem dX12_as_60 : decode cX12_as 60 = .ok (.iconst 5, 1) := by decide +kernel
theorem dX12_as_61 : decode cX12_as 61 = .ok (.invokevirtual 131, 3) := by decide +kernel
theorem dX12_as_64 : decode cX12_as 64 = .ok (.ireturn, 1) := by decide +kernel
theorem dX12_isLate_0 : decode cX12_isLate 0 = .ok (.aload_n 0, 1) := by decide +kernel
theorem dX12_isLate_1 : decode cX12_isLate 1 = .ok (.getfield 7, 3) := by decide +kernel
theorem dX12_isLate_4 : decode cX12_isLate 4 = .ok (.iconst 1, 1) := by decide +kernel
theorem dX12_isLate_5 : decode cX12_isLate 5 = .ok (.iaload, 1) := by decide +kernel
theorem dX12_isLate_6 : decode cX12_isLate 6 = .ok (.iload_n 1, 1) := by decide +kernel
theorem dX12_isLate_7 : decode cX12_isLate 7 = .ok (.iadd, 1) := by decide +kernel
theorem dX12_isLate_8 : decode cX12_isLate 8 = .ok (.sipush 9999, 3) := by decide +kernel
theorem dX12_isLate_11 : decode cX12_isLate 11 = .ok (.if_icmp .le 7, 3) := by decide +kernel
theorem dX12_isLate_14 : decode cX12_isLate 14 = .ok (.iconst 1, 1) := by decide +kernel
theorem dX12_isLate_15 : decode cX12_isLate 15 = .ok (.goto 4, 3) := by decide +kernel
theorem dX12_isLate_18 : decode cX12_isLate 18 = .ok (.iconst 0, 1) := by decide +kernel
theorem dX12_isLate_19 : decode cX12_isLate 19 = .ok (.ireturn, 1) := by decide +kernel
set_option maxRecDepth 20000 in
theorem ggX12_hours_X12_in : GoodIn wsX12_hours wsX12_in := goodIn_r _ [6] rfl (by decide +kernel)
set_option maxRecDepth 20000 in
theorem gX12_hours_X12_in : GoodIn wsX12_hours (va_wsS RX12 50 yX12_in wsX12_in) := goodIn_app (goodIn_r _ [3, 4, 5] rfl (by decide +kernel)) ggX12_hours_X12_in
set_option maxRecDepth 20000 in
theorem ggX12_hours_X12_finds : GoodIn wsX12_hours wsX12_finds := goodIn_r _ [10, 11, 12, 88, 89, 90, 91, 92, 93, 94, 95, 96, 97, 98, 99, 100, 101, 102, 103, 104, 105, 106, 107, 108, 109, 110] rfl (by decide +kernel)
set_option maxRecDepth 20000 in
theorem gX12_hours_X12_finds : GoodIn wsX12_hours (wsV RX12 131 RX12 yX12_finds wsX12_finds) := goodIn_app (goodIn_r _ [7, 8, 9, 5] rfl (by decide +kernel)) ggX12_hours_X12_finds
set_option maxRecDepth 20000 in
theorem ggX12_hours_X12_isLate : GoodIn wsX12_hours wsX12_isLate := goodIn_r _ [16, 2, 88, 89, 90, 91, 92, 93, 94, 95, 96, 97, 98, 99, 100, 101, 102, 103, 104, 105, 106, 107, 108, 109, 110] rfl (by decide +kernel)
set_option maxRecDepth 20000 in
theorem gX12_hours_X12_isLate : GoodIn wsX12_hours (wsV RX12 236 RX12 yX12_isLate wsX12_isLate) := goodIn_app (goodIn_r _ [13, 14, 15, 5] rfl (by decide +kernel)) ggX12_hours_X12_isLate
set_option maxRecDepth 20000 in
theorem ggX12_hours_X12_hoursGo : GoodIn wsX12_hours wsX12_hoursGo := goodIn_r _ [20, 21, 22, 23, 5, 24, 2, 25, 26, 27, 28, 3, 4, 6, 29, 30, 31, 32, 33, 34, 35, 36, 37, 38, 39, 40, 41, 42, 43, 44, 45, 46, 47, 48, 49, 50, 51, 52, 53, 54, 55, 56, 57, 58, 59, 60, 61, 62, 63, 64, 65, 66, 67, 68, 69, 70, 71, 72, 73, 74, 75, 76, 77, 78, 79, 80, 81, 82, 83, 84, 85, 86, 87, 88, 89, 90, 91, 92, 93, 94, 95, 96, 97, 98, 99, 100, 101, 102, 103, 104, 105, 106, 107, 108, 109, 110] rfl (by decide +kernel)
set_option maxRecDepth 20000 in
theorem gX12_hours_X12_hoursGo : GoodIn wsX12_hours (wsV RX12 239 RX12 yX12_hoursGo wsX12_hoursGo) := goodIn_app (goodIn_r _ [17, 18, 19, 5] rfl (by decide +kernel)) ggX12_hours_X12_hoursGo
theorem dX12_hours_0 : decode cX12_hours 0 = .ok (.iload_n 1, 1) := by decide +kernel
theorem dX12_hours_1 : decode cX12_hours 1 = .ok (.i2l, 1) := by decide +kernel
theorem dX12_hours_2 : decode cX12_hours 2 = .ok (.lconst 1, 1) := by decide +kernel
theorem dX12_hours_3 : decode cX12_hours 3 = .ok (.ldc2_w 234, 3) := by decide +kernel
theorem dX12_hours_6 : decode cX12_hours 6 = .ok (.invokestatic 50, 3) := by decide +kernel
theorem dX12_hours_9 : decode cX12_hours 9 = .ok (.ifCond .ne 9, 3) := by decide +kernel
theorem dX12_hours_12 : decode cX12_hours 12 = .ok (.aload_n 0, 1) := by decide +kernel
theorem dX12_hours_13 : decode cX12_hours 13 = .ok (.iconst 1, 1) := by decide +kernel
theorem dX12_hours_14 : decode cX12_hours 14 = .ok (.invokevirtual 131, 3) := by decide +kernel
theorem dX12_hours_17 : decode cX12_hours 17 = .ok (.ireturn, 1) := by decide +kernel
theorem dX12_hours_18 : decode cX12_hours 18 = .ok (.aload_n 0, 1) := by decide +kernel
theorem dX12_hours_19 : decode cX12_hours 19 = .ok (.iload_n 1, 1) := by decide +kernel
theorem dX12_hours_20 : decode cX12_hours 20 = .ok (.invokevirtual 236, 3) := by decide +kernel
theorem dX12_hours_23 : decode cX12_hours 23 = .ok (.ifCond .eq 9, 3) := by decide +kernel
theorem dX12_hours_26 : decode cX12_hours 26 = .ok (.aload_n 0, 1) := by decide +kernel
theorem dX12_hours_27 : decode cX12_hours 27 = .ok (.iconst 3, 1) := by decide +kernel
theorem dX12_hours_28 : decode cX12_hours 28 = .ok (.invokevirtual 131, 3) := by decide +kernel
theorem dX12_hours_31 : decode cX12_hours 31 = .ok (.ireturn, 1) := by decide +kernel
theorem dX12_hours_32 : decode cX12_hours 32 = .ok (.aload_n 0, 1) := by decide +kernel
theorem dX12_hours_33 : decode cX12_hours 33 = .ok (.iload_n 1, 1) := by decide +kernel
theorem dX12_hours_34 : decode cX12_hours 34 = .ok (.invokevirtual 239, 3) := by decide +kernel
theorem dX12_hours_37 : decode cX12_hours 37 = .ok (.aload_n 0, 1) := by decide +kernel
theorem dX12_hours_38 : decode cX12_hours 38 = .ok (.getfield 7, 3) := by decide +kernel
theorem dX12_hours_41 : decode cX12_hours 41 = .ok (.iconst 2, 1) := by decide +kernel
theorem dX12_hours_42 : decode cX12_hours 42 = .ok (.iaload, 1) := by decide +kernel
theorem dX12_hours_43 : decode cX12_hours 43 = .ok (.ireturn, 1) := by decide +kernel
theorem dX12_draw_0 : decode cX12_draw 0 = .ok (.aload_n 0, 1) := by decide +kernel
theorem dX12_draw_1 : decode cX12_draw 1 = .ok (.getfield 7, 3) := by decide +kernel
theorem dX12_draw_4 : decode cX12_draw 4 = .ok (.iconst 3, 1) := by decide +kernel
theorem dX12_draw_5 : decode cX12_draw 5 = .ok (.aload_n 0, 1) := by decide +kernel
theorem dX12_draw_6 : decode cX12_draw 6 = .ok (.getfield 7, 3) := by decide +kernel
theorem dX12_draw_9 : decode cX12_draw 9 = .ok (.iconst 3, 1) := by decide +kernel
theorem dX12_draw_10 : decode cX12_draw 10 = .ok (.iaload, 1) := by decide +kernel
theorem dX12_draw_11 : decode cX12_draw 11 = .ok (.ldc 242, 2) := by decide +kernel
theorem dX12_draw_13 : decode cX12_draw 13 = .ok (.imul, 1) := by decide +kernel
theorem dX12_draw_14 : decode cX12_draw 14 = .ok (.sipush 12345, 3) := by decide +kernel
theorem dX12_draw_17 : decode cX12_draw 17 = .ok (.iadd, 1) := by decide +kernel
theorem dX12_draw_18 : decode cX12_draw 18 = .ok (.iastore, 1) := by decide +kernel
theorem dX12_draw_19 : decode cX12_draw 19 = .ok (.aload_n 0, 1) := by decide +kernel
theorem dX12_draw_20 : decode cX12_draw 20 = .ok (.getfield 7, 3) := by decide +kernel
theorem dX12_draw_23 : decode cX12_draw 23 = .ok (.iconst 3, 1) := by decide +kernel
theorem dX12_draw_24 : decode cX12_draw 24 = .ok (.iaload, 1) := by decide +kernel
theorem dX12_draw_25 : decode cX12_draw 25 = .ok (.bipush 8, 2) := by decide +kernel
theorem dX12_draw_27 : decode cX12_draw 27 = .ok (.iushr, 1) := by decide +kernel
theorem dX12_draw_28 : decode cX12_draw 28 = .ok (.ireturn, 1) := by decide +kernel
set_option maxRecDepth 20000 in
theorem ggX12_loose_X12_in : GoodIn wsX12_loose wsX12_in := goodIn_r _ [6] rfl (by decide +kernel)
set_option maxRecDepth 20000 in
theorem gX12_loose_X12_in : GoodIn wsX12_loose (va_wsS RX12 50 yX12_in wsX12_in) := goodIn_app (goodIn_r _ [3, 4, 5] rfl (by decide +kernel)) ggX12_loose_X12_in
set_option maxRecDepth 20000 in
theorem ggX12_loose_X12_finds : GoodIn wsX12_loose wsX12_finds := goodIn_r _ [10, 11, 12, 89, 90, 91, 92, 93, 94, 95, 96, 97, 98, 99, 100, 101, 102, 103, 104, 105, 106, 107, 108, 109, 110, 111] rfl (by decide +kernel)
set_option maxRecDepth 20000 in
theorem gX12_loose_X12_finds : GoodIn wsX12_loose (wsV RX12 131 RX12 yX12_finds wsX12_finds) := goodIn_app (goodIn_r _ [7, 8, 9, 5] rfl (by decide +kernel)) ggX12_loose_X12_finds
set_option maxRecDepth 20000 in
theorem ggX12_loose_X12_isLate : GoodIn wsX12_loose wsX12_isLate := goodIn_r _ [16, 2, 89, 90, 91, 92, 93, 94, 95, 96, 97, 98, 99, 100, 101, 102, 103, 104, 105, 106, 107, 108, 109, 110, 111] rfl (by decide +kernel)
set_option maxRecDepth 20000 in
theorem gX12_loose_X12_isLate : GoodIn wsX12_loose (wsV RX12 236 RX12 yX12_isLate wsX12_isLate) := goodIn_app (goodIn_r _ [13, 14, 15, 5] rfl (by decide +kernel)) ggX12_loose_X12_isLate
set_option maxRecDepth 20000 in
theorem ggX12_loose_X12_draw : GoodIn wsX12_loose wsX12_draw := goodIn_r _ [20, 2, 21, 89, 90, 91, 92, 93, 94, 95, 96, 97, 98, 99, 100, 101, 102, 103, 104, 105, 106, 107, 108, 109, 110, 111] rfl (by decide +kernel)
set_option maxRecDepth 20000 in
theorem gX12_loose_X12_draw : GoodIn wsX12_loose (wsV RX12 245 RX12 yX12_draw wsX12_draw) := goodIn_app (goodIn_r _ [17, 18, 19, 5] rfl (by decide +kernel)) ggX12_loose_X12_draw
set_option maxRecDepth 20000 in
theorem ggX12_loose_X12_hourGoes : GoodIn wsX12_loose wsX12_hourGoes := goodIn_r _ [25, 2, 26, 27, 28, 5, 29, 3, 4, 6, 30, 31, 32, 33, 34, 35, 36, 37, 38, 39, 40, 41, 42, 43, 44, 45, 46, 47, 48, 49, 50, 51, 52, 53, 54, 55, 56, 57, 58, 59, 60, 61, 62, 63, 64, 65, 66, 67, 68, 69, 70, 71, 72, 73, 74, 75, 76, 77, 78, 79, 80, 81, 82, 83, 84, 85, 86, 87, 88, 89, 90, 91, 92, 93, 94, 95, 96, 97, 98, 99, 100, 101, 102, 103, 104, 105, 106, 107, 108, 109, 110, 111] rfl (by decide +kernel)
set_option maxRecDepth 20000 in
theorem gX12_loose_X12_hourGoes : GoodIn wsX12_loose (wsV RX12 188 RX12 yX12_hourGoes wsX12_hourGoes) := goodIn_app (goodIn_r _ [22, 23, 24, 5] rfl (by decide +kernel)) ggX12_loose_X12_hourGoes
theorem dX12_loose_0 : decode cX12_loose 0 = .ok (.iload_n 1, 1) := by decide +kernel
theorem dX12_loose_1 : decode cX12_loose 1 = .ok (.i2l, 1) := by decide +kernel
theorem dX12_loose_2 : decode cX12_loose 2 = .ok (.lconst 1, 1) := by decide +kernel
theorem dX12_loose_3 : decode cX12_loose 3 = .ok (.ldc2_w 243, 3) := by decide +kernel
theorem dX12_loose_6 : decode cX12_loose 6 = .ok (.invokestatic 50, 3) := by decide +kernel
theorem dX12_loose_9 : decode cX12_loose 9 = .ok (.ifCond .ne 9, 3) := by decide +kernel
theorem dX12_loose_12 : decode cX12_loose 12 = .ok (.aload_n 0, 1) := by decide +kernel
theorem dX12_loose_13 : decode cX12_loose 13 = .ok (.iconst 1, 1) := by decide +kernel
theorem dX12_loose_14 : decode cX12_loose 14 = .ok (.invokevirtual 131, 3) := by decide +kernel
theorem dX12_loose_17 : decode cX12_loose 17 = .ok (.ireturn, 1) := by decide +kernel
theorem dX12_loose_18 : decode cX12_loose 18 = .ok (.aload_n 0, 1) := by decide +kernel
theorem dX12_loose_19 : decode cX12_loose 19 = .ok (.iload_n 1, 1) := by decide +kernel
theorem dX12_loose_20 : decode cX12_loose 20 = .ok (.invokevirtual 236, 3) := by decide +kernel
theorem dX12_loose_23 : decode cX12_loose 23 = .ok (.ifCond .eq 9, 3) := by decide +kernel
theorem dX12_loose_26 : decode cX12_loose 26 = .ok (.aload_n 0, 1) := by decide +kernel
theorem dX12_loose_27 : decode cX12_loose 27 = .ok (.iconst 3, 1) := by decide +kernel
theorem dX12_loose_28 : decode cX12_loose 28 = .ok (.invokevirtual 131, 3) := by decide +kernel
theorem dX12_loose_31 : decode cX12_loose 31 = .ok (.ireturn, 1) := by decide +kernel
theorem dX12_loose_32 : decode cX12_loose 32 = .ok (.iconst 0, 1) := by decide +kernel
theorem dX12_loose_33 : decode cX12_loose 33 = .ok (.istore_n 2, 1) := by decide +kernel
theorem dX12_loose_34 : decode cX12_loose 34 = .ok (.iload_n 2, 1) := by decide +kernel
theorem dX12_loose_35 : decode cX12_loose 35 = .ok (.iload_n 1, 1) := by decide +kernel
theorem dX12_loose_36 : decode cX12_loose 36 = .ok (.if_icmp .ge 55, 3) := by decide +kernel
theorem dX12_loose_39 : decode cX12_loose 39 = .ok (.aload_n 0, 1) := by decide +kernel
theorem dX12_loose_40 : decode cX12_loose 40 = .ok (.getfield 7, 3) := by decide +kernel
theorem dX12_loose_43 : decode cX12_loose 43 = .ok (.iconst 1, 1) := by decide +kernel
theorem dX12_loose_44 : decode cX12_loose 44 = .ok (.iaload, 1) := by decide +kernel
theorem dX12_loose_45 : decode cX12_loose 45 = .ok (.bipush 6, 2) := by decide +kernel
theorem dX12_loose_47 : decode cX12_loose 47 = .ok (.irem, 1) := by decide +kernel
theorem dX12_loose_48 : decode cX12_loose 48 = .ok (.istore_n 3, 1) := by decide +kernel
theorem dX12_loose_49 : decode cX12_loose 49 = .ok (.aload_n 0, 1) := by decide +kernel
theorem dX12_loose_50 : decode cX12_loose 50 = .ok (.getfield 7, 3) := by decide +kernel
theorem dX12_loose_53 : decode cX12_loose 53 = .ok (.bipush 18, 2) := by decide +kernel
theorem dX12_loose_55 : decode cX12_loose 55 = .ok (.iload_n 3, 1) := by decide +kernel
theorem dX12_loose_56 : decode cX12_loose 56 = .ok (.iadd, 1) := by decide +kernel
theorem dX12_loose_57 : decode cX12_loose 57 = .ok (.aload_n 0, 1) := by decide +kernel
theorem dX12_loose_58 : decode cX12_loose 58 = .ok (.invokevirtual 245, 3) := by decide +kernel
theorem dX12_loose_61 : decode cX12_loose 61 = .ok (.bipush 8, 2) := by decide +kernel
theorem dX12_loose_63 : decode cX12_loose 63 = .ok (.irem, 1) := by decide +kernel
theorem dX12_loose_64 : decode cX12_loose 64 = .ok (.iastore, 1) := by decide +kernel
theorem dX12_loose_65 : decode cX12_loose 65 = .ok (.aload_n 0, 1) := by decide +kernel
theorem dX12_loose_66 : decode cX12_loose 66 = .ok (.getfield 7, 3) := by decide +kernel
theorem dX12_loose_69 : decode cX12_loose 69 = .ok (.bipush 24, 2) := by decide +kernel
theorem dX12_loose_71 : decode cX12_loose 71 = .ok (.iload_n 3, 1) := by decide +kernel
theorem dX12_loose_72 : decode cX12_loose 72 = .ok (.iadd, 1) := by decide +kernel
theorem dX12_loose_73 : decode cX12_loose 73 = .ok (.aload_n 0, 1) := by decide +kernel
theorem dX12_loose_74 : decode cX12_loose 74 = .ok (.invokevirtual 245, 3) := by decide +kernel
theorem dX12_loose_77 : decode cX12_loose 77 = .ok (.bipush 12, 2) := by decide +kernel
theorem dX12_loose_79 : decode cX12_loose 79 = .ok (.irem, 1) := by decide +kernel
theorem dX12_loose_80 : decode cX12_loose 80 = .ok (.iastore, 1) := by decide +kernel
theorem dX12_loose_81 : decode cX12_loose 81 = .ok (.aload_n 0, 1) := by decide +kernel
theorem dX12_loose_82 : decode cX12_loose 82 = .ok (.invokevirtual 188, 3) := by decide +kernel
theorem dX12_loose_85 : decode cX12_loose 85 = .ok (.iinc 2 1, 3) := by decide +kernel
theorem dX12_loose_88 : decode cX12_loose 88 = .ok (.goto (-54), 3) := by decide +kernel
theorem dX12_loose_91 : decode cX12_loose 91 = .ok (.aload_n 0, 1) := by decide +kernel
theorem dX12_loose_92 : decode cX12_loose 92 = .ok (.getfield 7, 3) := by decide +kernel
theorem dX12_loose_95 : decode cX12_loose 95 = .ok (.iconst 2, 1) := by decide +kernel
theorem dX12_loose_96 : decode cX12_loose 96 = .ok (.iaload, 1) := by decide +kernel
theorem dX12_loose_97 : decode cX12_loose 97 = .ok (.ireturn, 1) := by decide +kernel
set_option maxRecDepth 20000 in
theorem ggX12_seed_X12_becomes : GoodIn wsX12_seed wsX12_becomes := goodIn_r _ [5, 6, 7, 8, 9, 10, 11, 12, 13, 14, 15, 16, 17, 18, 19, 20, 21, 22, 23, 24, 25, 26, 27, 28, 29] rfl (by decide +kernel)
set_option maxRecDepth 20000 in
theorem gX12_seed_X12_becomes : GoodIn wsX12_seed (wsV RX12 196 RX12 yX12_becomes wsX12_becomes) := goodIn_app (goodIn_r _ [1, 2, 3, 4] rfl (by decide +kernel)) ggX12_seed_X12_becomes
theorem dX12_seed_0 : decode cX12_seed 0 = .ok (.aload_n 0, 1) := by decide +kernel
theorem dX12_seed_1 : decode cX12_seed 1 = .ok (.iconst 3, 1) := by decide +kernel
theorem dX12_seed_2 : decode cX12_seed 2 = .ok (.iload_n 1, 1) := by decide +kernel
theorem dX12_seed_3 : decode cX12_seed 3 = .ok (.invokevirtual 196, 3) := by decide +kernel
theorem dX12_seed_6 : decode cX12_seed 6 = .ok (.ireturn, 1) := by decide +kernel
set_option maxRecDepth 20000 in
theorem ggX12_isAhead_X12_in : GoodIn wsX12_isAhead wsX12_in := goodIn_r _ [5] rfl (by decide +kernel)
set_option maxRecDepth 20000 in
theorem gX12_isAhead_X12_in : GoodIn wsX12_isAhead (va_wsS RX12 50 yX12_in wsX12_in) := goodIn_app (goodIn_r _ [2, 3, 4] rfl (by decide +kernel)) ggX12_isAhead_X12_in
theorem dX12_isAhead_0 : decode cX12_isAhead 0 = .ok (.iload_n 0, 1) := by decide +kernel
theorem dX12_isAhead_1 : decode cX12_isAhead 1 = .ok (.i2l, 1) := by decide +kernel
theorem dX12_isAhead_2 : decode cX12_isAhead 2 = .ok (.lconst 0, 1) := by decide +kernel
theorem dX12_isAhead_3 : decode cX12_isAhead 3 = .ok (.ldc2_w 234, 3) := by decide +kernel
theorem dX12_isAhead_6 : decode cX12_isAhead 6 = .ok (.invokestatic 50, 3) := by decide +kernel
theorem dX12_isAhead_9 : decode cX12_isAhead 9 = .ok (.ireturn, 1) := by decide +kernel
set_option maxRecDepth 20000 in
theorem ggX12_then_X12_isAhead : GoodIn wsX12_then wsX12_isAhead := goodIn_r _ [4, 5, 6, 7, 3, 8] rfl (by decide +kernel)
set_option maxRecDepth 20000 in
theorem gX12_then_X12_isAhead : GoodIn wsX12_then (va_wsS RX12 248 yX12_isAhead wsX12_isAhead) := goodIn_app (goodIn_r _ [1, 2, 3] rfl (by decide +kernel)) ggX12_then_X12_isAhead
set_option maxRecDepth 20000 in
theorem ggX12_then_X12_isSpoon : GoodIn wsX12_then wsX12_isSpoon := goodIn_r _ [12, 13, 6, 7, 3, 8, 96, 97, 98, 99, 100, 101, 102, 103, 104, 105, 106, 107, 108, 109, 110, 111, 112, 113, 114, 115, 116, 117, 118] rfl (by decide +kernel)
set_option maxRecDepth 20000 in
theorem gX12_then_X12_isSpoon : GoodIn wsX12_then (wsV RX12 178 RX12 yX12_isSpoon wsX12_isSpoon) := goodIn_app (goodIn_r _ [9, 10, 11, 3] rfl (by decide +kernel)) ggX12_then_X12_isSpoon
set_option maxRecDepth 20000 in
theorem ggX12_then_X12_in : GoodIn wsX12_then wsX12_in := goodIn_r _ [8] rfl (by decide +kernel)
set_option maxRecDepth 20000 in
theorem gX12_then_X12_in : GoodIn wsX12_then (va_wsS RX12 50 yX12_in wsX12_in) := goodIn_app (goodIn_r _ [6, 7, 3] rfl (by decide +kernel)) ggX12_then_X12_in
set_option maxRecDepth 20000 in
theorem ggX12_then_X12_finds : GoodIn wsX12_then wsX12_finds := goodIn_r _ [17, 18, 19, 96, 97, 98, 99, 100, 101, 102, 103, 104, 105, 106, 107, 108, 109, 110, 111, 112, 113, 114, 115, 116, 117, 118] rfl (by decide +kernel)
set_option maxRecDepth 20000 in
theorem gX12_then_X12_finds : GoodIn wsX12_then (wsV RX12 131 RX12 yX12_finds wsX12_finds) := goodIn_app (goodIn_r _ [14, 15, 16, 3] rfl (by decide +kernel)) ggX12_then_X12_finds
set_option maxRecDepth 20000 in
theorem ggX12_then_X12_keepAside : GoodIn wsX12_then wsX12_keepAside := goodIn_r _ [23, 24, 13, 96, 97, 98, 99, 100, 101, 102, 103, 104, 105, 106, 107, 108, 109, 110, 111, 112, 113, 114, 115, 116, 117, 118] rfl (by decide +kernel)
set_option maxRecDepth 20000 in
theorem gX12_then_X12_keepAside : GoodIn wsX12_then (wsV RX12 251 RX12 yX12_keepAside wsX12_keepAside) := goodIn_app (goodIn_r _ [20, 21, 22, 3] rfl (by decide +kernel)) ggX12_then_X12_keepAside
set_option maxRecDepth 20000 in
theorem ggX12_then_X12_hoursGo : GoodIn wsX12_then wsX12_hoursGo := goodIn_r _ [28, 29, 30, 31, 3, 32, 13, 9, 10, 11, 12, 6, 7, 8, 33, 34, 35, 36, 37, 38, 39, 40, 41, 42, 43, 44, 45, 46, 47, 48, 49, 50, 51, 52, 53, 54, 55, 56, 57, 58, 59, 60, 61, 62, 63, 64, 65, 66, 67, 68, 69, 70, 71, 72, 73, 74, 75, 76, 77, 78, 79, 80, 81, 82, 83, 84, 85, 86, 87, 88, 89, 90, 91, 96, 97, 98, 99, 100, 101, 102, 103, 104, 105, 106, 107, 108, 109, 110, 111, 112, 113, 114, 115, 116, 117, 118] rfl (by decide +kernel)
set_option maxRecDepth 20000 in
theorem gX12_then_X12_hoursGo : GoodIn wsX12_then (wsV RX12 239 RX12 yX12_hoursGo wsX12_hoursGo) := goodIn_app (goodIn_r _ [25, 26, 27, 3] rfl (by decide +kernel)) ggX12_then_X12_hoursGo
set_option maxRecDepth 20000 in
theorem ggX12_then_X12_of : GoodIn wsX12_then wsX12_of := goodIn_r _ [40, 13, 96, 97, 98, 99, 100, 101, 102, 103, 104, 105, 106, 107, 108, 109, 110, 111, 112, 113, 114, 115, 116, 117, 118] rfl (by decide +kernel)
set_option maxRecDepth 20000 in
theorem gX12_then_X12_of : GoodIn wsX12_then (wsV RX12 151 RX12 yX12_of wsX12_of) := goodIn_app (goodIn_r _ [37, 38, 39, 3] rfl (by decide +kernel)) ggX12_then_X12_of
set_option maxRecDepth 20000 in
theorem ggX12_then_X12_on : GoodIn wsX12_then wsX12_on := goodIn_r _ [76, 37, 38, 39, 3, 40, 13, 96, 97, 98, 99, 100, 101, 102, 103, 104, 105, 106, 107, 108, 109, 110, 111, 112, 113, 114, 115, 116, 117, 118] rfl (by decide +kernel)
set_option maxRecDepth 20000 in
theorem gX12_then_X12_on : GoodIn wsX12_then (wsV RX12 154 RX12 yX12_on wsX12_on) := goodIn_app (goodIn_r _ [73, 74, 75, 3] rfl (by decide +kernel)) ggX12_then_X12_on
set_option maxRecDepth 20000 in
theorem ggX12_then_X12_putBack : GoodIn wsX12_then wsX12_putBack := goodIn_r _ [95, 13, 24, 96, 97, 98, 99, 100, 101, 102, 103, 104, 105, 106, 107, 108, 109, 110, 111, 112, 113, 114, 115, 116, 117, 118] rfl (by decide +kernel)
set_option maxRecDepth 20000 in
theorem gX12_then_X12_putBack : GoodIn wsX12_then (wsV RX12 254 RX12 yX12_putBack wsX12_putBack) := goodIn_app (goodIn_r _ [92, 93, 94, 3] rfl (by decide +kernel)) ggX12_then_X12_putBack
theorem dX12_then_0 : decode cX12_then 0 = .ok (.iload_n 1, 1) := by decide +kernel
theorem dX12_then_1 : decode cX12_then 1 = .ok (.invokestatic 248, 3) := by decide +kernel
theorem dX12_then_4 : decode cX12_then 4 = .ok (.ifCond .eq 21, 3) := by decide +kernel
theorem dX12_then_7 : decode cX12_then 7 = .ok (.aload_n 0, 1) := by decide +kernel
theorem dX12_then_8 : decode cX12_then 8 = .ok (.iload_n 2, 1) := by decide +kernel
theorem dX12_then_9 : decode cX12_then 9 = .ok (.invokevirtual 178, 3) := by decide +kernel
theorem dX12_then_12 : decode cX12_then 12 = .ok (.ifCond .eq 13, 3) := by decide +kernel
theorem dX12_then_15 : decode cX12_then 15 = .ok (.iload_n 3, 1) := by decide +kernel
theorem dX12_then_16 : decode cX12_then 16 = .ok (.i2l, 1) := by decide +kernel
theorem dX12_then_17 : decode cX12_then 17 = .ok (.lconst 0, 1) := by decide +kernel
theorem dX12_then_18 : decode cX12_then 18 = .ok (.lconst 1, 1) := by decide +kernel
theorem dX12_then_19 : decode cX12_then 19 = .ok (.invokestatic 50, 3) := by decide +kernel
theorem dX12_then_22 : decode cX12_then 22 = .ok (.ifCond .ne 9, 3) := by decide +kernel
theorem dX12_then_25 : decode cX12_then 25 = .ok (.aload_n 0, 1) := by decide +kernel
theorem dX12_then_26 : decode cX12_then 26 = .ok (.iconst 1, 1) := by decide +kernel
theorem dX12_then_27 : decode cX12_then 27 = .ok (.invokevirtual 131, 3) := by decide +kernel
theorem dX12_then_30 : decode cX12_then 30 = .ok (.ireturn, 1) := by decide +kernel
theorem dX12_then_31 : decode cX12_then 31 = .ok (.aload_n 0, 1) := by decide +kernel
theorem dX12_then_32 : decode cX12_then 32 = .ok (.invokevirtual 251, 3) := by decide +kernel
theorem dX12_then_35 : decode cX12_then 35 = .ok (.aload_n 0, 1) := by decide +kernel
theorem dX12_then_36 : decode cX12_then 36 = .ok (.iload_n 1, 1) := by decide +kernel
theorem dX12_then_37 : decode cX12_then 37 = .ok (.invokevirtual 239, 3) := by decide +kernel
theorem dX12_then_40 : decode cX12_then 40 = .ok (.iload_n 3, 1) := by decide +kernel
theorem dX12_then_41 : decode cX12_then 41 = .ok (.ifCond .ne 12, 3) := by decide +kernel
theorem dX12_then_44 : decode cX12_then 44 = .ok (.aload_n 0, 1) := by decide +kernel
theorem dX12_then_45 : decode cX12_then 45 = .ok (.iload_n 2, 1) := by decide +kernel
theorem dX12_then_46 : decode cX12_then 46 = .ok (.iconst 2, 1) := by decide +kernel
theorem dX12_then_47 : decode cX12_then 47 = .ok (.invokevirtual 151, 3) := by decide +kernel
theorem dX12_then_50 : decode cX12_then 50 = .ok (.goto 8, 3) := by decide +kernel
theorem dX12_then_53 : decode cX12_then 53 = .ok (.aload_n 0, 1) := by decide +kernel
theorem dX12_then_54 : decode cX12_then 54 = .ok (.iload_n 2, 1) := by decide +kernel
theorem dX12_then_55 : decode cX12_then 55 = .ok (.invokevirtual 154, 3) := by decide +kernel
theorem dX12_then_58 : decode cX12_then 58 = .ok (.istore 4, 2) := by decide +kernel
theorem dX12_then_60 : decode cX12_then 60 = .ok (.aload_n 0, 1) := by decide +kernel
theorem dX12_then_61 : decode cX12_then 61 = .ok (.invokevirtual 254, 3) := by decide +kernel
theorem dX12_then_64 : decode cX12_then 64 = .ok (.iload 4, 2) := by decide +kernel
theorem dX12_then_66 : decode cX12_then 66 = .ok (.ireturn, 1) := by decide +kernel
set_option maxRecDepth 20000 in
theorem ggX12_spreadsBehind_X12_hoursGo : GoodIn wsX12_spreadsBehind wsX12_hoursGo := goodIn_r _ [6, 7, 8, 9, 5, 10, 1, 11, 12, 13, 14, 15, 16, 17, 18, 19, 20, 21, 22, 23, 24, 25, 26, 27, 28, 29, 30, 31, 32, 33, 34, 35, 36, 37, 38, 39, 40, 41, 42, 43, 44, 45, 46, 47, 48, 49, 50, 51, 52, 53, 54, 55, 56, 57, 58, 59, 60, 61, 62, 63, 64, 65, 66, 67, 68, 69, 70, 71, 72, 73, 74, 75, 76, 82, 83, 84, 85, 86, 87, 88, 89, 90, 91, 92, 93, 94, 95, 96, 97, 98, 99, 100, 101, 102, 103, 104] rfl (by decide +kernel)
set_option maxRecDepth 20000 in
theorem gX12_spreadsBehind_X12_hoursGo : GoodIn wsX12_spreadsBehind (wsV RX12 239 RX12 yX12_hoursGo wsX12_hoursGo) := goodIn_app (goodIn_r _ [2, 3, 4, 5] rfl (by decide +kernel)) ggX12_spreadsBehind_X12_hoursGo
set_option maxRecDepth 20000 in
theorem ggX12_spreadsBehind_X12_ones : GoodIn wsX12_spreadsBehind wsX12_ones := goodIn_r _ [72] rfl (by decide +kernel)
set_option maxRecDepth 20000 in
theorem gX12_spreadsBehind_X12_ones : GoodIn wsX12_spreadsBehind (va_wsS RX12 157 yX12_ones wsX12_ones) := goodIn_app (goodIn_r _ [70, 71, 5] rfl (by decide +kernel)) ggX12_spreadsBehind_X12_ones
set_option maxRecDepth 20000 in
theorem ggX12_spreadsBehind_X12_putBack : GoodIn wsX12_spreadsBehind wsX12_putBack := goodIn_r _ [80, 1, 81, 82, 83, 84, 85, 86, 87, 88, 89, 90, 91, 92, 93, 94, 95, 96, 97, 98, 99, 100, 101, 102, 103, 104] rfl (by decide +kernel)
set_option maxRecDepth 20000 in
theorem gX12_spreadsBehind_X12_putBack : GoodIn wsX12_spreadsBehind (wsV RX12 254 RX12 yX12_putBack wsX12_putBack) := goodIn_app (goodIn_r _ [77, 78, 79, 5] rfl (by decide +kernel)) ggX12_spreadsBehind_X12_putBack
theorem dX12_spreadsBehind_0 : decode cX12_spreadsBehind 0 = .ok (.aload_n 0, 1) := by decide +kernel
theorem dX12_spreadsBehind_1 : decode cX12_spreadsBehind 1 = .ok (.iload_n 1, 1) := by decide +kernel
theorem dX12_spreadsBehind_2 : decode cX12_spreadsBehind 2 = .ok (.invokevirtual 239, 3) := by decide +kernel
theorem dX12_spreadsBehind_5 : decode cX12_spreadsBehind 5 = .ok (.aload_n 0, 1) := by decide +kernel
theorem dX12_spreadsBehind_6 : decode cX12_spreadsBehind 6 = .ok (.getfield 7, 3) := by decide +kernel
theorem dX12_spreadsBehind_9 : decode cX12_spreadsBehind 9 = .ok (.iconst 2, 1) := by decide +kernel
theorem dX12_spreadsBehind_10 : decode cX12_spreadsBehind 10 = .ok (.iaload, 1) := by decide +kernel
theorem dX12_spreadsBehind_11 : decode cX12_spreadsBehind 11 = .ok (.invokestatic 157, 3) := by decide +kernel
theorem dX12_spreadsBehind_14 : decode cX12_spreadsBehind 14 = .ok (.istore_n 2, 1) := by decide +kernel
theorem dX12_spreadsBehind_15 : decode cX12_spreadsBehind 15 = .ok (.aload_n 0, 1) := by decide +kernel
theorem dX12_spreadsBehind_16 : decode cX12_spreadsBehind 16 = .ok (.invokevirtual 254, 3) := by decide +kernel
theorem dX12_spreadsBehind_19 : decode cX12_spreadsBehind 19 = .ok (.iload_n 2, 1) := by decide +kernel
theorem dX12_spreadsBehind_20 : decode cX12_spreadsBehind 20 = .ok (.ireturn, 1) := by decide +kernel
set_option maxRecDepth 20000 in
theorem ggX12_spreads_X12_isAhead : GoodIn wsX12_spreads wsX12_isAhead := goodIn_r _ [4, 5, 6, 7, 3, 8] rfl (by decide +kernel)
set_option maxRecDepth 20000 in
theorem gX12_spreads_X12_isAhead : GoodIn wsX12_spreads (va_wsS RX12 248 yX12_isAhead wsX12_isAhead) := goodIn_app (goodIn_r _ [1, 2, 3] rfl (by decide +kernel)) ggX12_spreads_X12_isAhead
set_option maxRecDepth 20000 in
theorem ggX12_spreads_X12_finds : GoodIn wsX12_spreads wsX12_finds := goodIn_r _ [12, 13, 14, 100, 101, 102, 103, 104, 105, 106, 107, 108, 109, 110, 111, 112, 113, 114, 115, 116, 117, 118, 119, 120, 121, 122] rfl (by decide +kernel)
set_option maxRecDepth 20000 in
theorem gX12_spreads_X12_finds : GoodIn wsX12_spreads (wsV RX12 131 RX12 yX12_finds wsX12_finds) := goodIn_app (goodIn_r _ [9, 10, 11, 3] rfl (by decide +kernel)) ggX12_spreads_X12_finds
set_option maxRecDepth 20000 in
theorem ggX12_spreads_X12_keepAside : GoodIn wsX12_spreads wsX12_keepAside := goodIn_r _ [18, 19, 20, 100, 101, 102, 103, 104, 105, 106, 107, 108, 109, 110, 111, 112, 113, 114, 115, 116, 117, 118, 119, 120, 121, 122] rfl (by decide +kernel)
set_option maxRecDepth 20000 in
theorem gX12_spreads_X12_keepAside : GoodIn wsX12_spreads (wsV RX12 251 RX12 yX12_keepAside wsX12_keepAside) := goodIn_app (goodIn_r _ [15, 16, 17, 3] rfl (by decide +kernel)) ggX12_spreads_X12_keepAside
set_option maxRecDepth 20000 in
theorem ggX12_spreads_X12_spreadsBehind : GoodIn wsX12_spreads wsX12_spreadsBehind := goodIn_r _ [24, 20, 25, 26, 27, 3, 28, 29, 30, 31, 32, 33, 34, 35, 36, 6, 7, 8, 37, 38, 39, 40, 41, 42, 43, 44, 45, 46, 47, 48, 49, 50, 51, 52, 53, 54, 55, 56, 57, 58, 59, 60, 61, 62, 63, 64, 65, 66, 67, 68, 69, 70, 71, 72, 73, 74, 75, 76, 77, 78, 79, 80, 81, 82, 83, 84, 85, 86, 87, 88, 89, 90, 91, 92, 93, 94, 95, 96, 97, 98, 99, 19, 100, 101, 102, 103, 104, 105, 106, 107, 108, 109, 110, 111, 112, 113, 114, 115, 116, 117, 118, 119, 120, 121, 122] rfl (by decide +kernel)
set_option maxRecDepth 20000 in
theorem gX12_spreads_X12_spreadsBehind : GoodIn wsX12_spreads (wsV RX12 257 RX12 yX12_spreadsBehind wsX12_spreadsBehind) := goodIn_app (goodIn_r _ [21, 22, 23, 3] rfl (by decide +kernel)) ggX12_spreads_X12_spreadsBehind
theorem dX12_spreads_0 : decode cX12_spreads 0 = .ok (.iload_n 1, 1) := by decide +kernel
theorem dX12_spreads_1 : decode cX12_spreads 1 = .ok (.invokestatic 248, 3) := by decide +kernel
theorem dX12_spreads_4 : decode cX12_spreads 4 = .ok (.ifCond .ne 9, 3) := by decide +kernel
theorem dX12_spreads_7 : decode cX12_spreads 7 = .ok (.aload_n 0, 1) := by decide +kernel
theorem dX12_spreads_8 : decode cX12_spreads 8 = .ok (.iconst 1, 1) := by decide +kernel
theorem dX12_spreads_9 : decode cX12_spreads 9 = .ok (.invokevirtual 131, 3) := by decide +kernel
theorem dX12_spreads_12 : decode cX12_spreads 12 = .ok (.ireturn, 1) := by decide +kernel
theorem dX12_spreads_13 : decode cX12_spreads 13 = .ok (.aload_n 0, 1) := by decide +kernel
theorem dX12_spreads_14 : decode cX12_spreads 14 = .ok (.invokevirtual 251, 3) := by decide +kernel
theorem dX12_spreads_17 : decode cX12_spreads 17 = .ok (.aload_n 0, 1) := by decide +kernel
theorem dX12_spreads_18 : decode cX12_spreads 18 = .ok (.iload_n 1, 1) := by decide +kernel
theorem dX12_spreads_19 : decode cX12_spreads 19 = .ok (.invokevirtual 257, 3) := by decide +kernel
theorem dX12_spreads_22 : decode cX12_spreads 22 = .ok (.ireturn, 1) := by decide +kernel
set_option maxRecDepth 20000 in
theorem ggX12_when_X12_isWord : GoodIn wsX12_when wsX12_isWord := goodIn_r _ [5, 6, 7, 8, 4, 9] rfl (by decide +kernel)
set_option maxRecDepth 20000 in
theorem gX12_when_X12_isWord : GoodIn wsX12_when (va_wsS RX12 191 yX12_isWord wsX12_isWord) := goodIn_app (goodIn_r _ [2, 3, 4] rfl (by decide +kernel)) ggX12_when_X12_isWord
set_option maxRecDepth 20000 in
theorem ggX12_when_X12_finds : GoodIn wsX12_when wsX12_finds := goodIn_r _ [13, 14, 15, 92, 93, 94, 95, 96, 97, 98, 99, 100, 101, 102, 103, 104, 105, 106, 107, 108, 109, 110, 111, 112, 113, 114] rfl (by decide +kernel)
set_option maxRecDepth 20000 in
theorem gX12_when_X12_finds : GoodIn wsX12_when (wsV RX12 131 RX12 yX12_finds wsX12_finds) := goodIn_app (goodIn_r _ [10, 11, 12, 4] rfl (by decide +kernel)) ggX12_when_X12_finds
set_option maxRecDepth 20000 in
theorem ggX12_when_X12_keepAside : GoodIn wsX12_when wsX12_keepAside := goodIn_r _ [19, 20, 1, 92, 93, 94, 95, 96, 97, 98, 99, 100, 101, 102, 103, 104, 105, 106, 107, 108, 109, 110, 111, 112, 113, 114] rfl (by decide +kernel)
set_option maxRecDepth 20000 in
theorem gX12_when_X12_keepAside : GoodIn wsX12_when (wsV RX12 251 RX12 yX12_keepAside wsX12_keepAside) := goodIn_app (goodIn_r _ [16, 17, 18, 4] rfl (by decide +kernel)) ggX12_when_X12_keepAside
set_option maxRecDepth 20000 in
theorem ggX12_when_X12_hourGoes : GoodIn wsX12_when wsX12_hourGoes := goodIn_r _ [24, 1, 25, 26, 27, 4, 28, 7, 8, 9, 29, 30, 31, 32, 33, 34, 35, 36, 37, 38, 39, 40, 41, 42, 43, 44, 45, 46, 47, 48, 49, 50, 51, 52, 53, 54, 55, 56, 57, 58, 59, 60, 61, 62, 63, 64, 65, 66, 67, 68, 69, 70, 71, 72, 73, 74, 75, 76, 77, 78, 79, 80, 81, 82, 83, 84, 85, 86, 87, 92, 93, 94, 95, 96, 97, 98, 99, 100, 101, 102, 103, 104, 105, 106, 107, 108, 109, 110, 111, 112, 113, 114] rfl (by decide +kernel)
set_option maxRecDepth 20000 in
theorem gX12_when_X12_hourGoes : GoodIn wsX12_when (wsV RX12 188 RX12 yX12_hourGoes wsX12_hourGoes) := goodIn_app (goodIn_r _ [21, 22, 23, 4] rfl (by decide +kernel)) ggX12_when_X12_hourGoes
set_option maxRecDepth 20000 in
theorem ggX12_when_X12_putBack : GoodIn wsX12_when wsX12_putBack := goodIn_r _ [91, 1, 20, 92, 93, 94, 95, 96, 97, 98, 99, 100, 101, 102, 103, 104, 105, 106, 107, 108, 109, 110, 111, 112, 113, 114] rfl (by decide +kernel)
set_option maxRecDepth 20000 in
theorem gX12_when_X12_putBack : GoodIn wsX12_when (wsV RX12 254 RX12 yX12_putBack wsX12_putBack) := goodIn_app (goodIn_r _ [88, 89, 90, 4] rfl (by decide +kernel)) ggX12_when_X12_putBack
theorem dX12_when_0 : decode cX12_when 0 = .ok (.iload_n 1, 1) := by decide +kernel
theorem dX12_when_1 : decode cX12_when 1 = .ok (.invokestatic 191, 3) := by decide +kernel
theorem dX12_when_4 : decode cX12_when 4 = .ok (.ifCond .ne 9, 3) := by decide +kernel
theorem dX12_when_7 : decode cX12_when 7 = .ok (.aload_n 0, 1) := by decide +kernel
theorem dX12_when_8 : decode cX12_when 8 = .ok (.iconst 1, 1) := by decide +kernel
theorem dX12_when_9 : decode cX12_when 9 = .ok (.invokevirtual 131, 3) := by decide +kernel
theorem dX12_when_12 : decode cX12_when 12 = .ok (.ireturn, 1) := by decide +kernel
theorem dX12_when_13 : decode cX12_when 13 = .ok (.aload_n 0, 1) := by decide +kernel
theorem dX12_when_14 : decode cX12_when 14 = .ok (.invokevirtual 251, 3) := by decide +kernel
theorem dX12_when_17 : decode cX12_when 17 = .ok (.iconst 0, 1) := by decide +kernel
theorem dX12_when_18 : decode cX12_when 18 = .ok (.istore_n 2, 1) := by decide +kernel
theorem dX12_when_19 : decode cX12_when 19 = .ok (.iload_n 2, 1) := by decide +kernel
theorem dX12_when_20 : decode cX12_when 20 = .ok (.bipush 60, 2) := by decide +kernel
theorem dX12_when_22 : decode cX12_when 22 = .ok (.if_icmp .ge 26, 3) := by decide +kernel
theorem dX12_when_25 : decode cX12_when 25 = .ok (.aload_n 0, 1) := by decide +kernel
theorem dX12_when_26 : decode cX12_when 26 = .ok (.getfield 7, 3) := by decide +kernel
theorem dX12_when_29 : decode cX12_when 29 = .ok (.iconst 2, 1) := by decide +kernel
theorem dX12_when_30 : decode cX12_when 30 = .ok (.iaload, 1) := by decide +kernel
theorem dX12_when_31 : decode cX12_when 31 = .ok (.iload_n 1, 1) := by decide +kernel
theorem dX12_when_32 : decode cX12_when 32 = .ok (.ishr, 1) := by decide +kernel
theorem dX12_when_33 : decode cX12_when 33 = .ok (.iconst 1, 1) := by decide +kernel
theorem dX12_when_34 : decode cX12_when 34 = .ok (.iand, 1) := by decide +kernel
theorem dX12_when_35 : decode cX12_when 35 = .ok (.ifCond .ne 13, 3) := by decide +kernel
theorem dX12_when_38 : decode cX12_when 38 = .ok (.aload_n 0, 1) := by decide +kernel
theorem dX12_when_39 : decode cX12_when 39 = .ok (.invokevirtual 188, 3) := by decide +kernel
theorem dX12_when_42 : decode cX12_when 42 = .ok (.iinc 2 1, 3) := by decide +kernel
theorem dX12_when_45 : decode cX12_when 45 = .ok (.goto (-26), 3) := by decide +kernel
theorem dX12_when_48 : decode cX12_when 48 = .ok (.aload_n 0, 1) := by decide +kernel
theorem dX12_when_49 : decode cX12_when 49 = .ok (.getfield 7, 3) := by decide +kernel
theorem dX12_when_52 : decode cX12_when 52 = .ok (.iconst 2, 1) := by decide +kernel
theorem dX12_when_53 : decode cX12_when 53 = .ok (.iaload, 1) := by decide +kernel
theorem dX12_when_54 : decode cX12_when 54 = .ok (.iload_n 1, 1) := by decide +kernel
theorem dX12_when_55 : decode cX12_when 55 = .ok (.ishr, 1) := by decide +kernel
theorem dX12_when_56 : decode cX12_when 56 = .ok (.iconst 1, 1) := by decide +kernel
theorem dX12_when_57 : decode cX12_when 57 = .ok (.iand, 1) := by decide +kernel
theorem dX12_when_58 : decode cX12_when 58 = .ok (.iconst 1, 1) := by decide +kernel
theorem dX12_when_59 : decode cX12_when 59 = .ok (.if_icmp .ne 7, 3) := by decide +kernel
theorem dX12_when_62 : decode cX12_when 62 = .ok (.iconst 1, 1) := by decide +kernel
theorem dX12_when_63 : decode cX12_when 63 = .ok (.goto 4, 3) := by decide +kernel
theorem dX12_when_66 : decode cX12_when 66 = .ok (.iconst 0, 1) := by decide +kernel
theorem dX12_when_67 : decode cX12_when 67 = .ok (.istore_n 3, 1) := by decide +kernel
theorem dX12_when_68 : decode cX12_when 68 = .ok (.aload_n 0, 1) := by decide +kernel
theorem dX12_when_69 : decode cX12_when 69 = .ok (.invokevirtual 254, 3) := by decide +kernel
theorem dX12_when_72 : decode cX12_when 72 = .ok (.iload_n 3, 1) := by decide +kernel
theorem dX12_when_73 : decode cX12_when 73 = .ok (.ifCond .eq 7, 3) := by decide +kernel
theorem dX12_when_76 : decode cX12_when 76 = .ok (.iload_n 2, 1) := by decide +kernel
theorem dX12_when_77 : decode cX12_when 77 = .ok (.goto 8, 3) := by decide +kernel
theorem dX12_when_80 : decode cX12_when 80 = .ok (.aload_n 0, 1) := by decide +kernel
theorem dX12_when_81 : decode cX12_when 81 = .ok (.iconst 2, 1) := by decide +kernel
theorem dX12_when_82 : decode cX12_when 82 = .ok (.invokevirtual 131, 3) := by decide +kernel
theorem dX12_when_85 : decode cX12_when 85 = .ok (.ireturn, 1) := by decide +kernel
set_option maxRecDepth 20000 in
theorem ggX12_lasts_X12_isSpoon : GoodIn wsX12_lasts wsX12_isSpoon := goodIn_r _ [5, 6, 7, 8, 4, 9, 88, 89, 90, 91, 92, 93, 94, 95, 96, 97, 98, 99, 100, 101, 102, 103, 104, 105, 106, 107, 108, 109, 110] rfl (by decide +kernel)
set_option maxRecDepth 20000 in
theorem gX12_lasts_X12_isSpoon : GoodIn wsX12_lasts (wsV RX12 178 RX12 yX12_isSpoon wsX12_isSpoon) := goodIn_app (goodIn_r _ [1, 2, 3, 4] rfl (by decide +kernel)) ggX12_lasts_X12_isSpoon
set_option maxRecDepth 20000 in
theorem ggX12_lasts_X12_finds : GoodIn wsX12_lasts wsX12_finds := goodIn_r _ [13, 14, 15, 88, 89, 90, 91, 92, 93, 94, 95, 96, 97, 98, 99, 100, 101, 102, 103, 104, 105, 106, 107, 108, 109, 110] rfl (by decide +kernel)
set_option maxRecDepth 20000 in
theorem gX12_lasts_X12_finds : GoodIn wsX12_lasts (wsV RX12 131 RX12 yX12_finds wsX12_finds) := goodIn_app (goodIn_r _ [10, 11, 12, 4] rfl (by decide +kernel)) ggX12_lasts_X12_finds
set_option maxRecDepth 20000 in
theorem ggX12_lasts_X12_keepAside : GoodIn wsX12_lasts wsX12_keepAside := goodIn_r _ [19, 20, 6, 88, 89, 90, 91, 92, 93, 94, 95, 96, 97, 98, 99, 100, 101, 102, 103, 104, 105, 106, 107, 108, 109, 110] rfl (by decide +kernel)
set_option maxRecDepth 20000 in
theorem gX12_lasts_X12_keepAside : GoodIn wsX12_lasts (wsV RX12 251 RX12 yX12_keepAside wsX12_keepAside) := goodIn_app (goodIn_r _ [16, 17, 18, 4] rfl (by decide +kernel)) ggX12_lasts_X12_keepAside
set_option maxRecDepth 20000 in
theorem ggX12_lasts_X12_isThrough : GoodIn wsX12_lasts wsX12_isThrough := goodIn_r _ [24, 25, 26, 27, 4, 28, 6, 88, 89, 90, 91, 92, 93, 94, 95, 96, 97, 98, 99, 100, 101, 102, 103, 104, 105, 106, 107, 108, 109, 110] rfl (by decide +kernel)
set_option maxRecDepth 20000 in
theorem gX12_lasts_X12_isThrough : GoodIn wsX12_lasts (wsV RX12 175 RX12 yX12_isThrough wsX12_isThrough) := goodIn_app (goodIn_r _ [21, 22, 23, 4] rfl (by decide +kernel)) ggX12_lasts_X12_isThrough
set_option maxRecDepth 20000 in
theorem ggX12_lasts_X12_hourGoes : GoodIn wsX12_lasts wsX12_hourGoes := goodIn_r _ [32, 6, 1, 2, 3, 4, 5, 7, 8, 9, 21, 22, 23, 24, 25, 26, 27, 28, 33, 34, 35, 36, 37, 38, 39, 40, 41, 42, 43, 44, 45, 46, 47, 48, 49, 50, 51, 52, 53, 54, 55, 56, 57, 58, 59, 60, 61, 62, 63, 64, 65, 66, 67, 68, 69, 70, 71, 72, 73, 74, 75, 76, 77, 78, 79, 80, 81, 82, 83, 88, 89, 90, 91, 92, 93, 94, 95, 96, 97, 98, 99, 100, 101, 102, 103, 104, 105, 106, 107, 108, 109, 110] rfl (by decide +kernel)
set_option maxRecDepth 20000 in
theorem gX12_lasts_X12_hourGoes : GoodIn wsX12_lasts (wsV RX12 188 RX12 yX12_hourGoes wsX12_hourGoes) := goodIn_app (goodIn_r _ [29, 30, 31, 4] rfl (by decide +kernel)) ggX12_lasts_X12_hourGoes
set_option maxRecDepth 20000 in
theorem ggX12_lasts_X12_putBack : GoodIn wsX12_lasts wsX12_putBack := goodIn_r _ [87, 6, 20, 88, 89, 90, 91, 92, 93, 94, 95, 96, 97, 98, 99, 100, 101, 102, 103, 104, 105, 106, 107, 108, 109, 110] rfl (by decide +kernel)
set_option maxRecDepth 20000 in
theorem gX12_lasts_X12_putBack : GoodIn wsX12_lasts (wsV RX12 254 RX12 yX12_putBack wsX12_putBack) := goodIn_app (goodIn_r _ [84, 85, 86, 4] rfl (by decide +kernel)) ggX12_lasts_X12_putBack
theorem dX12_lasts_0 : decode cX12_lasts 0 = .ok (.aload_n 0, 1) := by decide +kernel
theorem dX12_lasts_1 : decode cX12_lasts 1 = .ok (.iload_n 1, 1) := by decide +kernel
theorem dX12_lasts_2 : decode cX12_lasts 2 = .ok (.invokevirtual 178, 3) := by decide +kernel
theorem dX12_lasts_5 : decode cX12_lasts 5 = .ok (.ifCond .ne 9, 3) := by decide +kernel
theorem dX12_lasts_8 : decode cX12_lasts 8 = .ok (.aload_n 0, 1) := by decide +kernel
theorem dX12_lasts_9 : decode cX12_lasts 9 = .ok (.iconst 1, 1) := by decide +kernel
theorem dX12_lasts_10 : decode cX12_lasts 10 = .ok (.invokevirtual 131, 3) := by decide +kernel
theorem dX12_lasts_13 : decode cX12_lasts 13 = .ok (.ireturn, 1) := by decide +kernel
theorem dX12_lasts_14 : decode cX12_lasts 14 = .ok (.aload_n 0, 1) := by decide +kernel
theorem dX12_lasts_15 : decode cX12_lasts 15 = .ok (.invokevirtual 251, 3) := by decide +kernel
theorem dX12_lasts_18 : decode cX12_lasts 18 = .ok (.iconst 0, 1) := by decide +kernel
theorem dX12_lasts_19 : decode cX12_lasts 19 = .ok (.istore_n 2, 1) := by decide +kernel
theorem dX12_lasts_20 : decode cX12_lasts 20 = .ok (.iload_n 2, 1) := by decide +kernel
theorem dX12_lasts_21 : decode cX12_lasts 21 = .ok (.bipush 60, 2) := by decide +kernel
