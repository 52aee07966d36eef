set_option maxRecDepth 20000 in
theorem ggX0_init_X8_init : GoodIn wsX0_init wsX8_init := goodIn_r _ [3, 4, 5, 6] rfl (by decide +kernel)
set_option maxRecDepth 20000 in
theorem gX0_init_X8_init_n1 : GoodIn wsX0_init (wsX8_init) := ggX0_init_X8_init
theorem dX0_init_0 : decode cX0_init 0 = .ok (.aload_n 0, 1) := by decide +kernel
theorem dX0_init_1 : decode cX0_init 1 = .ok (.invokespecial 1, 3) := by decide +kernel
theorem dX0_init_4 : decode cX0_init 4 = .ok (.return_, 1) := by decide +kernel
theorem dX0_reads_0 : decode cX0_reads 0 = .ok (.iconst 5, 1) := by decide +kernel
theorem dX0_reads_1 : decode cX0_reads 1 = .ok (.ireturn, 1) := by decide +kernel
set_option maxRecDepth 20000 in
theorem ggX0_dulls_X10_begins : GoodIn wsX0_dulls wsX10_begins := goodIn_r _ [5, 6, 7, 42, 43, 44, 45] rfl (by decide +kernel)
set_option maxRecDepth 20000 in
theorem gX0_dulls_X10_begins : GoodIn wsX0_dulls (wsV RX0 7 RX10 yX10_begins wsX10_begins) := goodIn_app (goodIn_r _ [1, 2, 3, 4] rfl (by decide +kernel)) ggX0_dulls_X10_begins
set_option maxRecDepth 20000 in
theorem ggX0_dulls_X8_dulls : GoodIn wsX0_dulls wsX8_dulls := goodIn_r _ [13, 14, 2, 3, 4, 5, 6, 7, 15, 16, 17, 18, 12, 19, 20, 21, 22, 23, 24, 25, 26, 27, 28, 29, 30, 31, 32, 33, 34, 42, 43, 44, 45] rfl (by decide +kernel)
set_option maxRecDepth 20000 in
theorem gX0_dulls_X8_dulls_s13 : GoodIn wsX0_dulls (va_wsSU RX0 13 yX8_dulls wsX8_dulls) := goodIn_app (goodIn_r _ [8, 9, 10, 11, 12] rfl (by decide +kernel)) ggX0_dulls_X8_dulls
set_option maxRecDepth 20000 in
theorem ggX0_dulls_X8_holds : GoodIn wsX0_dulls wsX8_holds := goodIn_r _ [39, 40, 14, 2, 3, 4, 5, 6, 7, 42, 43, 44, 45] rfl (by decide +kernel)
set_option maxRecDepth 20000 in
theorem gX0_dulls_X8_holds_u17X0 : GoodIn wsX0_dulls (va_wsU RX0 17 RX0 "SpoonsLast$Spoon" ⟨"SpoonsLast$Apostle", "holds", "(LSpoonsLast$Voice;I)I"⟩ yX8_holds wsX8_holds) := goodIn_app (goodIn_r _ [35, 36, 37, 38, 12] rfl (by decide +kernel)) ggX0_dulls_X8_holds
set_option maxRecDepth 20000 in
theorem gX0_dulls_X8_holds_u17X4 : GoodIn wsX0_dulls (va_wsU RX0 17 RX4 "SpoonsLast$Spoon" ⟨"SpoonsLast$Apostle", "holds", "(LSpoonsLast$Voice;I)I"⟩ yX8_holds wsX8_holds) := goodIn_app (goodIn_r _ [35, 36, 41, 38, 12] rfl (by decide +kernel)) ggX0_dulls_X8_holds
theorem dX0_dulls_0 : decode cX0_dulls 0 = .ok (.aload_n 1, 1) := by decide +kernel
theorem dX0_dulls_1 : decode cX0_dulls 1 = .ok (.bipush 30, 2) := by decide +kernel
theorem dX0_dulls_3 : decode cX0_dulls 3 = .ok (.invokevirtual 7, 3) := by decide +kernel
theorem dX0_dulls_6 : decode cX0_dulls 6 = .ok (.aload_n 0, 1) := by decide +kernel
theorem dX0_dulls_7 : decode cX0_dulls 7 = .ok (.aload_n 1, 1) := by decide +kernel
theorem dX0_dulls_8 : decode cX0_dulls 8 = .ok (.iload_n 2, 1) := by decide +kernel
theorem dX0_dulls_9 : decode cX0_dulls 9 = .ok (.invokespecial 13, 3) := by decide +kernel
theorem dX0_dulls_12 : decode cX0_dulls 12 = .ok (.aload_n 0, 1) := by decide +kernel
theorem dX0_dulls_13 : decode cX0_dulls 13 = .ok (.aload_n 1, 1) := by decide +kernel
theorem dX0_dulls_14 : decode cX0_dulls 14 = .ok (.iconst 1, 1) := by decide +kernel
theorem dX0_dulls_15 : decode cX0_dulls 15 = .ok (.invokevirtual 17, 3) := by decide +kernel
theorem dX0_dulls_18 : decode cX0_dulls 18 = .ok (.isub, 1) := by decide +kernel
theorem dX0_dulls_19 : decode cX0_dulls 19 = .ok (.ireturn, 1) := by decide +kernel
set_option maxRecDepth 20000 in
theorem ggX1_init_X5_init : GoodIn wsX1_init wsX5_init := goodIn_r _ [3, 4, 5, 6, 7, 8, 9] rfl (by decide +kernel)
set_option maxRecDepth 20000 in
theorem gX1_init_X5_init_n1 : GoodIn wsX1_init (wsX5_init) := ggX1_init_X5_init
theorem dX1_init_0 : decode cX1_init 0 = .ok (.aload_n 0, 1) := by decide +kernel
theorem dX1_init_1 : decode cX1_init 1 = .ok (.invokespecial 1, 3) := by decide +kernel
theorem dX1_init_4 : decode cX1_init 4 = .ok (.return_, 1) := by decide +kernel
set_option maxRecDepth 20000 in
theorem ggX1_stays_X5_stays : GoodIn wsX1_stays wsX5_stays := goodIn_r _ [6] rfl (by decide +kernel)
set_option maxRecDepth 20000 in
theorem gX1_stays_X5_stays_s7 : GoodIn wsX1_stays (va_wsSU RX1 7 yX5_stays wsX5_stays) := goodIn_app (goodIn_r _ [1, 2, 3, 4, 5] rfl (by decide +kernel)) ggX1_stays_X5_stays
theorem dX1_stays_0 : decode cX1_stays 0 = .ok (.iload_n 3, 1) := by decide +kernel
theorem dX1_stays_1 : decode cX1_stays 1 = .ok (.bipush 10, 2) := by decide +kernel
theorem dX1_stays_3 : decode cX1_stays 3 = .ok (.if_icmp .ge 8, 3) := by decide +kernel
theorem dX1_stays_6 : decode cX1_stays 6 = .ok (.bipush 9, 2) := by decide +kernel
theorem dX1_stays_8 : decode cX1_stays 8 = .ok (.goto 10, 3) := by decide +kernel
theorem dX1_stays_11 : decode cX1_stays 11 = .ok (.aload_n 0, 1) := by decide +kernel
theorem dX1_stays_12 : decode cX1_stays 12 = .ok (.iload_n 1, 1) := by decide +kernel
theorem dX1_stays_13 : decode cX1_stays 13 = .ok (.iload_n 2, 1) := by decide +kernel
theorem dX1_stays_14 : decode cX1_stays 14 = .ok (.iload_n 3, 1) := by decide +kernel
theorem dX1_stays_15 : decode cX1_stays 15 = .ok (.invokespecial 7, 3) := by decide +kernel
theorem dX1_stays_18 : decode cX1_stays 18 = .ok (.ireturn, 1) := by decide +kernel
theorem dX1_reads_0 : decode cX1_reads 0 = .ok (.bipush 9, 2) := by decide +kernel
theorem dX1_reads_2 : decode cX1_reads 2 = .ok (.ireturn, 1) := by decide +kernel
set_option maxRecDepth 20000 in
theorem ggX1_wears_X5_wears : GoodIn wsX1_wears wsX5_wears := goodIn_r _ [6] rfl (by decide +kernel)
set_option maxRecDepth 20000 in
theorem gX1_wears_X5_wears_s11 : GoodIn wsX1_wears (va_wsSU RX1 11 yX5_wears wsX5_wears) := goodIn_app (goodIn_r _ [1, 2, 3, 4, 5] rfl (by decide +kernel)) ggX1_wears_X5_wears
theorem dX1_wears_0 : decode cX1_wears 0 = .ok (.aload_n 0, 1) := by decide +kernel
theorem dX1_wears_1 : decode cX1_wears 1 = .ok (.iload_n 1, 1) := by decide +kernel
theorem dX1_wears_2 : decode cX1_wears 2 = .ok (.invokespecial 11, 3) := by decide +kernel
theorem dX1_wears_5 : decode cX1_wears 5 = .ok (.iload_n 1, 1) := by decide +kernel
theorem dX1_wears_6 : decode cX1_wears 6 = .ok (.iadd, 1) := by decide +kernel
theorem dX1_wears_7 : decode cX1_wears 7 = .ok (.ireturn, 1) := by decide +kernel
set_option maxRecDepth 20000 in
theorem ggX1_holds_X10_begins : GoodIn wsX1_holds wsX10_begins := goodIn_r _ [6, 7, 8, 24, 25, 26, 27] rfl (by decide +kernel)
set_option maxRecDepth 20000 in
theorem gX1_holds_X10_begins : GoodIn wsX1_holds (wsV RX1 15 RX10 yX10_begins wsX10_begins) := goodIn_app (goodIn_r _ [2, 3, 4, 5] rfl (by decide +kernel)) ggX1_holds_X10_begins
set_option maxRecDepth 20000 in
theorem ggX1_holds_X5_holds : GoodIn wsX1_holds wsX5_holds := goodIn_r _ [14, 15, 3, 4, 5, 6, 7, 8, 16, 17, 18, 19, 20, 21, 22, 23, 24, 25, 26, 27] rfl (by decide +kernel)
set_option maxRecDepth 20000 in
theorem gX1_holds_X5_holds_s21 : GoodIn wsX1_holds (va_wsSU RX1 21 yX5_holds wsX5_holds) := goodIn_app (goodIn_r _ [9, 10, 11, 12, 13] rfl (by decide +kernel)) ggX1_holds_X5_holds
theorem dX1_holds_0 : decode cX1_holds 0 = .ok (.aload_n 1, 1) := by decide +kernel
theorem dX1_holds_1 : decode cX1_holds 1 = .ok (.bipush 70, 2) := by decide +kernel
theorem dX1_holds_3 : decode cX1_holds 3 = .ok (.invokevirtual 15, 3) := by decide +kernel
theorem dX1_holds_6 : decode cX1_holds 6 = .ok (.aload_n 0, 1) := by decide +kernel
theorem dX1_holds_7 : decode cX1_holds 7 = .ok (.aload_n 1, 1) := by decide +kernel
theorem dX1_holds_8 : decode cX1_holds 8 = .ok (.iload_n 2, 1) := by decide +kernel
theorem dX1_holds_9 : decode cX1_holds 9 = .ok (.invokespecial 21, 3) := by decide +kernel
theorem dX1_holds_12 : decode cX1_holds 12 = .ok (.aload_n 1, 1) := by decide +kernel
theorem dX1_holds_13 : decode cX1_holds 13 = .ok (.getfield 25, 3) := by decide +kernel
theorem dX1_holds_16 : decode cX1_holds 16 = .ok (.ixor, 1) := by decide +kernel
theorem dX1_holds_17 : decode cX1_holds 17 = .ok (.ireturn, 1) := by decide +kernel
set_option maxRecDepth 20000 in
theorem ggX1_tells_X10_begins : GoodIn wsX1_tells wsX10_begins := goodIn_r _ [5, 6, 7, 35, 36, 37, 38] rfl (by decide +kernel)
set_option maxRecDepth 20000 in
theorem gX1_tells_X10_begins : GoodIn wsX1_tells (wsV RX1 15 RX10 yX10_begins wsX10_begins) := goodIn_app (goodIn_r _ [1, 2, 3, 4] rfl (by decide +kernel)) ggX1_tells_X10_begins
set_option maxRecDepth 20000 in
theorem ggX1_tells_X8_dulls : GoodIn wsX1_tells wsX8_dulls := goodIn_r _ [13, 14, 2, 3, 4, 5, 6, 7, 15, 16, 17, 18, 12, 19, 20, 21, 22, 23, 24, 25, 26, 27, 28, 29, 30, 31, 32, 33, 34, 35, 36, 37, 38] rfl (by decide +kernel)
set_option maxRecDepth 20000 in
theorem gX1_tells_X8_dulls_u29X1 : GoodIn wsX1_tells (va_wsU RX1 29 RX1 "SpoonsLast$Spoon" ⟨"SpoonsLast$Caddy", "dulls", "(LSpoonsLast$Voice;I)I"⟩ yX8_dulls wsX8_dulls) := goodIn_app (goodIn_r _ [8, 9, 10, 11, 12] rfl (by decide +kernel)) ggX1_tells_X8_dulls
theorem dX1_tells_0 : decode cX1_tells 0 = .ok (.aload_n 1, 1) := by decide +kernel
theorem dX1_tells_1 : decode cX1_tells 1 = .ok (.bipush 71, 2) := by decide +kernel
theorem dX1_tells_3 : decode cX1_tells 3 = .ok (.invokevirtual 15, 3) := by decide +kernel
theorem dX1_tells_6 : decode cX1_tells 6 = .ok (.aload_n 0, 1) := by decide +kernel
theorem dX1_tells_7 : decode cX1_tells 7 = .ok (.aload_n 1, 1) := by decide +kernel
theorem dX1_tells_8 : decode cX1_tells 8 = .ok (.iload_n 2, 1) := by decide +kernel
theorem dX1_tells_9 : decode cX1_tells 9 = .ok (.invokevirtual 29, 3) := by decide +kernel
theorem dX1_tells_12 : decode cX1_tells 12 = .ok (.aload_n 0, 1) := by decide +kernel
theorem dX1_tells_13 : decode cX1_tells 13 = .ok (.aload_n 1, 1) := by decide +kernel
theorem dX1_tells_14 : decode cX1_tells 14 = .ok (.iload_n 2, 1) := by decide +kernel
theorem dX1_tells_15 : decode cX1_tells 15 = .ok (.invokespecial 34, 3) := by decide +kernel
theorem dX1_tells_18 : decode cX1_tells 18 = .ok (.isub, 1) := by decide +kernel
theorem dX1_tells_19 : decode cX1_tells 19 = .ok (.ireturn, 1) := by decide +kernel
set_option maxRecDepth 20000 in
theorem ggX2_init_X8_init : GoodIn wsX2_init wsX8_init := goodIn_r _ [3, 4, 5, 6] rfl (by decide +kernel)
set_option maxRecDepth 20000 in
theorem gX2_init_X8_init_n1 : GoodIn wsX2_init (wsX8_init) := ggX2_init_X8_init
theorem dX2_init_0 : decode cX2_init 0 = .ok (.aload_n 0, 1) := by decide +kernel
theorem dX2_init_1 : decode cX2_init 1 = .ok (.invokespecial 1, 3) := by decide +kernel
theorem dX2_init_4 : decode cX2_init 4 = .ok (.return_, 1) := by decide +kernel
set_option maxRecDepth 20000 in
theorem ggX2_stays_X8_stays : GoodIn wsX2_stays wsX8_stays := goodIn_r _ [6] rfl (by decide +kernel)
set_option maxRecDepth 20000 in
theorem gX2_stays_X8_stays_s7 : GoodIn wsX2_stays (va_wsSU RX2 7 yX8_stays wsX8_stays) := goodIn_app (goodIn_r _ [1, 2, 3, 4, 5] rfl (by decide +kernel)) ggX2_stays_X8_stays
theorem dX2_stays_0 : decode cX2_stays 0 = .ok (.aload_n 0, 1) := by decide +kernel
theorem dX2_stays_1 : decode cX2_stays 1 = .ok (.iload_n 1, 1) := by decide +kernel
theorem dX2_stays_2 : decode cX2_stays 2 = .ok (.iload_n 2, 1) := by decide +kernel
theorem dX2_stays_3 : decode cX2_stays 3 = .ok (.iload_n 3, 1) := by decide +kernel
theorem dX2_stays_4 : decode cX2_stays 4 = .ok (.invokespecial 7, 3) := by decide +kernel
theorem dX2_stays_7 : decode cX2_stays 7 = .ok (.iload_n 2, 1) := by decide +kernel
theorem dX2_stays_8 : decode cX2_stays 8 = .ok (.iconst 2, 1) := by decide +kernel
theorem dX2_stays_9 : decode cX2_stays 9 = .ok (.idiv, 1) := by decide +kernel
theorem dX2_stays_10 : decode cX2_stays 10 = .ok (.iadd, 1) := by decide +kernel
theorem dX2_stays_11 : decode cX2_stays 11 = .ok (.ireturn, 1) := by decide +kernel
theorem dX2_reads_0 : decode cX2_reads 0 = .ok (.iconst 2, 1) := by decide +kernel
theorem dX2_reads_1 : decode cX2_reads 1 = .ok (.ireturn, 1) := by decide +kernel
set_option maxRecDepth 20000 in
theorem ggX2_wears_X8_wears : GoodIn wsX2_wears wsX8_wears := goodIn_r _ [6] rfl (by decide +kernel)
set_option maxRecDepth 20000 in
theorem gX2_wears_X8_wears_s11 : GoodIn wsX2_wears (va_wsSU RX2 11 yX8_wears wsX8_wears) := goodIn_app (goodIn_r _ [1, 2, 3, 4, 5] rfl (by decide +kernel)) ggX2_wears_X8_wears
theorem dX2_wears_0 : decode cX2_wears 0 = .ok (.aload_n 0, 1) := by decide +kernel
theorem dX2_wears_1 : decode cX2_wears 1 = .ok (.iload_n 1, 1) := by decide +kernel
theorem dX2_wears_2 : decode cX2_wears 2 = .ok (.invokespecial 11, 3) := by decide +kernel
theorem dX2_wears_5 : decode cX2_wears 5 = .ok (.iconst 1, 1) := by decide +kernel
theorem dX2_wears_6 : decode cX2_wears 6 = .ok (.iadd, 1) := by decide +kernel
theorem dX2_wears_7 : decode cX2_wears 7 = .ok (.ireturn, 1) := by decide +kernel
set_option maxRecDepth 20000 in
theorem ggX2_shines_X10_begins : GoodIn wsX2_shines wsX10_begins := goodIn_r _ [5, 6, 7, 16, 17, 18, 19] rfl (by decide +kernel)
set_option maxRecDepth 20000 in
theorem gX2_shines_X10_begins : GoodIn wsX2_shines (wsV RX2 15 RX10 yX10_begins wsX10_begins) := goodIn_app (goodIn_r _ [1, 2, 3, 4] rfl (by decide +kernel)) ggX2_shines_X10_begins
set_option maxRecDepth 20000 in
theorem ggX2_shines_X8_shines : GoodIn wsX2_shines wsX8_shines := goodIn_r _ [13, 14, 15, 2, 3, 4, 5, 6, 7, 16, 17, 18, 19] rfl (by decide +kernel)
set_option maxRecDepth 20000 in
theorem gX2_shines_X8_shines_s21 : GoodIn wsX2_shines (va_wsSU RX2 21 yX8_shines wsX8_shines) := goodIn_app (goodIn_r _ [8, 9, 10, 11, 12] rfl (by decide +kernel)) ggX2_shines_X8_shines
theorem dX2_shines_0 : decode cX2_shines 0 = .ok (.aload_n 1, 1) := by decide +kernel
theorem dX2_shines_1 : decode cX2_shines 1 = .ok (.bipush 20, 2) := by decide +kernel
theorem dX2_shines_3 : decode cX2_shines 3 = .ok (.invokevirtual 15, 3) := by decide +kernel
theorem dX2_shines_6 : decode cX2_shines 6 = .ok (.aload_n 0, 1) := by decide +kernel
theorem dX2_shines_7 : decode cX2_shines 7 = .ok (.aload_n 1, 1) := by decide +kernel
theorem dX2_shines_8 : decode cX2_shines 8 = .ok (.iload_n 2, 1) := by decide +kernel
theorem dX2_shines_9 : decode cX2_shines 9 = .ok (.invokespecial 21, 3) := by decide +kernel
theorem dX2_shines_12 : decode cX2_shines 12 = .ok (.iconst 3, 1) := by decide +kernel
theorem dX2_shines_13 : decode cX2_shines 13 = .ok (.imul, 1) := by decide +kernel
theorem dX2_shines_14 : decode cX2_shines 14 = .ok (.ireturn, 1) := by decide +kernel
set_option maxRecDepth 20000 in
theorem ggX3_init_J7_fill_53178 : GoodIn wsX3_init wsJ7_fill_53178 := goodIn_r _ [23] rfl (by decide +kernel)
set_option maxRecDepth 20000 in
theorem gX3_init_J7_fill_53178 : GoodIn wsX3_init (va_wsS RX3 57 yJ7_fill_53178 wsJ7_fill_53178) := goodIn_app (goodIn_r _ [20, 21, 22] rfl (by decide +kernel)) ggX3_init_J7_fill_53178
theorem dX3_init_0 : decode cX3_init 0 = .ok (.aload_n 0, 1) := by decide +kernel
theorem dX3_init_1 : decode cX3_init 1 = .ok (.invokespecial 3, 3) := by decide +kernel
theorem dX3_init_4 : decode cX3_init 4 = .ok (.aload_n 0, 1) := by decide +kernel
theorem dX3_init_5 : decode cX3_init 5 = .ok (.bipush 12, 2) := by decide +kernel
theorem dX3_init_7 : decode cX3_init 7 = .ok (.newarray .int, 2) := by decide +kernel
theorem dX3_init_9 : decode cX3_init 9 = .ok (.putfield 9, 3) := by decide +kernel
theorem dX3_init_12 : decode cX3_init 12 = .ok (.aload_n 0, 1) := by decide +kernel
theorem dX3_init_13 : decode cX3_init 13 = .ok (.bipush 6, 2) := by decide +kernel
theorem dX3_init_15 : decode cX3_init 15 = .ok (.newarray .int, 2) := by decide +kernel
theorem dX3_init_17 : decode cX3_init 17 = .ok (.putfield 15, 3) := by decide +kernel
theorem dX3_init_20 : decode cX3_init 20 = .ok (.aload_n 0, 1) := by decide +kernel
theorem dX3_init_21 : decode cX3_init 21 = .ok (.bipush 6, 2) := by decide +kernel
theorem dX3_init_23 : decode cX3_init 23 = .ok (.newarray .int, 2) := by decide +kernel
theorem dX3_init_25 : decode cX3_init 25 = .ok (.putfield 18, 3) := by decide +kernel
theorem dX3_init_28 : decode cX3_init 28 = .ok (.aload_n 0, 1) := by decide +kernel
theorem dX3_init_29 : decode cX3_init 29 = .ok (.iconst 4, 1) := by decide +kernel
theorem dX3_init_30 : decode cX3_init 30 = .ok (.newarray .int, 2) := by decide +kernel
theorem dX3_init_32 : decode cX3_init 32 = .ok (.putfield 21, 3) := by decide +kernel
theorem dX3_init_35 : decode cX3_init 35 = .ok (.aload_n 0, 1) := by decide +kernel
theorem dX3_init_36 : decode cX3_init 36 = .ok (.bipush 8, 2) := by decide +kernel
theorem dX3_init_38 : decode cX3_init 38 = .ok (.newarray .int, 2) := by decide +kernel
theorem dX3_init_40 : decode cX3_init 40 = .ok (.putfield 24, 3) := by decide +kernel
theorem dX3_init_43 : decode cX3_init 43 = .ok (.aload_n 0, 1) := by decide +kernel
theorem dX3_init_44 : decode cX3_init 44 = .ok (.bipush 8, 2) := by decide +kernel
theorem dX3_init_46 : decode cX3_init 46 = .ok (.newarray .int, 2) := by decide +kernel
theorem dX3_init_48 : decode cX3_init 48 = .ok (.putfield 27, 3) := by decide +kernel
theorem dX3_init_51 : decode cX3_init 51 = .ok (.aload_n 0, 1) := by decide +kernel
theorem dX3_init_52 : decode cX3_init 52 = .ok (.bipush 8, 2) := by decide +kernel
theorem dX3_init_54 : decode cX3_init 54 = .ok (.newarray .int, 2) := by decide +kernel
theorem dX3_init_56 : decode cX3_init 56 = .ok (.putfield 30, 3) := by decide +kernel
theorem dX3_init_59 : decode cX3_init 59 = .ok (.aload_n 0, 1) := by decide +kernel
theorem dX3_init_60 : decode cX3_init 60 = .ok (.bipush 8, 2) := by decide +kernel
theorem dX3_init_62 : decode cX3_init 62 = .ok (.newarray .long, 2) := by decide +kernel
theorem dX3_init_64 : decode cX3_init 64 = .ok (.putfield 33, 3) := by decide +kernel
theorem dX3_init_67 : decode cX3_init 67 = .ok (.aload_n 0, 1) := by decide +kernel
theorem dX3_init_68 : decode cX3_init 68 = .ok (.iconst 2, 1) := by decide +kernel
theorem dX3_init_69 : decode cX3_init 69 = .ok (.anewarray 37, 3) := by decide +kernel
theorem dX3_init_72 : decode cX3_init 72 = .ok (.putfield 39, 3) := by decide +kernel
theorem dX3_init_75 : decode cX3_init 75 = .ok (.aload_n 0, 1) := by decide +kernel
theorem dX3_init_76 : decode cX3_init 76 = .ok (.bipush 50, 2) := by decide +kernel
theorem dX3_init_78 : decode cX3_init 78 = .ok (.newarray .int, 2) := by decide +kernel
theorem dX3_init_80 : decode cX3_init 80 = .ok (.putfield 43, 3) := by decide +kernel
theorem dX3_init_83 : decode cX3_init 83 = .ok (.aload_n 0, 1) := by decide +kernel
theorem dX3_init_84 : decode cX3_init 84 = .ok (.iconst 1, 1) := by decide +kernel
theorem dX3_init_85 : decode cX3_init 85 = .ok (.putfield 46, 3) := by decide +kernel
theorem dX3_init_88 : decode cX3_init 88 = .ok (.aload_n 0, 1) := by decide +kernel
theorem dX3_init_89 : decode cX3_init 89 = .ok (.bipush 20, 2) := by decide +kernel
theorem dX3_init_91 : decode cX3_init 91 = .ok (.newarray .int, 2) := by decide +kernel
theorem dX3_init_93 : decode cX3_init 93 = .ok (.putfield 50, 3) := by decide +kernel
theorem dX3_init_96 : decode cX3_init 96 = .ok (.aload_n 0, 1) := by decide +kernel
theorem dX3_init_97 : decode cX3_init 97 = .ok (.aload_n 1, 1) := by decide +kernel
theorem dX3_init_98 : decode cX3_init 98 = .ok (.putfield 53, 3) := by decide +kernel
theorem dX3_init_101 : decode cX3_init 101 = .ok (.iconst 0, 1) := by decide +kernel
theorem dX3_init_102 : decode cX3_init 102 = .ok (.istore_n 2, 1) := by decide +kernel
theorem dX3_init_103 : decode cX3_init 103 = .ok (.iload_n 2, 1) := by decide +kernel
theorem dX3_init_104 : decode cX3_init 104 = .ok (.bipush 12, 2) := by decide +kernel
theorem dX3_init_106 : decode cX3_init 106 = .ok (.if_icmp .ge 19, 3) := by decide +kernel
theorem dX3_init_109 : decode cX3_init 109 = .ok (.aload_n 0, 1) := by decide +kernel
theorem dX3_init_110 : decode cX3_init 110 = .ok (.getfield 9, 3) := by decide +kernel
theorem dX3_init_113 : decode cX3_init 113 = .ok (.iload_n 2, 1) := by decide +kernel
theorem dX3_init_114 : decode cX3_init 114 = .ok (.iload_n 2, 1) := by decide +kernel
theorem dX3_init_115 : decode cX3_init 115 = .ok (.bipush 10, 2) := by decide +kernel
theorem dX3_init_117 : decode cX3_init 117 = .ok (.irem, 1) := by decide +kernel
theorem dX3_init_118 : decode cX3_init 118 = .ok (.iastore, 1) := by decide +kernel
theorem dX3_init_119 : decode cX3_init 119 = .ok (.iinc 2 1, 3) := by decide +kernel
theorem dX3_init_122 : decode cX3_init 122 = .ok (.goto (-19), 3) := by decide +kernel
theorem dX3_init_125 : decode cX3_init 125 = .ok (.aload_n 0, 1) := by decide +kernel
theorem dX3_init_126 : decode cX3_init 126 = .ok (.getfield 15, 3) := by decide +kernel
theorem dX3_init_129 : decode cX3_init 129 = .ok (.iconst (-1), 1) := by decide +kernel
theorem dX3_init_130 : decode cX3_init 130 = .ok (.invokestatic 57, 3) := by decide +kernel
theorem dX3_init_133 : decode cX3_init 133 = .ok (.aload_n 0, 1) := by decide +kernel
theorem dX3_init_134 : decode cX3_init 134 = .ok (.getfield 21, 3) := by decide +kernel
theorem dX3_init_137 : decode cX3_init 137 = .ok (.iconst (-1), 1) := by decide +kernel
theorem dX3_init_138 : decode cX3_init 138 = .ok (.invokestatic 57, 3) := by decide +kernel
theorem dX3_init_141 : decode cX3_init 141 = .ok (.return_, 1) := by decide +kernel
theorem dX3_follow_0 : decode cX3_follow 0 = .ok (.aload_n 1, 1) := by decide +kernel
theorem dX3_follow_1 : decode cX3_follow 1 = .ok (.getfield 9, 3) := by decide +kernel
theorem dX3_follow_4 : decode cX3_follow 4 = .ok (.iconst 0, 1) := by decide +kernel
theorem dX3_follow_5 : decode cX3_follow 5 = .ok (.aload_n 0, 1) := by decide +kernel
theorem dX3_follow_6 : decode cX3_follow 6 = .ok (.getfield 9, 3) := by decide +kernel
theorem dX3_follow_9 : decode cX3_follow 9 = .ok (.iconst 0, 1) := by decide +kernel
theorem dX3_follow_10 : decode cX3_follow 10 = .ok (.bipush 12, 2) := by decide +kernel
theorem dX3_follow_12 : decode cX3_follow 12 = .ok (.invokestatic 63, 3) := by decide +kernel
theorem dX3_follow_15 : decode cX3_follow 15 = .ok (.aload_n 0, 1) := by decide +kernel
theorem dX3_follow_16 : decode cX3_follow 16 = .ok (.aload_n 1, 1) := by decide +kernel
theorem dX3_follow_17 : decode cX3_follow 17 = .ok (.getfield 69, 3) := by decide +kernel
theorem dX3_follow_20 : decode cX3_follow 20 = .ok (.putfield 69, 3) := by decide +kernel
theorem dX3_follow_23 : decode cX3_follow 23 = .ok (.aload_n 0, 1) := by decide +kernel
theorem dX3_follow_24 : decode cX3_follow 24 = .ok (.aload_n 1, 1) := by decide +kernel
theorem dX3_follow_25 : decode cX3_follow 25 = .ok (.getfield 72, 3) := by decide +kernel
theorem dX3_follow_28 : decode cX3_follow 28 = .ok (.putfield 72, 3) := by decide +kernel
theorem dX3_follow_31 : decode cX3_follow 31 = .ok (.aload_n 1, 1) := by decide +kernel
theorem dX3_follow_32 : decode cX3_follow 32 = .ok (.getfield 15, 3) := by decide +kernel
theorem dX3_follow_35 : decode cX3_follow 35 = .ok (.iconst 0, 1) := by decide +kernel
theorem dX3_follow_36 : decode cX3_follow 36 = .ok (.aload_n 0, 1) := by decide +kernel
theorem dX3_follow_37 : decode cX3_follow 37 = .ok (.getfield 15, 3) := by decide +kernel
theorem dX3_follow_40 : decode cX3_follow 40 = .ok (.iconst 0, 1) := by decide +kernel
theorem dX3_follow_41 : decode cX3_follow 41 = .ok (.bipush 6, 2) := by decide +kernel
theorem dX3_follow_43 : decode cX3_follow 43 = .ok (.invokestatic 63, 3) := by decide +kernel
theorem dX3_follow_46 : decode cX3_follow 46 = .ok (.aload_n 1, 1) := by decide +kernel
theorem dX3_follow_47 : decode cX3_follow 47 = .ok (.getfield 18, 3) := by decide +kernel
theorem dX3_follow_50 : decode cX3_follow 50 = .ok (.iconst 0, 1) := by decide +kernel
theorem dX3_follow_51 : decode cX3_follow 51 = .ok (.aload_n 0, 1) := by decide +kernel
theorem dX3_follow_52 : decode cX3_follow 52 = .ok (.getfield 18, 3) := by decide +kernel
theorem dX3_follow_55 : decode cX3_follow 55 = .ok (.iconst 0, 1) := by decide +kernel
theorem dX3_follow_56 : decode cX3_follow 56 = .ok (.bipush 6, 2) := by decide +kernel
theorem dX3_follow_58 : decode cX3_follow 58 = .ok (.invokestatic 63, 3) := by decide +kernel
theorem dX3_follow_61 : decode cX3_follow 61 = .ok (.aload_n 1, 1) := by decide +kernel
theorem dX3_follow_62 : decode cX3_follow 62 = .ok (.getfield 21, 3) := by decide +kernel
theorem dX3_follow_65 : decode cX3_follow 65 = .ok (.iconst 0, 1) := by decide +kernel
theorem dX3_follow_66 : decode cX3_follow 66 = .ok (.aload_n 0, 1) := by decide +kernel
theorem dX3_follow_67 : decode cX3_follow 67 = .ok (.getfield 21, 3) := by decide +kernel
theorem dX3_follow_70 : decode cX3_follow 70 = .ok (.iconst 0, 1) := by decide +kernel
theorem dX3_follow_71 : decode cX3_follow 71 = .ok (.iconst 4, 1) := by decide +kernel
theorem dX3_follow_72 : decode cX3_follow 72 = .ok (.invokestatic 63, 3) := by decide +kernel
theorem dX3_follow_75 : decode cX3_follow 75 = .ok (.aload_n 0, 1) := by decide +kernel
theorem dX3_follow_76 : decode cX3_follow 76 = .ok (.aload_n 1, 1) := by decide +kernel
theorem dX3_follow_77 : decode cX3_follow 77 = .ok (.getfield 75, 3) := by decide +kernel
theorem dX3_follow_80 : decode cX3_follow 80 = .ok (.putfield 75, 3) := by decide +kernel
theorem dX3_follow_83 : decode cX3_follow 83 = .ok (.aload_n 1, 1) := by decide +kernel
theorem dX3_follow_84 : decode cX3_follow 84 = .ok (.getfield 24, 3) := by decide +kernel
theorem dX3_follow_87 : decode cX3_follow 87 = .ok (.iconst 0, 1) := by decide +kernel
theorem dX3_follow_88 : decode cX3_follow 88 = .ok (.aload_n 0, 1) := by decide +kernel
theorem dX3_follow_89 : decode cX3_follow 89 = .ok (.getfield 24, 3) := by decide +kernel
theorem dX3_follow_92 : decode cX3_follow 92 = .ok (.iconst 0, 1) := by decide +kernel
theorem dX3_follow_93 : decode cX3_follow 93 = .ok (.bipush 8, 2) := by decide +kernel
theorem dX3_follow_95 : decode cX3_follow 95 = .ok (.invokestatic 63, 3) := by decide +kernel
theorem dX3_follow_98 : decode cX3_follow 98 = .ok (.aload_n 1, 1) := by decide +kernel
theorem dX3_follow_99 : decode cX3_follow 99 = .ok (.getfield 27, 3) := by decide +kernel
theorem dX3_follow_102 : decode cX3_follow 102 = .ok (.iconst 0, 1) := by decide +kernel
theorem dX3_follow_103 : decode cX3_follow 103 = .ok (.aload_n 0, 1) := by decide +kernel
theorem dX3_follow_104 : decode cX3_follow 104 = .ok (.getfield 27, 3) := by decide +kernel
theorem dX3_follow_107 : decode cX3_follow 107 = .ok (.iconst 0, 1) := by decide +kernel
theorem dX3_follow_108 : decode cX3_follow 108 = .ok (.bipush 8, 2) := by decide +kernel
theorem dX3_follow_110 : decode cX3_follow 110 = .ok (.invokestatic 63, 3) := by decide +kernel
theorem dX3_follow_113 : decode cX3_follow 113 = .ok (.aload_n 1, 1) := by decide +kernel
theorem dX3_follow_114 : decode cX3_follow 114 = .ok (.getfield 30, 3) := by decide +kernel
theorem dX3_follow_117 : decode cX3_follow 117 = .ok (.iconst 0, 1) := by decide +kernel
theorem dX3_follow_118 : decode cX3_follow 118 = .ok (.aload_n 0, 1) := by decide +kernel
theorem dX3_follow_119 : decode cX3_follow 119 = .ok (.getfield 30, 3) := by decide +kernel
theorem dX3_follow_122 : decode cX3_follow 122 = .ok (.iconst 0, 1) := by decide +kernel
theorem dX3_follow_123 : decode cX3_follow 123 = .ok (.bipush 8, 2) := by decide +kernel
theorem dX3_follow_125 : decode cX3_follow 125 = .ok (.invokestatic 63, 3) := by decide +kernel
theorem dX3_follow_128 : decode cX3_follow 128 = .ok (.aload_n 1, 1) := by decide +kernel
theorem dX3_follow_129 : decode cX3_follow 129 = .ok (.getfield 33, 3) := by decide +kernel
theorem dX3_follow_132 : decode cX3_follow 132 = .ok (.iconst 0, 1) := by decide +kernel
theorem dX3_follow_133 : decode cX3_follow 133 = .ok (.aload_n 0, 1) := by decide +kernel
theorem dX3_follow_134 : decode cX3_follow 134 = .ok (.getfield 33, 3) := by decide +kernel
theorem dX3_follow_137 : decode cX3_follow 137 = .ok (.iconst 0, 1) := by decide +kernel
theorem dX3_follow_138 : decode cX3_follow 138 = .ok (.bipush 8, 2) := by decide +kernel
theorem dX3_follow_140 : decode cX3_follow 140 = .ok (.invokestatic 63, 3) := by decide +kernel
theorem dX3_follow_143 : decode cX3_follow 143 = .ok (.aload_n 0, 1) := by decide +kernel
theorem dX3_follow_144 : decode cX3_follow 144 = .ok (.getfield 39, 3) := by decide +kernel
theorem dX3_follow_147 : decode cX3_follow 147 = .ok (.iconst 0, 1) := by decide +kernel
theorem dX3_follow_148 : decode cX3_follow 148 = .ok (.aload_n 1, 1) := by decide +kernel
theorem dX3_follow_149 : decode cX3_follow 149 = .ok (.getfield 39, 3) := by decide +kernel
theorem dX3_follow_152 : decode cX3_follow 152 = .ok (.iconst 0, 1) := by decide +kernel
theorem dX3_follow_153 : decode cX3_follow 153 = .ok (.aaload, 1) := by decide +kernel
theorem dX3_follow_154 : decode cX3_follow 154 = .ok (.aastore, 1) := by decide +kernel
theorem dX3_follow_155 : decode cX3_follow 155 = .ok (.aload_n 0, 1) := by decide +kernel
theorem dX3_follow_156 : decode cX3_follow 156 = .ok (.getfield 39, 3) := by decide +kernel
theorem dX3_follow_159 : decode cX3_follow 159 = .ok (.iconst 1, 1) := by decide +kernel
theorem dX3_follow_160 : decode cX3_follow 160 = .ok (.aload_n 1, 1) := by decide +kernel
theorem dX3_follow_161 : decode cX3_follow 161 = .ok (.getfield 39, 3) := by decide +kernel
theorem dX3_follow_164 : decode cX3_follow 164 = .ok (.iconst 1, 1) := by decide +kernel
theorem dX3_follow_165 : decode cX3_follow 165 = .ok (.aaload, 1) := by decide +kernel
theorem dX3_follow_166 : decode cX3_follow 166 = .ok (.aastore, 1) := by decide +kernel
theorem dX3_follow_167 : decode cX3_follow 167 = .ok (.return_, 1) := by decide +kernel
set_option maxRecDepth 20000 in
theorem ggX3_keep_X3_follow : GoodIn wsX3_keep wsX3_follow := goodIn_r _ [14, 15, 2, 3, 4, 5, 16, 17, 18, 19, 20, 21, 22, 23, 24, 25, 26, 27, 28, 29, 30, 31, 32, 33, 34, 35, 36, 37, 38, 39, 40, 41, 42, 43, 44] rfl (by decide +kernel)
set_option maxRecDepth 20000 in
theorem gX3_keep_X3_follow : GoodIn wsX3_keep (wsV RX3 78 RX3 yX3_follow wsX3_follow) := goodIn_app (goodIn_r _ [10, 11, 12, 13] rfl (by decide +kernel)) ggX3_keep_X3_follow
theorem dX3_keep_0 : decode cX3_keep 0 = .ok (.aload_n 0, 1) := by decide +kernel
theorem dX3_keep_1 : decode cX3_keep 1 = .ok (.aload_n 1, 1) := by decide +kernel
theorem dX3_keep_2 : decode cX3_keep 2 = .ok (.invokevirtual 78, 3) := by decide +kernel
theorem dX3_keep_5 : decode cX3_keep 5 = .ok (.aload_n 1, 1) := by decide +kernel
theorem dX3_keep_6 : decode cX3_keep 6 = .ok (.getfield 43, 3) := by decide +kernel
theorem dX3_keep_9 : decode cX3_keep 9 = .ok (.iconst 0, 1) := by decide +kernel
theorem dX3_keep_10 : decode cX3_keep 10 = .ok (.aload_n 0, 1) := by decide +kernel
theorem dX3_keep_11 : decode cX3_keep 11 = .ok (.getfield 43, 3) := by decide +kernel
theorem dX3_keep_14 : decode cX3_keep 14 = .ok (.iconst 0, 1) := by decide +kernel
theorem dX3_keep_15 : decode cX3_keep 15 = .ok (.bipush 50, 2) := by decide +kernel
theorem dX3_keep_17 : decode cX3_keep 17 = .ok (.invokestatic 63, 3) := by decide +kernel
theorem dX3_keep_20 : decode cX3_keep 20 = .ok (.aload_n 0, 1) := by decide +kernel
theorem dX3_keep_21 : decode cX3_keep 21 = .ok (.aload_n 1, 1) := by decide +kernel
theorem dX3_keep_22 : decode cX3_keep 22 = .ok (.getfield 82, 3) := by decide +kernel
theorem dX3_keep_25 : decode cX3_keep 25 = .ok (.putfield 82, 3) := by decide +kernel
theorem dX3_keep_28 : decode cX3_keep 28 = .ok (.aload_n 0, 1) := by decide +kernel
theorem dX3_keep_29 : decode cX3_keep 29 = .ok (.aload_n 1, 1) := by decide +kernel
theorem dX3_keep_30 : decode cX3_keep 30 = .ok (.getfield 46, 3) := by decide +kernel
theorem dX3_keep_33 : decode cX3_keep 33 = .ok (.putfield 46, 3) := by decide +kernel
theorem dX3_keep_36 : decode cX3_keep 36 = .ok (.aload_n 1, 1) := by decide +kernel
theorem dX3_keep_37 : decode cX3_keep 37 = .ok (.getfield 50, 3) := by decide +kernel
theorem dX3_keep_40 : decode cX3_keep 40 = .ok (.iconst 0, 1) := by decide +kernel
theorem dX3_keep_41 : decode cX3_keep 41 = .ok (.aload_n 0, 1) := by decide +kernel
theorem dX3_keep_42 : decode cX3_keep 42 = .ok (.getfield 50, 3) := by decide +kernel
theorem dX3_keep_45 : decode cX3_keep 45 = .ok (.iconst 0, 1) := by decide +kernel
theorem dX3_keep_46 : decode cX3_keep 46 = .ok (.bipush 20, 2) := by decide +kernel
theorem dX3_keep_48 : decode cX3_keep 48 = .ok (.invokestatic 63, 3) := by decide +kernel
theorem dX3_keep_51 : decode cX3_keep 51 = .ok (.aload_n 0, 1) := by decide +kernel
theorem dX3_keep_52 : decode cX3_keep 52 = .ok (.aload_n 1, 1) := by decide +kernel
theorem dX3_keep_53 : decode cX3_keep 53 = .ok (.getfield 85, 3) := by decide +kernel
theorem dX3_keep_56 : decode cX3_keep 56 = .ok (.putfield 85, 3) := by decide +kernel
theorem dX3_keep_59 : decode cX3_keep 59 = .ok (.return_, 1) := by decide +kernel
set_option maxRecDepth 20000 in
theorem ggX3_passHours_X3_swallowNow : GoodIn wsX3_passHours wsX3_swallowNow := goodIn_r _ [8, 9, 10, 11, 12, 13, 14, 15, 2, 16, 17, 18, 7, 19, 3, 20, 21, 22, 23, 24, 25, 26, 27, 1, 28, 29, 30, 31, 32, 33, 34, 35, 36, 37, 38, 39, 40, 41, 42, 43, 44, 45, 46, 47, 48, 49, 50, 51, 52, 53, 54, 55, 56, 57, 58, 59, 60, 61, 62, 63, 64, 65, 66, 67, 68, 69, 70, 71, 72, 73, 74, 75, 76, 77, 78, 79, 80, 81, 82, 83, 84, 85, 86, 87, 88, 89, 90, 91, 92, 93, 94, 95, 96, 97, 98, 179, 180, 181, 182, 183, 184, 185, 186, 187, 188, 189, 190, 191, 192, 193, 194, 195, 196, 197, 198, 199, 200, 201, 202, 203] rfl (by decide +kernel)
set_option maxRecDepth 20000 in
theorem gX3_passHours_X3_swallowNow : GoodIn wsX3_passHours (wsV RX3 88 RX3 yX3_swallowNow wsX3_swallowNow) := goodIn_app (goodIn_r _ [4, 5, 6, 7] rfl (by decide +kernel)) ggX3_passHours_X3_swallowNow
set_option maxRecDepth 20000 in
theorem ggX3_passHours_X3_washNow : GoodIn wsX3_passHours wsX3_washNow := goodIn_r _ [102, 103, 3, 104, 2, 11, 12, 13, 15, 77, 78, 75, 79, 20, 21, 22, 23, 24, 25, 26, 7, 27, 1, 28, 29, 30, 105, 106, 107, 108, 109, 110, 111, 112, 113, 114, 115, 91, 92, 93, 116, 117, 118, 119, 120, 121, 122, 123, 124, 125, 126, 35, 127, 128, 129, 130, 40, 131, 132, 133, 44, 134, 46, 135, 136, 137, 50, 138, 139, 53, 140, 141, 56, 142, 143, 144, 145, 146, 68, 69, 70, 71, 72, 73, 74, 76, 80, 81, 82, 83, 84, 85, 86, 87, 88, 89, 90, 147, 148, 149, 150, 151, 152, 153, 154, 155, 156, 157, 158, 159, 160, 161, 162, 163, 164, 165, 61, 166, 167, 168, 65, 169, 170, 171, 172, 173, 174, 179, 180, 181, 182, 183, 184, 185, 186, 187, 188, 189, 190, 191, 192, 193, 194, 195, 196, 197, 198, 199, 200, 201, 202, 203] rfl (by decide +kernel)
set_option maxRecDepth 20000 in
theorem gX3_passHours_X3_washNow : GoodIn wsX3_passHours (wsV RX3 91 RX3 yX3_washNow wsX3_washNow) := goodIn_app (goodIn_r _ [99, 100, 101, 7] rfl (by decide +kernel)) ggX3_passHours_X3_washNow
set_option maxRecDepth 20000 in
theorem ggX3_passHours_X3_aged : GoodIn wsX3_passHours wsX3_aged := goodIn_r _ [177, 178] rfl (by decide +kernel)
set_option maxRecDepth 20000 in
theorem gX3_passHours_X3_aged : GoodIn wsX3_passHours (va_wsS RX3 94 yX3_aged wsX3_aged) := goodIn_app (goodIn_r _ [175, 176, 7] rfl (by decide +kernel)) ggX3_passHours_X3_aged
theorem dX3_passHours_0 : decode cX3_passHours 0 = .ok (.iconst 0, 1) := by decide +kernel
theorem dX3_passHours_1 : decode cX3_passHours 1 = .ok (.istore_n 2, 1) := by decide +kernel
theorem dX3_passHours_2 : decode cX3_passHours 2 = .ok (.iload_n 2, 1) := by decide +kernel
theorem dX3_passHours_3 : decode cX3_passHours 3 = .ok (.iload_n 1, 1) := by decide +kernel
theorem dX3_passHours_4 : decode cX3_passHours 4 = .ok (.if_icmp .ge 58, 3) := by decide +kernel
theorem dX3_passHours_7 : decode cX3_passHours 7 = .ok (.aload_n 0, 1) := by decide +kernel
theorem dX3_passHours_8 : decode cX3_passHours 8 = .ok (.invokevirtual 88, 3) := by decide +kernel
theorem dX3_passHours_11 : decode cX3_passHours 11 = .ok (.aload_n 0, 1) := by decide +kernel
theorem dX3_passHours_12 : decode cX3_passHours 12 = .ok (.invokevirtual 91, 3) := by decide +kernel
theorem dX3_passHours_15 : decode cX3_passHours 15 = .ok (.iconst 0, 1) := by decide +kernel
theorem dX3_passHours_16 : decode cX3_passHours 16 = .ok (.istore_n 3, 1) := by decide +kernel
theorem dX3_passHours_17 : decode cX3_passHours 17 = .ok (.iload_n 3, 1) := by decide +kernel
theorem dX3_passHours_18 : decode cX3_passHours 18 = .ok (.aload_n 0, 1) := by decide +kernel
theorem dX3_passHours_19 : decode cX3_passHours 19 = .ok (.getfield 75, 3) := by decide +kernel
theorem dX3_passHours_22 : decode cX3_passHours 22 = .ok (.if_icmp .ge 24, 3) := by decide +kernel
theorem dX3_passHours_25 : decode cX3_passHours 25 = .ok (.aload_n 0, 1) := by decide +kernel
theorem dX3_passHours_26 : decode cX3_passHours 26 = .ok (.getfield 33, 3) := by decide +kernel
theorem dX3_passHours_29 : decode cX3_passHours 29 = .ok (.iload_n 3, 1) := by decide +kernel
theorem dX3_passHours_30 : decode cX3_passHours 30 = .ok (.aload_n 0, 1) := by decide +kernel
theorem dX3_passHours_31 : decode cX3_passHours 31 = .ok (.getfield 33, 3) := by decide +kernel
theorem dX3_passHours_34 : decode cX3_passHours 34 = .ok (.iload_n 3, 1) := by decide +kernel
theorem dX3_passHours_35 : decode cX3_passHours 35 = .ok (.laload, 1) := by decide +kernel
theorem dX3_passHours_36 : decode cX3_passHours 36 = .ok (.invokestatic 94, 3) := by decide +kernel
theorem dX3_passHours_39 : decode cX3_passHours 39 = .ok (.lastore, 1) := by decide +kernel
theorem dX3_passHours_40 : decode cX3_passHours 40 = .ok (.iinc 3 1, 3) := by decide +kernel
theorem dX3_passHours_43 : decode cX3_passHours 43 = .ok (.goto (-26), 3) := by decide +kernel
theorem dX3_passHours_46 : decode cX3_passHours 46 = .ok (.aload_n 0, 1) := by decide +kernel
theorem dX3_passHours_47 : decode cX3_passHours 47 = .ok (.dup, 1) := by decide +kernel
theorem dX3_passHours_48 : decode cX3_passHours 48 = .ok (.getfield 72, 3) := by decide +kernel
theorem dX3_passHours_51 : decode cX3_passHours 51 = .ok (.iconst 1, 1) := by decide +kernel
theorem dX3_passHours_52 : decode cX3_passHours 52 = .ok (.iadd, 1) := by decide +kernel
theorem dX3_passHours_53 : decode cX3_passHours 53 = .ok (.putfield 72, 3) := by decide +kernel
theorem dX3_passHours_56 : decode cX3_passHours 56 = .ok (.iinc 2 1, 3) := by decide +kernel
theorem dX3_passHours_59 : decode cX3_passHours 59 = .ok (.goto (-57), 3) := by decide +kernel
theorem dX3_passHours_62 : decode cX3_passHours 62 = .ok (.return_, 1) := by decide +kernel
set_option maxRecDepth 20000 in
theorem ggX3_swallowNow_X3_swallowPlace : GoodIn wsX3_swallowNow wsX3_swallowPlace := goodIn_r _ [13, 14, 15, 16, 17, 18, 95, 96, 97, 98, 99, 100, 101, 102, 103, 104, 105, 106, 107, 108, 109, 110, 111, 112] rfl (by decide +kernel)
set_option maxRecDepth 20000 in
theorem gX3_swallowNow_X3_swallowPlace : GoodIn wsX3_swallowNow (wsV RX3 98 RX3 yX3_swallowPlace wsX3_swallowPlace) := goodIn_app (goodIn_r _ [9, 10, 11, 12] rfl (by decide +kernel)) ggX3_swallowNow_X3_swallowPlace
set_option maxRecDepth 20000 in
theorem ggX3_swallowNow_X3_isWhole : GoodIn wsX3_swallowNow wsX3_isWhole := goodIn_r _ [22, 23, 7, 24, 25, 26, 95, 96, 97, 98, 99, 100, 101, 102, 103, 104, 105, 106, 107, 108, 109, 110, 111, 112] rfl (by decide +kernel)
set_option maxRecDepth 20000 in
theorem gX3_swallowNow_X3_isWhole : GoodIn wsX3_swallowNow (wsV RX3 102 RX3 yX3_isWhole wsX3_isWhole) := goodIn_app (goodIn_r _ [19, 20, 21, 12] rfl (by decide +kernel)) ggX3_swallowNow_X3_isWhole
set_option maxRecDepth 20000 in
theorem ggX3_swallowNow_X8_stays : GoodIn wsX3_swallowNow wsX8_stays := goodIn_r _ [32] rfl (by decide +kernel)
set_option maxRecDepth 20000 in
theorem gX3_swallowNow_X8_stays_u106X0 : GoodIn wsX3_swallowNow (va_wsU RX3 106 RX0 "SpoonsLast$Spoon" ⟨"SpoonsLast$Spoon", "stays", "(III)I"⟩ yX8_stays wsX8_stays) := goodIn_app (goodIn_r _ [27, 28, 29, 30, 31] rfl (by decide +kernel)) ggX3_swallowNow_X8_stays
set_option maxRecDepth 20000 in
theorem ggX3_swallowNow_X1_stays : GoodIn wsX3_swallowNow wsX1_stays := goodIn_r _ [37, 38, 39, 40, 41, 42, 43] rfl (by decide +kernel)
set_option maxRecDepth 20000 in
theorem gX3_swallowNow_X1_stays_u106X1 : GoodIn wsX3_swallowNow (va_wsO RX3 106 RX1 "SpoonsLast$Spoon" ⟨"SpoonsLast$Spoon", "stays", "(III)I"⟩ yX1_stays wsX1_stays) := goodIn_app (goodIn_r _ [27, 28, 30, 34, 35, 36] rfl (by decide +kernel)) ggX3_swallowNow_X1_stays
set_option maxRecDepth 20000 in
theorem ggX3_swallowNow_X2_stays : GoodIn wsX3_swallowNow wsX2_stays := goodIn_r _ [47, 48, 28, 49, 30, 31, 32] rfl (by decide +kernel)
set_option maxRecDepth 20000 in
theorem gX3_swallowNow_X2_stays_u106X2 : GoodIn wsX3_swallowNow (va_wsO RX3 106 RX2 "SpoonsLast$Spoon" ⟨"SpoonsLast$Spoon", "stays", "(III)I"⟩ yX2_stays wsX2_stays) := goodIn_app (goodIn_r _ [27, 28, 30, 44, 45, 46] rfl (by decide +kernel)) ggX3_swallowNow_X2_stays
set_option maxRecDepth 20000 in
theorem ggX3_swallowNow_X4_stays : GoodIn wsX3_swallowNow wsX4_stays := goodIn_r _ [53] rfl (by decide +kernel)
set_option maxRecDepth 20000 in
theorem gX3_swallowNow_X4_stays_u106X4 : GoodIn wsX3_swallowNow (va_wsO RX3 106 RX4 "SpoonsLast$Spoon" ⟨"SpoonsLast$Spoon", "stays", "(III)I"⟩ yX4_stays wsX4_stays) := goodIn_app (goodIn_r _ [27, 28, 30, 50, 51, 52] rfl (by decide +kernel)) ggX3_swallowNow_X4_stays
set_option maxRecDepth 20000 in
theorem ggX3_swallowNow_X5_stays : GoodIn wsX3_swallowNow wsX5_stays := goodIn_r _ [43] rfl (by decide +kernel)
set_option maxRecDepth 20000 in
theorem gX3_swallowNow_X5_stays_u106X5 : GoodIn wsX3_swallowNow (va_wsO RX3 106 RX5 "SpoonsLast$Spoon" ⟨"SpoonsLast$Spoon", "stays", "(III)I"⟩ yX5_stays wsX5_stays) := goodIn_app (goodIn_r _ [27, 28, 30, 54, 41, 42] rfl (by decide +kernel)) ggX3_swallowNow_X5_stays
set_option maxRecDepth 20000 in
theorem ggX3_swallowNow_X6_stays : GoodIn wsX3_swallowNow wsX6_stays := goodIn_r _ [58, 59, 60, 61, 45, 46, 47, 48, 28, 49, 30, 31, 32] rfl (by decide +kernel)
set_option maxRecDepth 20000 in
theorem gX3_swallowNow_X6_stays_u106X6 : GoodIn wsX3_swallowNow (va_wsO RX3 106 RX6 "SpoonsLast$Spoon" ⟨"SpoonsLast$Spoon", "stays", "(III)I"⟩ yX6_stays wsX6_stays) := goodIn_app (goodIn_r _ [27, 28, 30, 55, 56, 57] rfl (by decide +kernel)) ggX3_swallowNow_X6_stays
set_option maxRecDepth 20000 in
theorem gX3_swallowNow_X8_stays : GoodIn wsX3_swallowNow (wsV RX3 106 RX8 yX8_stays wsX8_stays) := goodIn_app (goodIn_r _ [27, 30, 63, 31] rfl (by decide +kernel)) ggX3_swallowNow_X8_stays
set_option maxRecDepth 20000 in
theorem ggX3_swallowNow_X3_given : GoodIn wsX3_swallowNow wsX3_given := goodIn_r _ [67, 68, 69, 70, 71, 72, 73, 74, 75, 76, 77, 78, 79, 80, 81, 82, 83, 84, 85, 86, 95, 96, 97, 98, 99, 100, 101, 102, 103, 104, 105, 106, 107, 108, 109, 110, 111, 112, 113, 114, 115, 116, 117, 118, 119] rfl (by decide +kernel)
set_option maxRecDepth 20000 in
theorem gX3_swallowNow_X3_given : GoodIn wsX3_swallowNow (wsV RX3 112 RX3 yX3_given wsX3_given) := goodIn_app (goodIn_r _ [64, 65, 66, 12] rfl (by decide +kernel)) ggX3_swallowNow_X3_given
set_option maxRecDepth 20000 in
theorem ggX3_swallowNow_X3_freshIn : GoodIn wsX3_swallowNow wsX3_freshIn := goodIn_r _ [89] rfl (by decide +kernel)
set_option maxRecDepth 20000 in
theorem gX3_swallowNow_X3_freshIn : GoodIn wsX3_swallowNow (va_wsS RX3 116 yX3_freshIn wsX3_freshIn) := goodIn_app (goodIn_r _ [87, 88, 12] rfl (by decide +kernel)) ggX3_swallowNow_X3_freshIn
set_option maxRecDepth 20000 in
theorem ggX3_swallowNow_X3_withFresh : GoodIn wsX3_swallowNow wsX3_withFresh := goodIn_r _ [92, 93, 94] rfl (by decide +kernel)
set_option maxRecDepth 20000 in
theorem gX3_swallowNow_X3_withFresh : GoodIn wsX3_swallowNow (va_wsS RX3 120 yX3_withFresh wsX3_withFresh) := goodIn_app (goodIn_r _ [90, 91, 12] rfl (by decide +kernel)) ggX3_swallowNow_X3_withFresh
theorem dX3_swallowNow_0 : decode cX3_swallowNow 0 = .ok (.aload_n 0, 1) := by decide +kernel
theorem dX3_swallowNow_1 : decode cX3_swallowNow 1 = .ok (.invokevirtual 98, 3) := by decide +kernel
theorem dX3_swallowNow_4 : decode cX3_swallowNow 4 = .ok (.istore_n 1, 1) := by decide +kernel
theorem dX3_swallowNow_5 : decode cX3_swallowNow 5 = .ok (.aload_n 0, 1) := by decide +kernel
theorem dX3_swallowNow_6 : decode cX3_swallowNow 6 = .ok (.getfield 15, 3) := by decide +kernel
theorem dX3_swallowNow_9 : decode cX3_swallowNow 9 = .ok (.iload_n 1, 1) := by decide +kernel
theorem dX3_swallowNow_10 : decode cX3_swallowNow 10 = .ok (.iaload, 1) := by decide +kernel
theorem dX3_swallowNow_11 : decode cX3_swallowNow 11 = .ok (.istore_n 2, 1) := by decide +kernel
theorem dX3_swallowNow_12 : decode cX3_swallowNow 12 = .ok (.aload_n 0, 1) := by decide +kernel
theorem dX3_swallowNow_13 : decode cX3_swallowNow 13 = .ok (.iload_n 2, 1) := by decide +kernel
theorem dX3_swallowNow_14 : decode cX3_swallowNow 14 = .ok (.invokevirtual 102, 3) := by decide +kernel
theorem dX3_swallowNow_17 : decode cX3_swallowNow 17 = .ok (.ifCond .ne 4, 3) := by decide +kernel
theorem dX3_swallowNow_20 : decode cX3_swallowNow 20 = .ok (.return_, 1) := by decide +kernel
theorem dX3_swallowNow_21 : decode cX3_swallowNow 21 = .ok (.aload_n 0, 1) := by decide +kernel
theorem dX3_swallowNow_22 : decode cX3_swallowNow 22 = .ok (.getfield 18, 3) := by decide +kernel
theorem dX3_swallowNow_25 : decode cX3_swallowNow 25 = .ok (.iload_n 1, 1) := by decide +kernel
theorem dX3_swallowNow_26 : decode cX3_swallowNow 26 = .ok (.iaload, 1) := by decide +kernel
theorem dX3_swallowNow_27 : decode cX3_swallowNow 27 = .ok (.istore_n 3, 1) := by decide +kernel
theorem dX3_swallowNow_28 : decode cX3_swallowNow 28 = .ok (.aload_n 0, 1) := by decide +kernel
theorem dX3_swallowNow_29 : decode cX3_swallowNow 29 = .ok (.getfield 53, 3) := by decide +kernel
theorem dX3_swallowNow_32 : decode cX3_swallowNow 32 = .ok (.aload_n 0, 1) := by decide +kernel
theorem dX3_swallowNow_33 : decode cX3_swallowNow 33 = .ok (.getfield 24, 3) := by decide +kernel
theorem dX3_swallowNow_36 : decode cX3_swallowNow 36 = .ok (.iload_n 2, 1) := by decide +kernel
theorem dX3_swallowNow_37 : decode cX3_swallowNow 37 = .ok (.iaload, 1) := by decide +kernel
theorem dX3_swallowNow_38 : decode cX3_swallowNow 38 = .ok (.aaload, 1) := by decide +kernel
theorem dX3_swallowNow_39 : decode cX3_swallowNow 39 = .ok (.aload_n 0, 1) := by decide +kernel
theorem dX3_swallowNow_40 : decode cX3_swallowNow 40 = .ok (.getfield 27, 3) := by decide +kernel
theorem dX3_swallowNow_43 : decode cX3_swallowNow 43 = .ok (.iload_n 2, 1) := by decide +kernel
theorem dX3_swallowNow_44 : decode cX3_swallowNow 44 = .ok (.iaload, 1) := by decide +kernel
theorem dX3_swallowNow_45 : decode cX3_swallowNow 45 = .ok (.aload_n 0, 1) := by decide +kernel
theorem dX3_swallowNow_46 : decode cX3_swallowNow 46 = .ok (.getfield 9, 3) := by decide +kernel
theorem dX3_swallowNow_49 : decode cX3_swallowNow 49 = .ok (.iload_n 3, 1) := by decide +kernel
theorem dX3_swallowNow_50 : decode cX3_swallowNow 50 = .ok (.iaload, 1) := by decide +kernel
theorem dX3_swallowNow_51 : decode cX3_swallowNow 51 = .ok (.aload_n 0, 1) := by decide +kernel
theorem dX3_swallowNow_52 : decode cX3_swallowNow 52 = .ok (.getfield 30, 3) := by decide +kernel
theorem dX3_swallowNow_55 : decode cX3_swallowNow 55 = .ok (.iload_n 2, 1) := by decide +kernel
theorem dX3_swallowNow_56 : decode cX3_swallowNow 56 = .ok (.iaload, 1) := by decide +kernel
theorem dX3_swallowNow_57 : decode cX3_swallowNow 57 = .ok (.invokevirtual 106, 3) := by decide +kernel
theorem dX3_swallowNow_60 : decode cX3_swallowNow 60 = .ok (.istore 4, 2) := by decide +kernel
theorem dX3_swallowNow_62 : decode cX3_swallowNow 62 = .ok (.aload_n 0, 1) := by decide +kernel
theorem dX3_swallowNow_63 : decode cX3_swallowNow 63 = .ok (.iconst 0, 1) := by decide +kernel
theorem dX3_swallowNow_64 : decode cX3_swallowNow 64 = .ok (.iload 4, 2) := by decide +kernel
theorem dX3_swallowNow_66 : decode cX3_swallowNow 66 = .ok (.aload_n 0, 1) := by decide +kernel
theorem dX3_swallowNow_67 : decode cX3_swallowNow 67 = .ok (.getfield 9, 3) := by decide +kernel
theorem dX3_swallowNow_70 : decode cX3_swallowNow 70 = .ok (.iload_n 3, 1) := by decide +kernel
theorem dX3_swallowNow_71 : decode cX3_swallowNow 71 = .ok (.iaload, 1) := by decide +kernel
theorem dX3_swallowNow_72 : decode cX3_swallowNow 72 = .ok (.aload_n 0, 1) := by decide +kernel
theorem dX3_swallowNow_73 : decode cX3_swallowNow 73 = .ok (.getfield 30, 3) := by decide +kernel
theorem dX3_swallowNow_76 : decode cX3_swallowNow 76 = .ok (.iload_n 2, 1) := by decide +kernel
theorem dX3_swallowNow_77 : decode cX3_swallowNow 77 = .ok (.iaload, 1) := by decide +kernel
theorem dX3_swallowNow_78 : decode cX3_swallowNow 78 = .ok (.invokevirtual 112, 3) := by decide +kernel
theorem dX3_swallowNow_81 : decode cX3_swallowNow 81 = .ok (.istore 5, 2) := by decide +kernel
theorem dX3_swallowNow_83 : decode cX3_swallowNow 83 = .ok (.iload 5, 2) := by decide +kernel
theorem dX3_swallowNow_85 : decode cX3_swallowNow 85 = .ok (.aload_n 0, 1) := by decide +kernel
theorem dX3_swallowNow_86 : decode cX3_swallowNow 86 = .ok (.getfield 33, 3) := by decide +kernel
theorem dX3_swallowNow_89 : decode cX3_swallowNow 89 = .ok (.iload_n 2, 1) := by decide +kernel
theorem dX3_swallowNow_90 : decode cX3_swallowNow 90 = .ok (.laload, 1) := by decide +kernel
theorem dX3_swallowNow_91 : decode cX3_swallowNow 91 = .ok (.iload_n 3, 1) := by decide +kernel
theorem dX3_swallowNow_92 : decode cX3_swallowNow 92 = .ok (.invokestatic 116, 3) := by decide +kernel
theorem dX3_swallowNow_95 : decode cX3_swallowNow 95 = .ok (.if_icmp .le 21, 3) := by decide +kernel
theorem dX3_swallowNow_98 : decode cX3_swallowNow 98 = .ok (.aload_n 0, 1) := by decide +kernel
theorem dX3_swallowNow_99 : decode cX3_swallowNow 99 = .ok (.getfield 33, 3) := by decide +kernel
theorem dX3_swallowNow_102 : decode cX3_swallowNow 102 = .ok (.iload_n 2, 1) := by decide +kernel
theorem dX3_swallowNow_103 : decode cX3_swallowNow 103 = .ok (.aload_n 0, 1) := by decide +kernel
theorem dX3_swallowNow_104 : decode cX3_swallowNow 104 = .ok (.getfield 33, 3) := by decide +kernel
theorem dX3_swallowNow_107 : decode cX3_swallowNow 107 = .ok (.iload_n 2, 1) := by decide +kernel
theorem dX3_swallowNow_108 : decode cX3_swallowNow 108 = .ok (.laload, 1) := by decide +kernel
theorem dX3_swallowNow_109 : decode cX3_swallowNow 109 = .ok (.iload_n 3, 1) := by decide +kernel
theorem dX3_swallowNow_110 : decode cX3_swallowNow 110 = .ok (.iload 5, 2) := by decide +kernel
theorem dX3_swallowNow_112 : decode cX3_swallowNow 112 = .ok (.invokestatic 120, 3) := by decide +kernel
theorem dX3_swallowNow_115 : decode cX3_swallowNow 115 = .ok (.lastore, 1) := by decide +kernel
theorem dX3_swallowNow_116 : decode cX3_swallowNow 116 = .ok (.return_, 1) := by decide +kernel
set_option maxRecDepth 20000 in
theorem ggX3_washNow_J9_floorMod_7cf53 : GoodIn wsX3_washNow wsJ9_floorMod_7cf53 := goodIn_r _ [16] rfl (by decide +kernel)
set_option maxRecDepth 20000 in
theorem gX3_washNow_J9_floorMod_7cf53 : GoodIn wsX3_washNow (va_wsS RX3 124 yJ9_floorMod_7cf53 wsJ9_floorMod_7cf53) := goodIn_app (goodIn_r _ [13, 14, 11] rfl (by decide +kernel)) ggX3_washNow_J9_floorMod_7cf53
set_option maxRecDepth 20000 in
theorem ggX3_washNow_X3_isWhole : GoodIn wsX3_washNow wsX3_isWhole := goodIn_r _ [21, 22, 8, 23, 24, 25, 127, 128, 129, 130, 131, 132, 133, 134, 135, 136, 137, 138, 139, 140, 141, 142, 143, 144] rfl (by decide +kernel)
set_option maxRecDepth 20000 in
theorem gX3_washNow_X3_isWhole : GoodIn wsX3_washNow (wsV RX3 102 RX3 yX3_isWhole wsX3_isWhole) := goodIn_app (goodIn_r _ [17, 18, 19, 20] rfl (by decide +kernel)) ggX3_washNow_X3_isWhole
set_option maxRecDepth 20000 in
theorem ggX3_washNow_X3_rubOf : GoodIn wsX3_washNow wsX3_rubOf := goodIn_r _ [29, 5, 6, 8, 30, 31, 32, 20, 33, 4, 34, 35, 36, 37, 38, 39, 40, 41, 42, 43, 44, 45, 46, 47, 48, 49, 50, 51, 52, 53, 54, 55, 56, 57, 58, 59, 60, 61, 62, 63, 64, 65, 66, 67, 68, 69, 70, 71, 72, 73, 74, 75, 76, 77, 78, 79, 80, 81, 82, 83, 84, 11, 85, 9, 10, 12, 86, 87, 88, 89, 90, 91, 92, 93, 94, 95, 96, 127, 128, 129, 130, 131, 132, 133, 134, 135, 136, 137, 138, 139, 140, 141, 142, 143, 144, 145, 146, 147, 148, 149, 150, 151] rfl (by decide +kernel)
set_option maxRecDepth 20000 in
theorem gX3_washNow_X3_rubOf : GoodIn wsX3_washNow (wsV RX3 130 RX3 yX3_rubOf wsX3_rubOf) := goodIn_app (goodIn_r _ [26, 27, 28, 20] rfl (by decide +kernel)) ggX3_washNow_X3_rubOf
set_option maxRecDepth 20000 in
theorem ggX3_washNow_X0_reads : GoodIn wsX3_washNow wsX0_reads := goodIn_r _ [103] rfl (by decide +kernel)
set_option maxRecDepth 20000 in
theorem gX3_washNow_X0_reads_u134X0 : GoodIn wsX3_washNow (va_wsO RX3 134 RX0 "SpoonsLast$Spoon" ⟨"SpoonsLast$Spoon", "reads", "(I)I"⟩ yX0_reads wsX0_reads) := goodIn_app (goodIn_r _ [97, 98, 99, 100, 101, 102] rfl (by decide +kernel)) ggX3_washNow_X0_reads
set_option maxRecDepth 20000 in
theorem ggX3_washNow_X1_reads : GoodIn wsX3_washNow wsX1_reads := goodIn_r _ [107] rfl (by decide +kernel)
set_option maxRecDepth 20000 in
theorem gX3_washNow_X1_reads_u134X1 : GoodIn wsX3_washNow (va_wsO RX3 134 RX1 "SpoonsLast$Spoon" ⟨"SpoonsLast$Spoon", "reads", "(I)I"⟩ yX1_reads wsX1_reads) := goodIn_app (goodIn_r _ [97, 98, 99, 105, 106, 56] rfl (by decide +kernel)) ggX3_washNow_X1_reads
set_option maxRecDepth 20000 in
theorem ggX3_washNow_X2_reads : GoodIn wsX3_washNow wsX2_reads := goodIn_r _ [110] rfl (by decide +kernel)
set_option maxRecDepth 20000 in
theorem gX3_washNow_X2_reads_u134X2 : GoodIn wsX3_washNow (va_wsO RX3 134 RX2 "SpoonsLast$Spoon" ⟨"SpoonsLast$Spoon", "reads", "(I)I"⟩ yX2_reads wsX2_reads) := goodIn_app (goodIn_r _ [97, 98, 99, 108, 109, 66] rfl (by decide +kernel)) ggX3_washNow_X2_reads
set_option maxRecDepth 20000 in
theorem gX3_washNow_X0_reads_u134X4 : GoodIn wsX3_washNow (va_wsO RX3 134 RX4 "SpoonsLast$Spoon" ⟨"SpoonsLast$Spoon", "reads", "(I)I"⟩ yX0_reads wsX0_reads) := goodIn_app (goodIn_r _ [97, 98, 99, 111, 101, 102] rfl (by decide +kernel)) ggX3_washNow_X0_reads
set_option maxRecDepth 20000 in
theorem ggX3_washNow_X8_reads : GoodIn wsX3_washNow wsX8_reads := goodIn_r _ [104] rfl (by decide +kernel)
set_option maxRecDepth 20000 in
theorem gX3_washNow_X8_reads_u134X5 : GoodIn wsX3_washNow (va_wsU RX3 134 RX5 "SpoonsLast$Spoon" ⟨"SpoonsLast$Spoon", "reads", "(I)I"⟩ yX8_reads wsX8_reads) := goodIn_app (goodIn_r _ [97, 98, 112, 99, 51] rfl (by decide +kernel)) ggX3_washNow_X8_reads
set_option maxRecDepth 20000 in
theorem ggX3_washNow_X6_reads : GoodIn wsX3_washNow wsX6_reads := goodIn_r _ [117, 118, 119, 120, 109, 66, 110] rfl (by decide +kernel)
set_option maxRecDepth 20000 in
theorem gX3_washNow_X6_reads_u134X6 : GoodIn wsX3_washNow (va_wsO RX3 134 RX6 "SpoonsLast$Spoon" ⟨"SpoonsLast$Spoon", "reads", "(I)I"⟩ yX6_reads wsX6_reads) := goodIn_app (goodIn_r _ [97, 98, 99, 114, 115, 116] rfl (by decide +kernel)) ggX3_washNow_X6_reads
set_option maxRecDepth 20000 in
theorem gX3_washNow_X8_reads : GoodIn wsX3_washNow (wsV RX3 134 RX8 yX8_reads wsX8_reads) := goodIn_app (goodIn_r _ [97, 99, 122, 51] rfl (by decide +kernel)) ggX3_washNow_X8_reads
set_option maxRecDepth 20000 in
theorem ggX3_washNow_X3_freshAtLeast : GoodIn wsX3_washNow wsX3_freshAtLeast := goodIn_r _ [36, 37, 38, 20, 39] rfl (by decide +kernel)
set_option maxRecDepth 20000 in
theorem gX3_washNow_X3_freshAtLeast : GoodIn wsX3_washNow (va_wsS RX3 137 yX3_freshAtLeast wsX3_freshAtLeast) := goodIn_app (goodIn_r _ [34, 35, 20] rfl (by decide +kernel)) ggX3_washNow_X3_freshAtLeast
set_option maxRecDepth 20000 in
theorem ggX3_washNow_X3_wordsOn : GoodIn wsX3_washNow wsX3_wordsOn := goodIn_r _ [33, 4, 34, 35, 20, 36, 37, 38, 39, 127, 128, 129, 130, 131, 132, 133, 134, 135, 136, 137, 138, 139, 140, 141, 142, 143, 144] rfl (by decide +kernel)
set_option maxRecDepth 20000 in
theorem gX3_washNow_X3_wordsOn : GoodIn wsX3_washNow (wsV RX3 143 RX3 yX3_wordsOn wsX3_wordsOn) := goodIn_app (goodIn_r _ [30, 31, 32, 20] rfl (by decide +kernel)) ggX3_washNow_X3_wordsOn
set_option maxRecDepth 20000 in
theorem ggX3_washNow_X3_halved : GoodIn wsX3_washNow wsX3_halved := goodIn_r _ [125, 126] rfl (by decide +kernel)
set_option maxRecDepth 20000 in
theorem gX3_washNow_X3_halved : GoodIn wsX3_washNow (va_wsS RX3 146 yX3_halved wsX3_halved) := goodIn_app (goodIn_r _ [123, 124, 20] rfl (by decide +kernel)) ggX3_washNow_X3_halved
theorem dX3_washNow_0 : decode cX3_washNow 0 = .ok (.aload_n 0, 1) := by decide +kernel
theorem dX3_washNow_1 : decode cX3_washNow 1 = .ok (.getfield 21, 3) := by decide +kernel
theorem dX3_washNow_4 : decode cX3_washNow 4 = .ok (.aload_n 0, 1) := by decide +kernel
theorem dX3_washNow_5 : decode cX3_washNow 5 = .ok (.getfield 72, 3) := by decide +kernel
theorem dX3_washNow_8 : decode cX3_washNow 8 = .ok (.iconst 4, 1) := by decide +kernel
theorem dX3_washNow_9 : decode cX3_washNow 9 = .ok (.invokestatic 124, 3) := by decide +kernel
theorem dX3_washNow_12 : decode cX3_washNow 12 = .ok (.iaload, 1) := by decide +kernel
theorem dX3_washNow_13 : decode cX3_washNow 13 = .ok (.istore_n 1, 1) := by decide +kernel
theorem dX3_washNow_14 : decode cX3_washNow 14 = .ok (.aload_n 0, 1) := by decide +kernel
theorem dX3_washNow_15 : decode cX3_washNow 15 = .ok (.iload_n 1, 1) := by decide +kernel
theorem dX3_washNow_16 : decode cX3_washNow 16 = .ok (.invokevirtual 102, 3) := by decide +kernel
theorem dX3_washNow_19 : decode cX3_washNow 19 = .ok (.ifCond .ne 4, 3) := by decide +kernel
theorem dX3_washNow_22 : decode cX3_washNow 22 = .ok (.return_, 1) := by decide +kernel
theorem dX3_washNow_23 : decode cX3_washNow 23 = .ok (.aload_n 0, 1) := by decide +kernel
theorem dX3_washNow_24 : decode cX3_washNow 24 = .ok (.iload_n 1, 1) := by decide +kernel
theorem dX3_washNow_25 : decode cX3_washNow 25 = .ok (.invokevirtual 130, 3) := by decide +kernel
theorem dX3_washNow_28 : decode cX3_washNow 28 = .ok (.istore_n 2, 1) := by decide +kernel
theorem dX3_washNow_29 : decode cX3_washNow 29 = .ok (.aload_n 0, 1) := by decide +kernel
theorem dX3_washNow_30 : decode cX3_washNow 30 = .ok (.dup, 1) := by decide +kernel
theorem dX3_washNow_31 : decode cX3_washNow 31 = .ok (.getfield 69, 3) := by decide +kernel
theorem dX3_washNow_34 : decode cX3_washNow 34 = .ok (.aload_n 0, 1) := by decide +kernel
theorem dX3_washNow_35 : decode cX3_washNow 35 = .ok (.getfield 33, 3) := by decide +kernel
theorem dX3_washNow_38 : decode cX3_washNow 38 = .ok (.iload_n 1, 1) := by decide +kernel
theorem dX3_washNow_39 : decode cX3_washNow 39 = .ok (.laload, 1) := by decide +kernel
theorem dX3_washNow_40 : decode cX3_washNow 40 = .ok (.aload_n 0, 1) := by decide +kernel
theorem dX3_washNow_41 : decode cX3_washNow 41 = .ok (.getfield 53, 3) := by decide +kernel
theorem dX3_washNow_44 : decode cX3_washNow 44 = .ok (.aload_n 0, 1) := by decide +kernel
theorem dX3_washNow_45 : decode cX3_washNow 45 = .ok (.getfield 24, 3) := by decide +kernel
theorem dX3_washNow_48 : decode cX3_washNow 48 = .ok (.iload_n 1, 1) := by decide +kernel
theorem dX3_washNow_49 : decode cX3_washNow 49 = .ok (.iaload, 1) := by decide +kernel
theorem dX3_washNow_50 : decode cX3_washNow 50 = .ok (.aaload, 1) := by decide +kernel
theorem dX3_washNow_51 : decode cX3_washNow 51 = .ok (.aload_n 0, 1) := by decide +kernel
theorem dX3_washNow_52 : decode cX3_washNow 52 = .ok (.getfield 27, 3) := by decide +kernel
theorem dX3_washNow_55 : decode cX3_washNow 55 = .ok (.iload_n 1, 1) := by decide +kernel
theorem dX3_washNow_56 : decode cX3_washNow 56 = .ok (.iaload, 1) := by decide +kernel
theorem dX3_washNow_57 : decode cX3_washNow 57 = .ok (.invokevirtual 134, 3) := by decide +kernel
theorem dX3_washNow_60 : decode cX3_washNow 60 = .ok (.invokestatic 137, 3) := by decide +kernel
theorem dX3_washNow_63 : decode cX3_washNow 63 = .ok (.ior, 1) := by decide +kernel
theorem dX3_washNow_64 : decode cX3_washNow 64 = .ok (.putfield 69, 3) := by decide +kernel
theorem dX3_washNow_67 : decode cX3_washNow 67 = .ok (.aload_n 0, 1) := by decide +kernel
theorem dX3_washNow_68 : decode cX3_washNow 68 = .ok (.getfield 30, 3) := by decide +kernel
theorem dX3_washNow_71 : decode cX3_washNow 71 = .ok (.iload_n 1, 1) := by decide +kernel
theorem dX3_washNow_72 : decode cX3_washNow 72 = .ok (.iconst 0, 1) := by decide +kernel
theorem dX3_washNow_73 : decode cX3_washNow 73 = .ok (.aload_n 0, 1) := by decide +kernel
theorem dX3_washNow_74 : decode cX3_washNow 74 = .ok (.getfield 30, 3) := by decide +kernel
theorem dX3_washNow_77 : decode cX3_washNow 77 = .ok (.iload_n 1, 1) := by decide +kernel
theorem dX3_washNow_78 : decode cX3_washNow 78 = .ok (.iaload, 1) := by decide +kernel
theorem dX3_washNow_79 : decode cX3_washNow 79 = .ok (.iload_n 2, 1) := by decide +kernel
theorem dX3_washNow_80 : decode cX3_washNow 80 = .ok (.isub, 1) := by decide +kernel
theorem dX3_washNow_81 : decode cX3_washNow 81 = .ok (.invokestatic 140, 3) := by decide +kernel
theorem dX3_washNow_84 : decode cX3_washNow 84 = .ok (.iastore, 1) := by decide +kernel
theorem dX3_washNow_85 : decode cX3_washNow 85 = .ok (.aload_n 0, 1) := by decide +kernel
theorem dX3_washNow_86 : decode cX3_washNow 86 = .ok (.getfield 30, 3) := by decide +kernel
theorem dX3_washNow_89 : decode cX3_washNow 89 = .ok (.iload_n 1, 1) := by decide +kernel
theorem dX3_washNow_90 : decode cX3_washNow 90 = .ok (.iaload, 1) := by decide +kernel
theorem dX3_washNow_91 : decode cX3_washNow 91 = .ok (.ifCond .ne 27, 3) := by decide +kernel
theorem dX3_washNow_94 : decode cX3_washNow 94 = .ok (.aload_n 0, 1) := by decide +kernel
theorem dX3_washNow_95 : decode cX3_washNow 95 = .ok (.dup, 1) := by decide +kernel
theorem dX3_washNow_96 : decode cX3_washNow 96 = .ok (.getfield 69, 3) := by decide +kernel
theorem dX3_washNow_99 : decode cX3_washNow 99 = .ok (.aload_n 0, 1) := by decide +kernel
theorem dX3_washNow_100 : decode cX3_washNow 100 = .ok (.iload_n 1, 1) := by decide +kernel
theorem dX3_washNow_101 : decode cX3_washNow 101 = .ok (.invokevirtual 143, 3) := by decide +kernel
theorem dX3_washNow_104 : decode cX3_washNow 104 = .ok (.ior, 1) := by decide +kernel
theorem dX3_washNow_105 : decode cX3_washNow 105 = .ok (.putfield 69, 3) := by decide +kernel
theorem dX3_washNow_108 : decode cX3_washNow 108 = .ok (.aload_n 0, 1) := by decide +kernel
theorem dX3_washNow_109 : decode cX3_washNow 109 = .ok (.getfield 33, 3) := by decide +kernel
theorem dX3_washNow_112 : decode cX3_washNow 112 = .ok (.iload_n 1, 1) := by decide +kernel
theorem dX3_washNow_113 : decode cX3_washNow 113 = .ok (.lconst 0, 1) := by decide +kernel
theorem dX3_washNow_114 : decode cX3_washNow 114 = .ok (.lastore, 1) := by decide +kernel
theorem dX3_washNow_115 : decode cX3_washNow 115 = .ok (.goto 18, 3) := by decide +kernel
theorem dX3_washNow_118 : decode cX3_washNow 118 = .ok (.aload_n 0, 1) := by decide +kernel
theorem dX3_washNow_119 : decode cX3_washNow 119 = .ok (.getfield 33, 3) := by decide +kernel
theorem dX3_washNow_122 : decode cX3_washNow 122 = .ok (.iload_n 1, 1) := by decide +kernel
theorem dX3_washNow_123 : decode cX3_washNow 123 = .ok (.aload_n 0, 1) := by decide +kernel
theorem dX3_washNow_124 : decode cX3_washNow 124 = .ok (.getfield 33, 3) := by decide +kernel
theorem dX3_washNow_127 : decode cX3_washNow 127 = .ok (.iload_n 1, 1) := by decide +kernel
theorem dX3_washNow_128 : decode cX3_washNow 128 = .ok (.laload, 1) := by decide +kernel
theorem dX3_washNow_129 : decode cX3_washNow 129 = .ok (.invokestatic 146, 3) := by decide +kernel
theorem dX3_washNow_132 : decode cX3_washNow 132 = .ok (.lastore, 1) := by decide +kernel
theorem dX3_washNow_133 : decode cX3_washNow 133 = .ok (.return_, 1) := by decide +kernel
set_option maxRecDepth 20000 in
theorem ggX3_drawSwallow_X3_swallowPlace : GoodIn wsX3_drawSwallow wsX3_swallowPlace := goodIn_r _ [7, 8, 9, 10, 11, 12, 19, 20, 21, 22, 23, 24, 25, 26, 27, 28, 29, 30, 31, 32, 33, 34, 35, 36] rfl (by decide +kernel)
set_option maxRecDepth 20000 in
theorem gX3_drawSwallow_X3_swallowPlace : GoodIn wsX3_drawSwallow (wsV RX3 98 RX3 yX3_swallowPlace wsX3_swallowPlace) := goodIn_app (goodIn_r _ [3, 4, 5, 6] rfl (by decide +kernel)) ggX3_drawSwallow_X3_swallowPlace
set_option maxRecDepth 20000 in
theorem ggX3_drawSwallow_X3_draw : GoodIn wsX3_drawSwallow wsX3_draw := goodIn_r _ [16, 17, 18, 19, 20, 21, 22, 23, 24, 25, 26, 27, 28, 29, 30, 31, 32, 33, 34, 35, 36] rfl (by decide +kernel)
set_option maxRecDepth 20000 in
theorem gX3_drawSwallow_X3_draw : GoodIn wsX3_drawSwallow (wsV RX3 149 RX3 yX3_draw wsX3_draw) := goodIn_app (goodIn_r _ [13, 14, 15, 6] rfl (by decide +kernel)) ggX3_drawSwallow_X3_draw
theorem dX3_drawSwallow_0 : decode cX3_drawSwallow 0 = .ok (.aload_n 0, 1) := by decide +kernel
theorem dX3_drawSwallow_1 : decode cX3_drawSwallow 1 = .ok (.invokevirtual 98, 3) := by decide +kernel
theorem dX3_drawSwallow_4 : decode cX3_drawSwallow 4 = .ok (.istore_n 1, 1) := by decide +kernel
theorem dX3_drawSwallow_5 : decode cX3_drawSwallow 5 = .ok (.aload_n 0, 1) := by decide +kernel
theorem dX3_drawSwallow_6 : decode cX3_drawSwallow 6 = .ok (.getfield 15, 3) := by decide +kernel
theorem dX3_drawSwallow_9 : decode cX3_drawSwallow 9 = .ok (.iload_n 1, 1) := by decide +kernel
theorem dX3_drawSwallow_10 : decode cX3_drawSwallow 10 = .ok (.aload_n 0, 1) := by decide +kernel
theorem dX3_drawSwallow_11 : decode cX3_drawSwallow 11 = .ok (.invokevirtual 149, 3) := by decide +kernel
theorem dX3_drawSwallow_14 : decode cX3_drawSwallow 14 = .ok (.bipush 8, 2) := by decide +kernel
theorem dX3_drawSwallow_16 : decode cX3_drawSwallow 16 = .ok (.irem, 1) := by decide +kernel
theorem dX3_drawSwallow_17 : decode cX3_drawSwallow 17 = .ok (.iastore, 1) := by decide +kernel
theorem dX3_drawSwallow_18 : decode cX3_drawSwallow 18 = .ok (.aload_n 0, 1) := by decide +kernel
theorem dX3_drawSwallow_19 : decode cX3_drawSwallow 19 = .ok (.getfield 18, 3) := by decide +kernel
theorem dX3_drawSwallow_22 : decode cX3_drawSwallow 22 = .ok (.iload_n 1, 1) := by decide +kernel
theorem dX3_drawSwallow_23 : decode cX3_drawSwallow 23 = .ok (.aload_n 0, 1) := by decide +kernel
theorem dX3_drawSwallow_24 : decode cX3_drawSwallow 24 = .ok (.invokevirtual 149, 3) := by decide +kernel
theorem dX3_drawSwallow_27 : decode cX3_drawSwallow 27 = .ok (.bipush 12, 2) := by decide +kernel
theorem dX3_drawSwallow_29 : decode cX3_drawSwallow 29 = .ok (.irem, 1) := by decide +kernel
theorem dX3_drawSwallow_30 : decode cX3_drawSwallow 30 = .ok (.iastore, 1) := by decide +kernel
theorem dX3_drawSwallow_31 : decode cX3_drawSwallow 31 = .ok (.return_, 1) := by decide +kernel
theorem dX3_draw_0 : decode cX3_draw 0 = .ok (.aload_n 0, 1) := by decide +kernel
theorem dX3_draw_1 : decode cX3_draw 1 = .ok (.aload_n 0, 1) := by decide +kernel
theorem dX3_draw_2 : decode cX3_draw 2 = .ok (.getfield 46, 3) := by decide +kernel
theorem dX3_draw_5 : decode cX3_draw 5 = .ok (.ldc 152, 2) := by decide +kernel
theorem dX3_draw_7 : decode cX3_draw 7 = .ok (.imul, 1) := by decide +kernel
theorem dX3_draw_8 : decode cX3_draw 8 = .ok (.sipush 12345, 3) := by decide +kernel
theorem dX3_draw_11 : decode cX3_draw 11 = .ok (.iadd, 1) := by decide +kernel
theorem dX3_draw_12 : decode cX3_draw 12 = .ok (.putfield 46, 3) := by decide +kernel
theorem dX3_draw_15 : decode cX3_draw 15 = .ok (.aload_n 0, 1) := by decide +kernel
theorem dX3_draw_16 : decode cX3_draw 16 = .ok (.getfield 46, 3) := by decide +kernel
theorem dX3_draw_19 : decode cX3_draw 19 = .ok (.bipush 8, 2) := by decide +kernel
theorem dX3_draw_21 : decode cX3_draw 21 = .ok (.iushr, 1) := by decide +kernel
theorem dX3_draw_22 : decode cX3_draw 22 = .ok (.ireturn, 1) := by decide +kernel
set_option maxRecDepth 20000 in
theorem ggX3_given_X9_workOut : GoodIn wsX3_given wsX9_workOut := goodIn_r _ [13, 14, 15, 16, 17, 18, 12, 19, 38, 39, 40, 41, 42, 43, 44] rfl (by decide +kernel)
set_option maxRecDepth 20000 in
theorem gX3_given_X9_workOut : GoodIn wsX3_given (wsV RX3 153 RX9 yX9_workOut wsX9_workOut) := goodIn_app (goodIn_r _ [9, 10, 11, 12] rfl (by decide +kernel)) ggX3_given_X9_workOut
theorem dX3_given_0 : decode cX3_given 0 = .ok (.aload_n 0, 1) := by decide +kernel
theorem dX3_given_1 : decode cX3_given 1 = .ok (.getfield 39, 3) := by decide +kernel
theorem dX3_given_4 : decode cX3_given 4 = .ok (.iload_n 1, 1) := by decide +kernel
theorem dX3_given_5 : decode cX3_given 5 = .ok (.aaload, 1) := by decide +kernel
theorem dX3_given_6 : decode cX3_given 6 = .ok (.astore 5, 2) := by decide +kernel
theorem dX3_given_8 : decode cX3_given 8 = .ok (.aload 5, 2) := by decide +kernel
theorem dX3_given_10 : decode cX3_given 10 = .ok (.ifnonnull 7, 3) := by decide +kernel
theorem dX3_given_13 : decode cX3_given 13 = .ok (.iload_n 2, 1) := by decide +kernel
theorem dX3_given_14 : decode cX3_given 14 = .ok (.goto 12, 3) := by decide +kernel
theorem dX3_given_17 : decode cX3_given 17 = .ok (.aload 5, 2) := by decide +kernel
theorem dX3_given_19 : decode cX3_given 19 = .ok (.iload_n 2, 1) := by decide +kernel
theorem dX3_given_20 : decode cX3_given 20 = .ok (.iload_n 3, 1) := by decide +kernel
theorem dX3_given_21 : decode cX3_given 21 = .ok (.iload 4, 2) := by decide +kernel
theorem dX3_given_23 : decode cX3_given 23 = .ok (.invokevirtual 153, 3) := by decide +kernel
theorem dX3_given_26 : decode cX3_given 26 = .ok (.istore 6, 2) := by decide +kernel
theorem dX3_given_28 : decode cX3_given 28 = .ok (.iconst 0, 1) := by decide +kernel
theorem dX3_given_29 : decode cX3_given 29 = .ok (.iload 6, 2) := by decide +kernel
theorem dX3_given_31 : decode cX3_given 31 = .ok (.iload_n 1, 1) := by decide +kernel
theorem dX3_given_32 : decode cX3_given 32 = .ok (.ifCond .ne 8, 3) := by decide +kernel
theorem dX3_given_35 : decode cX3_given 35 = .ok (.bipush 9, 2) := by decide +kernel
theorem dX3_given_37 : decode cX3_given 37 = .ok (.goto 5, 3) := by decide +kernel
theorem dX3_given_40 : decode cX3_given 40 = .ok (.bipush 20, 2) := by decide +kernel
theorem dX3_given_42 : decode cX3_given 42 = .ok (.invokestatic 156, 3) := by decide +kernel
theorem dX3_given_45 : decode cX3_given 45 = .ok (.invokestatic 140, 3) := by decide +kernel
theorem dX3_given_48 : decode cX3_given 48 = .ok (.ireturn, 1) := by decide +kernel
set_option maxRecDepth 20000 in
theorem ggX3_rubOf_X3_wordsOn : GoodIn wsX3_rubOf wsX3_wordsOn := goodIn_r _ [8, 9, 10, 11, 7, 12, 13, 14, 15, 77, 78, 79, 80, 81, 82, 83, 84, 85, 86, 87, 88, 89, 90, 91, 92, 93, 94] rfl (by decide +kernel)
set_option maxRecDepth 20000 in
theorem gX3_rubOf_X3_wordsOn : GoodIn wsX3_rubOf (wsV RX3 143 RX3 yX3_wordsOn wsX3_wordsOn) := goodIn_app (goodIn_r _ [4, 5, 6, 7] rfl (by decide +kernel)) ggX3_rubOf_X3_wordsOn
set_option maxRecDepth 20000 in
theorem ggX3_rubOf_J6_bitCount_0f7a4 : GoodIn wsX3_rubOf wsJ6_bitCount_0f7a4 := goodIn_r _ [19, 20, 21, 22] rfl (by decide +kernel)
set_option maxRecDepth 20000 in
theorem gX3_rubOf_J6_bitCount_0f7a4 : GoodIn wsX3_rubOf (va_wsS RX3 159 yJ6_bitCount_0f7a4 wsJ6_bitCount_0f7a4) := goodIn_app (goodIn_r _ [16, 17, 18] rfl (by decide +kernel)) ggX3_rubOf_J6_bitCount_0f7a4
set_option maxRecDepth 20000 in
theorem ggX3_rubOf_X8_wears : GoodIn wsX3_rubOf wsX8_wears := goodIn_r _ [28] rfl (by decide +kernel)
set_option maxRecDepth 20000 in
theorem gX3_rubOf_X8_wears_u164X0 : GoodIn wsX3_rubOf (va_wsU RX3 164 RX0 "SpoonsLast$Spoon" ⟨"SpoonsLast$Spoon", "wears", "(I)I"⟩ yX8_wears wsX8_wears) := goodIn_app (goodIn_r _ [23, 24, 25, 26, 27] rfl (by decide +kernel)) ggX3_rubOf_X8_wears
set_option maxRecDepth 20000 in
theorem ggX3_rubOf_X1_wears : GoodIn wsX3_rubOf wsX1_wears := goodIn_r _ [33, 34, 35, 36, 37, 38, 39] rfl (by decide +kernel)
set_option maxRecDepth 20000 in
theorem gX3_rubOf_X1_wears_u164X1 : GoodIn wsX3_rubOf (va_wsO RX3 164 RX1 "SpoonsLast$Spoon" ⟨"SpoonsLast$Spoon", "wears", "(I)I"⟩ yX1_wears wsX1_wears) := goodIn_app (goodIn_r _ [23, 24, 26, 30, 31, 32] rfl (by decide +kernel)) ggX3_rubOf_X1_wears
set_option maxRecDepth 20000 in
theorem ggX3_rubOf_X2_wears : GoodIn wsX3_rubOf wsX2_wears := goodIn_r _ [43, 44, 24, 45, 26, 27, 28] rfl (by decide +kernel)
set_option maxRecDepth 20000 in
theorem gX3_rubOf_X2_wears_u164X2 : GoodIn wsX3_rubOf (va_wsO RX3 164 RX2 "SpoonsLast$Spoon" ⟨"SpoonsLast$Spoon", "wears", "(I)I"⟩ yX2_wears wsX2_wears) := goodIn_app (goodIn_r _ [23, 24, 26, 40, 41, 42] rfl (by decide +kernel)) ggX3_rubOf_X2_wears
set_option maxRecDepth 20000 in
theorem ggX3_rubOf_X4_wears : GoodIn wsX3_rubOf wsX4_wears := goodIn_r _ [49] rfl (by decide +kernel)
set_option maxRecDepth 20000 in
theorem gX3_rubOf_X4_wears_u164X4 : GoodIn wsX3_rubOf (va_wsO RX3 164 RX4 "SpoonsLast$Spoon" ⟨"SpoonsLast$Spoon", "wears", "(I)I"⟩ yX4_wears wsX4_wears) := goodIn_app (goodIn_r _ [23, 24, 26, 46, 47, 48] rfl (by decide +kernel)) ggX3_rubOf_X4_wears
set_option maxRecDepth 20000 in
theorem ggX3_rubOf_X5_wears : GoodIn wsX3_rubOf wsX5_wears := goodIn_r _ [39] rfl (by decide +kernel)
set_option maxRecDepth 20000 in
theorem gX3_rubOf_X5_wears_u164X5 : GoodIn wsX3_rubOf (va_wsO RX3 164 RX5 "SpoonsLast$Spoon" ⟨"SpoonsLast$Spoon", "wears", "(I)I"⟩ yX5_wears wsX5_wears) := goodIn_app (goodIn_r _ [23, 24, 26, 50, 37, 38] rfl (by decide +kernel)) ggX3_rubOf_X5_wears
set_option maxRecDepth 20000 in
theorem gX3_rubOf_X2_wears_u164X6 : GoodIn wsX3_rubOf (va_wsO RX3 164 RX6 "SpoonsLast$Spoon" ⟨"SpoonsLast$Spoon", "wears", "(I)I"⟩ yX2_wears wsX2_wears) := goodIn_app (goodIn_r _ [23, 24, 26, 51, 41, 42] rfl (by decide +kernel)) ggX3_rubOf_X2_wears
set_option maxRecDepth 20000 in
theorem gX3_rubOf_X8_wears : GoodIn wsX3_rubOf (wsV RX3 164 RX8 yX8_wears wsX8_wears) := goodIn_app (goodIn_r _ [23, 26, 53, 27] rfl (by decide +kernel)) ggX3_rubOf_X8_wears
set_option maxRecDepth 20000 in
theorem ggX3_rubOf_X3_given : GoodIn wsX3_rubOf wsX3_given := goodIn_r _ [57, 58, 59, 60, 61, 62, 63, 64, 65, 66, 67, 68, 69, 70, 71, 72, 73, 74, 75, 76, 77, 78, 79, 80, 81, 82, 83, 84, 85, 86, 87, 88, 89, 90, 91, 92, 93, 94, 95, 96, 97, 98, 99, 100, 101] rfl (by decide +kernel)
set_option maxRecDepth 20000 in
theorem gX3_rubOf_X3_given : GoodIn wsX3_rubOf (wsV RX3 112 RX3 yX3_given wsX3_given) := goodIn_app (goodIn_r _ [54, 55, 56, 7] rfl (by decide +kernel)) ggX3_rubOf_X3_given
theorem dX3_rubOf_0 : decode cX3_rubOf 0 = .ok (.aload_n 0, 1) := by decide +kernel
theorem dX3_rubOf_1 : decode cX3_rubOf 1 = .ok (.iload_n 1, 1) := by decide +kernel
theorem dX3_rubOf_2 : decode cX3_rubOf 2 = .ok (.invokevirtual 143, 3) := by decide +kernel
theorem dX3_rubOf_5 : decode cX3_rubOf 5 = .ok (.invokestatic 159, 3) := by decide +kernel
theorem dX3_rubOf_8 : decode cX3_rubOf 8 = .ok (.istore_n 2, 1) := by decide +kernel
theorem dX3_rubOf_9 : decode cX3_rubOf 9 = .ok (.aload_n 0, 1) := by decide +kernel
theorem dX3_rubOf_10 : decode cX3_rubOf 10 = .ok (.iconst 1, 1) := by decide +kernel
theorem dX3_rubOf_11 : decode cX3_rubOf 11 = .ok (.aload_n 0, 1) := by decide +kernel
theorem dX3_rubOf_12 : decode cX3_rubOf 12 = .ok (.getfield 53, 3) := by decide +kernel
theorem dX3_rubOf_15 : decode cX3_rubOf 15 = .ok (.aload_n 0, 1) := by decide +kernel
theorem dX3_rubOf_16 : decode cX3_rubOf 16 = .ok (.getfield 24, 3) := by decide +kernel
theorem dX3_rubOf_19 : decode cX3_rubOf 19 = .ok (.iload_n 1, 1) := by decide +kernel
theorem dX3_rubOf_20 : decode cX3_rubOf 20 = .ok (.iaload, 1) := by decide +kernel
theorem dX3_rubOf_21 : decode cX3_rubOf 21 = .ok (.aaload, 1) := by decide +kernel
theorem dX3_rubOf_22 : decode cX3_rubOf 22 = .ok (.iload_n 2, 1) := by decide +kernel
theorem dX3_rubOf_23 : decode cX3_rubOf 23 = .ok (.invokevirtual 164, 3) := by decide +kernel
theorem dX3_rubOf_26 : decode cX3_rubOf 26 = .ok (.aload_n 0, 1) := by decide +kernel
theorem dX3_rubOf_27 : decode cX3_rubOf 27 = .ok (.getfield 30, 3) := by decide +kernel
theorem dX3_rubOf_30 : decode cX3_rubOf 30 = .ok (.iload_n 1, 1) := by decide +kernel
theorem dX3_rubOf_31 : decode cX3_rubOf 31 = .ok (.iaload, 1) := by decide +kernel
theorem dX3_rubOf_32 : decode cX3_rubOf 32 = .ok (.iload_n 2, 1) := by decide +kernel
theorem dX3_rubOf_33 : decode cX3_rubOf 33 = .ok (.invokevirtual 112, 3) := by decide +kernel
theorem dX3_rubOf_36 : decode cX3_rubOf 36 = .ok (.ireturn, 1) := by decide +kernel
set_option maxRecDepth 20000 in
theorem ggX3_unlikeSpreads_X3_passHours : GoodIn wsX3_unlikeSpreads wsX3_passHours := goodIn_r _ [6, 7, 8, 9, 10, 11, 12, 5, 13, 14, 15, 16, 17, 18, 19, 20, 21, 22, 23, 24, 25, 26, 27, 28, 29, 30, 31, 32, 33, 34, 35, 36, 37, 38, 39, 40, 41, 42, 43, 44, 45, 46, 47, 48, 49, 50, 51, 52, 53, 54, 55, 56, 57, 58, 59, 60, 61, 62, 63, 64, 65, 66, 67, 68, 69, 70, 71, 72, 73, 74, 75, 76, 77, 78, 79, 80, 81, 82, 83, 84, 85, 86, 87, 88, 89, 90, 91, 92, 93, 94, 95, 96, 97, 98, 99, 100, 101, 102, 103, 104, 105, 106, 107, 108, 1, 109, 110, 111, 112, 113, 114, 115, 116, 117, 118, 119, 120, 121, 122, 123, 124, 125, 126, 127, 128, 129, 130, 131, 132, 133, 134, 135, 136, 137, 138, 139, 140, 141, 142, 143, 144, 145, 146, 147, 148, 149, 150, 151, 152, 153, 154, 155, 156, 157, 158, 159, 160, 161, 162, 163, 164, 165, 166, 167, 168, 169, 170, 171, 172, 173, 174, 175, 176, 177, 178, 179, 180, 181, 182, 183, 184, 185, 186, 187, 188, 189, 190, 191, 192, 193, 194, 195, 196, 197, 198, 199, 200, 201, 202, 203, 204, 205, 206, 207] rfl (by decide +kernel)
set_option maxRecDepth 20000 in
theorem gX3_unlikeSpreads_X3_passHours : GoodIn wsX3_unlikeSpreads (wsV RX3 167 RX3 yX3_passHours wsX3_passHours) := goodIn_app (goodIn_r _ [2, 3, 4, 5] rfl (by decide +kernel)) ggX3_unlikeSpreads_X3_passHours
set_option maxRecDepth 20000 in
theorem ggX3_unlikeSpreads_J6_bitCount_0f7a4 : GoodIn wsX3_unlikeSpreads wsJ6_bitCount_0f7a4 := goodIn_r _ [123, 124, 125, 126] rfl (by decide +kernel)
set_option maxRecDepth 20000 in
theorem gX3_unlikeSpreads_J6_bitCount_0f7a4 : GoodIn wsX3_unlikeSpreads (va_wsS RX3 159 yJ6_bitCount_0f7a4 wsJ6_bitCount_0f7a4) := goodIn_app (goodIn_r _ [120, 121, 122] rfl (by decide +kernel)) ggX3_unlikeSpreads_J6_bitCount_0f7a4
theorem dX3_unlikeSpreads_0 : decode cX3_unlikeSpreads 0 = .ok (.iconst 0, 1) := by decide +kernel
theorem dX3_unlikeSpreads_1 : decode cX3_unlikeSpreads 1 = .ok (.istore_n 3, 1) := by decide +kernel
theorem dX3_unlikeSpreads_2 : decode cX3_unlikeSpreads 2 = .ok (.iload_n 3, 1) := by decide +kernel
theorem dX3_unlikeSpreads_3 : decode cX3_unlikeSpreads 3 = .ok (.iload_n 2, 1) := by decide +kernel
theorem dX3_unlikeSpreads_4 : decode cX3_unlikeSpreads 4 = .ok (.if_icmp .ge 29, 3) := by decide +kernel
theorem dX3_unlikeSpreads_7 : decode cX3_unlikeSpreads 7 = .ok (.aload_n 0, 1) := by decide +kernel
theorem dX3_unlikeSpreads_8 : decode cX3_unlikeSpreads 8 = .ok (.iconst 1, 1) := by decide +kernel
theorem dX3_unlikeSpreads_9 : decode cX3_unlikeSpreads 9 = .ok (.invokevirtual 167, 3) := by decide +kernel
theorem dX3_unlikeSpreads_12 : decode cX3_unlikeSpreads 12 = .ok (.aload_n 1, 1) := by decide +kernel
theorem dX3_unlikeSpreads_13 : decode cX3_unlikeSpreads 13 = .ok (.iload_n 3, 1) := by decide +kernel
theorem dX3_unlikeSpreads_14 : decode cX3_unlikeSpreads 14 = .ok (.iaload, 1) := by decide +kernel
theorem dX3_unlikeSpreads_15 : decode cX3_unlikeSpreads 15 = .ok (.aload_n 0, 1) := by decide +kernel
theorem dX3_unlikeSpreads_16 : decode cX3_unlikeSpreads 16 = .ok (.getfield 69, 3) := by decide +kernel
theorem dX3_unlikeSpreads_19 : decode cX3_unlikeSpreads 19 = .ok (.invokestatic 159, 3) := by decide +kernel
theorem dX3_unlikeSpreads_22 : decode cX3_unlikeSpreads 22 = .ok (.if_icmp .eq 5, 3) := by decide +kernel
theorem dX3_unlikeSpreads_25 : decode cX3_unlikeSpreads 25 = .ok (.iload_n 3, 1) := by decide +kernel
theorem dX3_unlikeSpreads_26 : decode cX3_unlikeSpreads 26 = .ok (.ireturn, 1) := by decide +kernel
theorem dX3_unlikeSpreads_27 : decode cX3_unlikeSpreads 27 = .ok (.iinc 3 1, 3) := by decide +kernel
theorem dX3_unlikeSpreads_30 : decode cX3_unlikeSpreads 30 = .ok (.goto (-28), 3) := by decide +kernel
theorem dX3_unlikeSpreads_33 : decode cX3_unlikeSpreads 33 = .ok (.iconst (-1), 1) := by decide +kernel
theorem dX3_unlikeSpreads_34 : decode cX3_unlikeSpreads 34 = .ok (.ireturn, 1) := by decide +kernel
set_option maxRecDepth 20000 in
theorem ggX3_swallowPlace_J9_floorMod_7cf53 : GoodIn wsX3_swallowPlace wsJ9_floorMod_7cf53 := goodIn_r _ [5] rfl (by decide +kernel)
set_option maxRecDepth 20000 in
theorem gX3_swallowPlace_J9_floorMod_7cf53 : GoodIn wsX3_swallowPlace (va_wsS RX3 124 yJ9_floorMod_7cf53 wsJ9_floorMod_7cf53) := goodIn_app (goodIn_r _ [2, 3, 4] rfl (by decide +kernel)) ggX3_swallowPlace_J9_floorMod_7cf53
theorem dX3_swallowPlace_0 : decode cX3_swallowPlace 0 = .ok (.aload_n 0, 1) := by decide +kernel
theorem dX3_swallowPlace_1 : decode cX3_swallowPlace 1 = .ok (.getfield 72, 3) := by decide +kernel
theorem dX3_swallowPlace_4 : decode cX3_swallowPlace 4 = .ok (.bipush 6, 2) := by decide +kernel
theorem dX3_swallowPlace_6 : decode cX3_swallowPlace 6 = .ok (.invokestatic 124, 3) := by decide +kernel
theorem dX3_swallowPlace_9 : decode cX3_swallowPlace 9 = .ok (.ireturn, 1) := by decide +kernel
theorem dX3_swallowAt_0 : decode cX3_swallowAt 0 = .ok (.bipush 12, 2) := by decide +kernel
theorem dX3_swallowAt_2 : decode cX3_swallowAt 2 = .ok (.aload_n 0, 1) := by decide +kernel
theorem dX3_swallowAt_3 : decode cX3_swallowAt 3 = .ok (.getfield 15, 3) := by decide +kernel
theorem dX3_swallowAt_6 : decode cX3_swallowAt 6 = .ok (.iload_n 1, 1) := by decide +kernel
theorem dX3_swallowAt_7 : decode cX3_swallowAt 7 = .ok (.iaload, 1) := by decide +kernel
theorem dX3_swallowAt_8 : decode cX3_swallowAt 8 = .ok (.iconst 1, 1) := by decide +kernel
theorem dX3_swallowAt_9 : decode cX3_swallowAt 9 = .ok (.iadd, 1) := by decide +kernel
theorem dX3_swallowAt_10 : decode cX3_swallowAt 10 = .ok (.imul, 1) := by decide +kernel
theorem dX3_swallowAt_11 : decode cX3_swallowAt 11 = .ok (.aload_n 0, 1) := by decide +kernel
theorem dX3_swallowAt_12 : decode cX3_swallowAt 12 = .ok (.getfield 18, 3) := by decide +kernel
theorem dX3_swallowAt_15 : decode cX3_swallowAt 15 = .ok (.iload_n 1, 1) := by decide +kernel
theorem dX3_swallowAt_16 : decode cX3_swallowAt 16 = .ok (.iaload, 1) := by decide +kernel
theorem dX3_swallowAt_17 : decode cX3_swallowAt 17 = .ok (.iadd, 1) := by decide +kernel
theorem dX3_swallowAt_18 : decode cX3_swallowAt 18 = .ok (.ireturn, 1) := by decide +kernel
theorem dX3_knows_0 : decode cX3_knows 0 = .ok (.aload_n 0, 1) := by decide +kernel
theorem dX3_knows_1 : decode cX3_knows 1 = .ok (.getfield 69, 3) := by decide +kernel
theorem dX3_knows_4 : decode cX3_knows 4 = .ok (.iload_n 1, 1) := by decide +kernel
theorem dX3_knows_5 : decode cX3_knows 5 = .ok (.ishr, 1) := by decide +kernel
theorem dX3_knows_6 : decode cX3_knows 6 = .ok (.iconst 1, 1) := by decide +kernel
theorem dX3_knows_7 : decode cX3_knows 7 = .ok (.iand, 1) := by decide +kernel
theorem dX3_knows_8 : decode cX3_knows 8 = .ok (.iconst 1, 1) := by decide +kernel
theorem dX3_knows_9 : decode cX3_knows 9 = .ok (.if_icmp .ne 7, 3) := by decide +kernel
theorem dX3_knows_12 : decode cX3_knows 12 = .ok (.iconst 1, 1) := by decide +kernel
theorem dX3_knows_13 : decode cX3_knows 13 = .ok (.goto 4, 3) := by decide +kernel
theorem dX3_knows_16 : decode cX3_knows 16 = .ok (.iconst 0, 1) := by decide +kernel
theorem dX3_knows_17 : decode cX3_knows 17 = .ok (.ireturn, 1) := by decide +kernel
set_option maxRecDepth 20000 in
theorem ggX3_isWhole_X11_within : GoodIn wsX3_isWhole wsX11_within := goodIn_r _ [5] rfl (by decide +kernel)
set_option maxRecDepth 20000 in
theorem gX3_isWhole_X11_within_n171 : GoodIn wsX3_isWhole (wsX11_within) := ggX3_isWhole_X11_within
theorem dX3_isWhole_0 : decode cX3_isWhole 0 = .ok (.iload_n 1, 1) := by decide +kernel
theorem dX3_isWhole_1 : decode cX3_isWhole 1 = .ok (.iconst 0, 1) := by decide +kernel
theorem dX3_isWhole_2 : decode cX3_isWhole 2 = .ok (.aload_n 0, 1) := by decide +kernel
theorem dX3_isWhole_3 : decode cX3_isWhole 3 = .ok (.getfield 75, 3) := by decide +kernel
theorem dX3_isWhole_6 : decode cX3_isWhole 6 = .ok (.iconst 1, 1) := by decide +kernel
theorem dX3_isWhole_7 : decode cX3_isWhole 7 = .ok (.isub, 1) := by decide +kernel
theorem dX3_isWhole_8 : decode cX3_isWhole 8 = .ok (.invokestatic 171, 3) := by decide +kernel
theorem dX3_isWhole_11 : decode cX3_isWhole 11 = .ok (.ifCond .eq 16, 3) := by decide +kernel
theorem dX3_isWhole_14 : decode cX3_isWhole 14 = .ok (.aload_n 0, 1) := by decide +kernel
theorem dX3_isWhole_15 : decode cX3_isWhole 15 = .ok (.getfield 30, 3) := by decide +kernel
theorem dX3_isWhole_18 : decode cX3_isWhole 18 = .ok (.iload_n 1, 1) := by decide +kernel
theorem dX3_isWhole_19 : decode cX3_isWhole 19 = .ok (.iaload, 1) := by decide +kernel
theorem dX3_isWhole_20 : decode cX3_isWhole 20 = .ok (.ifCond .le 7, 3) := by decide +kernel
theorem dX3_isWhole_23 : decode cX3_isWhole 23 = .ok (.iconst 1, 1) := by decide +kernel
theorem dX3_isWhole_24 : decode cX3_isWhole 24 = .ok (.goto 4, 3) := by decide +kernel
theorem dX3_isWhole_27 : decode cX3_isWhole 27 = .ok (.iconst 0, 1) := by decide +kernel
theorem dX3_isWhole_28 : decode cX3_isWhole 28 = .ok (.ireturn, 1) := by decide +kernel
set_option maxRecDepth 20000 in
theorem ggX3_wordsOn_X3_freshAtLeast : GoodIn wsX3_wordsOn wsX3_freshAtLeast := goodIn_r _ [5, 6, 7, 4, 8] rfl (by decide +kernel)
set_option maxRecDepth 20000 in
theorem gX3_wordsOn_X3_freshAtLeast : GoodIn wsX3_wordsOn (va_wsS RX3 137 yX3_freshAtLeast wsX3_freshAtLeast) := goodIn_app (goodIn_r _ [2, 3, 4] rfl (by decide +kernel)) ggX3_wordsOn_X3_freshAtLeast
theorem dX3_wordsOn_0 : decode cX3_wordsOn 0 = .ok (.aload_n 0, 1) := by decide +kernel
theorem dX3_wordsOn_1 : decode cX3_wordsOn 1 = .ok (.getfield 33, 3) := by decide +kernel
theorem dX3_wordsOn_4 : decode cX3_wordsOn 4 = .ok (.iload_n 1, 1) := by decide +kernel
theorem dX3_wordsOn_5 : decode cX3_wordsOn 5 = .ok (.laload, 1) := by decide +kernel
theorem dX3_wordsOn_6 : decode cX3_wordsOn 6 = .ok (.iconst 1, 1) := by decide +kernel
theorem dX3_wordsOn_7 : decode cX3_wordsOn 7 = .ok (.invokestatic 137, 3) := by decide +kernel
theorem dX3_wordsOn_10 : decode cX3_wordsOn 10 = .ok (.ireturn, 1) := by decide +kernel
set_option maxRecDepth 20000 in
theorem ggX3_wordsOnAny_X3_wordsOn : GoodIn wsX3_wordsOnAny wsX3_wordsOn := goodIn_r _ [6, 7, 8, 9, 5, 10, 11, 12, 13, 14, 15, 16, 17, 18, 19, 20, 21, 22, 23, 24, 25, 26, 27, 28, 29, 30, 31] rfl (by decide +kernel)
set_option maxRecDepth 20000 in
theorem gX3_wordsOnAny_X3_wordsOn : GoodIn wsX3_wordsOnAny (wsV RX3 143 RX3 yX3_wordsOn wsX3_wordsOn) := goodIn_app (goodIn_r _ [2, 3, 4, 5] rfl (by decide +kernel)) ggX3_wordsOnAny_X3_wordsOn
theorem dX3_wordsOnAny_0 : decode cX3_wordsOnAny 0 = .ok (.iconst 0, 1) := by decide +kernel
theorem dX3_wordsOnAny_1 : decode cX3_wordsOnAny 1 = .ok (.istore_n 2, 1) := by decide +kernel
theorem dX3_wordsOnAny_2 : decode cX3_wordsOnAny 2 = .ok (.iconst 0, 1) := by decide +kernel
theorem dX3_wordsOnAny_3 : decode cX3_wordsOnAny 3 = .ok (.istore_n 3, 1) := by decide +kernel
theorem dX3_wordsOnAny_4 : decode cX3_wordsOnAny 4 = .ok (.iload_n 3, 1) := by decide +kernel
theorem dX3_wordsOnAny_5 : decode cX3_wordsOnAny 5 = .ok (.aload_n 0, 1) := by decide +kernel
theorem dX3_wordsOnAny_6 : decode cX3_wordsOnAny 6 = .ok (.getfield 75, 3) := by decide +kernel
theorem dX3_wordsOnAny_9 : decode cX3_wordsOnAny 9 = .ok (.if_icmp .ge 26, 3) := by decide +kernel
theorem dX3_wordsOnAny_12 : decode cX3_wordsOnAny 12 = .ok (.iload_n 1, 1) := by decide +kernel
theorem dX3_wordsOnAny_13 : decode cX3_wordsOnAny 13 = .ok (.iload_n 3, 1) := by decide +kernel
theorem dX3_wordsOnAny_14 : decode cX3_wordsOnAny 14 = .ok (.ishr, 1) := by decide +kernel
theorem dX3_wordsOnAny_15 : decode cX3_wordsOnAny 15 = .ok (.iconst 1, 1) := by decide +kernel
theorem dX3_wordsOnAny_16 : decode cX3_wordsOnAny 16 = .ok (.iand, 1) := by decide +kernel
theorem dX3_wordsOnAny_17 : decode cX3_wordsOnAny 17 = .ok (.iconst 1, 1) := by decide +kernel
theorem dX3_wordsOnAny_18 : decode cX3_wordsOnAny 18 = .ok (.if_icmp .ne 11, 3) := by decide +kernel
theorem dX3_wordsOnAny_21 : decode cX3_wordsOnAny 21 = .ok (.iload_n 2, 1) := by decide +kernel
theorem dX3_wordsOnAny_22 : decode cX3_wordsOnAny 22 = .ok (.aload_n 0, 1) := by decide +kernel
theorem dX3_wordsOnAny_23 : decode cX3_wordsOnAny 23 = .ok (.iload_n 3, 1) := by decide +kernel
theorem dX3_wordsOnAny_24 : decode cX3_wordsOnAny 24 = .ok (.invokevirtual 143, 3) := by decide +kernel
theorem dX3_wordsOnAny_27 : decode cX3_wordsOnAny 27 = .ok (.ior, 1) := by decide +kernel
theorem dX3_wordsOnAny_28 : decode cX3_wordsOnAny 28 = .ok (.istore_n 2, 1) := by decide +kernel
theorem dX3_wordsOnAny_29 : decode cX3_wordsOnAny 29 = .ok (.iinc 3 1, 3) := by decide +kernel
theorem dX3_wordsOnAny_32 : decode cX3_wordsOnAny 32 = .ok (.goto (-28), 3) := by decide +kernel
theorem dX3_wordsOnAny_35 : decode cX3_wordsOnAny 35 = .ok (.iload_n 2, 1) := by decide +kernel
theorem dX3_wordsOnAny_36 : decode cX3_wordsOnAny 36 = .ok (.ireturn, 1) := by decide +kernel
set_option maxRecDepth 20000 in
theorem ggX3_spoonsWith_X3_freshIn : GoodIn wsX3_spoonsWith wsX3_freshIn := goodIn_r _ [6] rfl (by decide +kernel)
set_option maxRecDepth 20000 in
theorem gX3_spoonsWith_X3_freshIn : GoodIn wsX3_spoonsWith (va_wsS RX3 116 yX3_freshIn wsX3_freshIn) := goodIn_app (goodIn_r _ [3, 4, 5] rfl (by decide +kernel)) ggX3_spoonsWith_X3_freshIn
theorem dX3_spoonsWith_0 : decode cX3_spoonsWith 0 = .ok (.iconst 0, 1) := by decide +kernel
theorem dX3_spoonsWith_1 : decode cX3_spoonsWith 1 = .ok (.istore_n 2, 1) := by decide +kernel
theorem dX3_spoonsWith_2 : decode cX3_spoonsWith 2 = .ok (.iconst 0, 1) := by decide +kernel
theorem dX3_spoonsWith_3 : decode cX3_spoonsWith 3 = .ok (.istore_n 3, 1) := by decide +kernel
theorem dX3_spoonsWith_4 : decode cX3_spoonsWith 4 = .ok (.iload_n 3, 1) := by decide +kernel
theorem dX3_spoonsWith_5 : decode cX3_spoonsWith 5 = .ok (.aload_n 0, 1) := by decide +kernel
theorem dX3_spoonsWith_6 : decode cX3_spoonsWith 6 = .ok (.getfield 75, 3) := by decide +kernel
theorem dX3_spoonsWith_9 : decode cX3_spoonsWith 9 = .ok (.if_icmp .ge 28, 3) := by decide +kernel
theorem dX3_spoonsWith_12 : decode cX3_spoonsWith 12 = .ok (.aload_n 0, 1) := by decide +kernel
theorem dX3_spoonsWith_13 : decode cX3_spoonsWith 13 = .ok (.getfield 33, 3) := by decide +kernel
theorem dX3_spoonsWith_16 : decode cX3_spoonsWith 16 = .ok (.iload_n 3, 1) := by decide +kernel
theorem dX3_spoonsWith_17 : decode cX3_spoonsWith 17 = .ok (.laload, 1) := by decide +kernel
theorem dX3_spoonsWith_18 : decode cX3_spoonsWith 18 = .ok (.iload_n 1, 1) := by decide +kernel
theorem dX3_spoonsWith_19 : decode cX3_spoonsWith 19 = .ok (.invokestatic 116, 3) := by decide +kernel
theorem dX3_spoonsWith_22 : decode cX3_spoonsWith 22 = .ok (.ifCond .le 9, 3) := by decide +kernel
theorem dX3_spoonsWith_25 : decode cX3_spoonsWith 25 = .ok (.iload_n 2, 1) := by decide +kernel
theorem dX3_spoonsWith_26 : decode cX3_spoonsWith 26 = .ok (.iconst 1, 1) := by decide +kernel
theorem dX3_spoonsWith_27 : decode cX3_spoonsWith 27 = .ok (.iload_n 3, 1) := by decide +kernel
theorem dX3_spoonsWith_28 : decode cX3_spoonsWith 28 = .ok (.ishl, 1) := by decide +kernel
theorem dX3_spoonsWith_29 : decode cX3_spoonsWith 29 = .ok (.ior, 1) := by decide +kernel
theorem dX3_spoonsWith_30 : decode cX3_spoonsWith 30 = .ok (.istore_n 2, 1) := by decide +kernel
theorem dX3_spoonsWith_31 : decode cX3_spoonsWith 31 = .ok (.iinc 3 1, 3) := by decide +kernel
theorem dX3_spoonsWith_34 : decode cX3_spoonsWith 34 = .ok (.goto (-30), 3) := by decide +kernel
theorem dX3_spoonsWith_37 : decode cX3_spoonsWith 37 = .ok (.iload_n 2, 1) := by decide +kernel
theorem dX3_spoonsWith_38 : decode cX3_spoonsWith 38 = .ok (.ireturn, 1) := by decide +kernel
set_option maxRecDepth 20000 in
theorem ggX3_clashes_X3_wordsOn : GoodIn wsX3_clashes wsX3_wordsOn := goodIn_r _ [6, 7, 8, 9, 5, 10, 11, 12, 13, 14, 15, 16, 17, 18, 19, 20, 21, 22, 23, 24, 25, 26, 27, 28, 29, 30, 31] rfl (by decide +kernel)
set_option maxRecDepth 20000 in
theorem gX3_clashes_X3_wordsOn : GoodIn wsX3_clashes (wsV RX3 143 RX3 yX3_wordsOn wsX3_wordsOn) := goodIn_app (goodIn_r _ [2, 3, 4, 5] rfl (by decide +kernel)) ggX3_clashes_X3_wordsOn
theorem dX3_clashes_0 : decode cX3_clashes 0 = .ok (.iconst 0, 1) := by decide +kernel
theorem dX3_clashes_1 : decode cX3_clashes 1 = .ok (.istore_n 2, 1) := by decide +kernel
theorem dX3_clashes_2 : decode cX3_clashes 2 = .ok (.iconst 0, 1) := by decide +kernel
theorem dX3_clashes_3 : decode cX3_clashes 3 = .ok (.istore_n 3, 1) := by decide +kernel
theorem dX3_clashes_4 : decode cX3_clashes 4 = .ok (.iload_n 3, 1) := by decide +kernel
theorem dX3_clashes_5 : decode cX3_clashes 5 = .ok (.aload_n 0, 1) := by decide +kernel
theorem dX3_clashes_6 : decode cX3_clashes 6 = .ok (.getfield 75, 3) := by decide +kernel
theorem dX3_clashes_9 : decode cX3_clashes 9 = .ok (.if_icmp .ge 39, 3) := by decide +kernel
theorem dX3_clashes_12 : decode cX3_clashes 12 = .ok (.iload_n 1, 1) := by decide +kernel
theorem dX3_clashes_13 : decode cX3_clashes 13 = .ok (.iload_n 3, 1) := by decide +kernel
theorem dX3_clashes_14 : decode cX3_clashes 14 = .ok (.ishr, 1) := by decide +kernel
theorem dX3_clashes_15 : decode cX3_clashes 15 = .ok (.iconst 1, 1) := by decide +kernel
theorem dX3_clashes_16 : decode cX3_clashes 16 = .ok (.iand, 1) := by decide +kernel
theorem dX3_clashes_17 : decode cX3_clashes 17 = .ok (.iconst 1, 1) := by decide +kernel
theorem dX3_clashes_18 : decode cX3_clashes 18 = .ok (.if_icmp .ne 24, 3) := by decide +kernel
theorem dX3_clashes_21 : decode cX3_clashes 21 = .ok (.aload_n 0, 1) := by decide +kernel
theorem dX3_clashes_22 : decode cX3_clashes 22 = .ok (.iload_n 3, 1) := by decide +kernel
theorem dX3_clashes_23 : decode cX3_clashes 23 = .ok (.invokevirtual 143, 3) := by decide +kernel
theorem dX3_clashes_26 : decode cX3_clashes 26 = .ok (.istore 4, 2) := by decide +kernel
theorem dX3_clashes_28 : decode cX3_clashes 28 = .ok (.iload_n 2, 1) := by decide +kernel
theorem dX3_clashes_29 : decode cX3_clashes 29 = .ok (.iload 4, 2) := by decide +kernel
theorem dX3_clashes_31 : decode cX3_clashes 31 = .ok (.iand, 1) := by decide +kernel
theorem dX3_clashes_32 : decode cX3_clashes 32 = .ok (.ifCond .eq 5, 3) := by decide +kernel
theorem dX3_clashes_35 : decode cX3_clashes 35 = .ok (.iconst 1, 1) := by decide +kernel
theorem dX3_clashes_36 : decode cX3_clashes 36 = .ok (.ireturn, 1) := by decide +kernel
theorem dX3_clashes_37 : decode cX3_clashes 37 = .ok (.iload_n 2, 1) := by decide +kernel
theorem dX3_clashes_38 : decode cX3_clashes 38 = .ok (.iload 4, 2) := by decide +kernel
theorem dX3_clashes_40 : decode cX3_clashes 40 = .ok (.ior, 1) := by decide +kernel
theorem dX3_clashes_41 : decode cX3_clashes 41 = .ok (.istore_n 2, 1) := by decide +kernel
theorem dX3_clashes_42 : decode cX3_clashes 42 = .ok (.iinc 3 1, 3) := by decide +kernel
theorem dX3_clashes_45 : decode cX3_clashes 45 = .ok (.goto (-41), 3) := by decide +kernel
theorem dX3_clashes_48 : decode cX3_clashes 48 = .ok (.iconst 0, 1) := by decide +kernel
theorem dX3_clashes_49 : decode cX3_clashes 49 = .ok (.ireturn, 1) := by decide +kernel
theorem dX3_weightOf_0 : decode cX3_weightOf 0 = .ok (.iconst 0, 1) := by decide +kernel
theorem dX3_weightOf_1 : decode cX3_weightOf 1 = .ok (.istore_n 2, 1) := by decide +kernel
theorem dX3_weightOf_2 : decode cX3_weightOf 2 = .ok (.iconst 0, 1) := by decide +kernel
theorem dX3_weightOf_3 : decode cX3_weightOf 3 = .ok (.istore_n 3, 1) := by decide +kernel
theorem dX3_weightOf_4 : decode cX3_weightOf 4 = .ok (.iload_n 3, 1) := by decide +kernel
theorem dX3_weightOf_5 : decode cX3_weightOf 5 = .ok (.bipush 12, 2) := by decide +kernel
theorem dX3_weightOf_7 : decode cX3_weightOf 7 = .ok (.if_icmp .ge 27, 3) := by decide +kernel
theorem dX3_weightOf_10 : decode cX3_weightOf 10 = .ok (.iload_n 1, 1) := by decide +kernel
theorem dX3_weightOf_11 : decode cX3_weightOf 11 = .ok (.iload_n 3, 1) := by decide +kernel
theorem dX3_weightOf_12 : decode cX3_weightOf 12 = .ok (.ishr, 1) := by decide +kernel
theorem dX3_weightOf_13 : decode cX3_weightOf 13 = .ok (.iconst 1, 1) := by decide +kernel
theorem dX3_weightOf_14 : decode cX3_weightOf 14 = .ok (.iand, 1) := by decide +kernel
theorem dX3_weightOf_15 : decode cX3_weightOf 15 = .ok (.iconst 1, 1) := by decide +kernel
theorem dX3_weightOf_16 : decode cX3_weightOf 16 = .ok (.if_icmp .ne 12, 3) := by decide +kernel
theorem dX3_weightOf_19 : decode cX3_weightOf 19 = .ok (.iload_n 2, 1) := by decide +kernel
theorem dX3_weightOf_20 : decode cX3_weightOf 20 = .ok (.aload_n 0, 1) := by decide +kernel
theorem dX3_weightOf_21 : decode cX3_weightOf 21 = .ok (.getfield 9, 3) := by decide +kernel
theorem dX3_weightOf_24 : decode cX3_weightOf 24 = .ok (.iload_n 3, 1) := by decide +kernel
theorem dX3_weightOf_25 : decode cX3_weightOf 25 = .ok (.iaload, 1) := by decide +kernel
theorem dX3_weightOf_26 : decode cX3_weightOf 26 = .ok (.iadd, 1) := by decide +kernel
theorem dX3_weightOf_27 : decode cX3_weightOf 27 = .ok (.istore_n 2, 1) := by decide +kernel
theorem dX3_weightOf_28 : decode cX3_weightOf 28 = .ok (.iinc 3 1, 3) := by decide +kernel
theorem dX3_weightOf_31 : decode cX3_weightOf 31 = .ok (.goto (-27), 3) := by decide +kernel
theorem dX3_weightOf_34 : decode cX3_weightOf 34 = .ok (.iload_n 2, 1) := by decide +kernel
theorem dX3_weightOf_35 : decode cX3_weightOf 35 = .ok (.ireturn, 1) := by decide +kernel
theorem dX3_allSilver_0 : decode cX3_allSilver 0 = .ok (.iconst 0, 1) := by decide +kernel
theorem dX3_allSilver_1 : decode cX3_allSilver 1 = .ok (.istore_n 1, 1) := by decide +kernel
theorem dX3_allSilver_2 : decode cX3_allSilver 2 = .ok (.iconst 0, 1) := by decide +kernel
theorem dX3_allSilver_3 : decode cX3_allSilver 3 = .ok (.istore_n 2, 1) := by decide +kernel
theorem dX3_allSilver_4 : decode cX3_allSilver 4 = .ok (.iload_n 2, 1) := by decide +kernel
theorem dX3_allSilver_5 : decode cX3_allSilver 5 = .ok (.aload_n 0, 1) := by decide +kernel
theorem dX3_allSilver_6 : decode cX3_allSilver 6 = .ok (.getfield 75, 3) := by decide +kernel
theorem dX3_allSilver_9 : decode cX3_allSilver 9 = .ok (.if_icmp .ge 18, 3) := by decide +kernel
theorem dX3_allSilver_12 : decode cX3_allSilver 12 = .ok (.iload_n 1, 1) := by decide +kernel
theorem dX3_allSilver_13 : decode cX3_allSilver 13 = .ok (.aload_n 0, 1) := by decide +kernel
theorem dX3_allSilver_14 : decode cX3_allSilver 14 = .ok (.getfield 30, 3) := by decide +kernel
theorem dX3_allSilver_17 : decode cX3_allSilver 17 = .ok (.iload_n 2, 1) := by decide +kernel
theorem dX3_allSilver_18 : decode cX3_allSilver 18 = .ok (.iaload, 1) := by decide +kernel
theorem dX3_allSilver_19 : decode cX3_allSilver 19 = .ok (.iadd, 1) := by decide +kernel
theorem dX3_allSilver_20 : decode cX3_allSilver 20 = .ok (.istore_n 1, 1) := by decide +kernel
theorem dX3_allSilver_21 : decode cX3_allSilver 21 = .ok (.iinc 2 1, 3) := by decide +kernel
theorem dX3_allSilver_24 : decode cX3_allSilver 24 = .ok (.goto (-20), 3) := by decide +kernel
theorem dX3_allSilver_27 : decode cX3_allSilver 27 = .ok (.iload_n 1, 1) := by decide +kernel
theorem dX3_allSilver_28 : decode cX3_allSilver 28 = .ok (.ireturn, 1) := by decide +kernel
theorem dX3_freshIn_0 : decode cX3_freshIn 0 = .ok (.lload_n 0, 1) := by decide +kernel
theorem dX3_freshIn_1 : decode cX3_freshIn 1 = .ok (.iconst 4, 1) := by decide +kernel
theorem dX3_freshIn_2 : decode cX3_freshIn 2 = .ok (.iload_n 2, 1) := by decide +kernel
theorem dX3_freshIn_3 : decode cX3_freshIn 3 = .ok (.imul, 1) := by decide +kernel
theorem dX3_freshIn_4 : decode cX3_freshIn 4 = .ok (.lushr, 1) := by decide +kernel
theorem dX3_freshIn_5 : decode cX3_freshIn 5 = .ok (.l2i, 1) := by decide +kernel
theorem dX3_freshIn_6 : decode cX3_freshIn 6 = .ok (.bipush 15, 2) := by decide +kernel
theorem dX3_freshIn_8 : decode cX3_freshIn 8 = .ok (.iand, 1) := by decide +kernel
theorem dX3_freshIn_9 : decode cX3_freshIn 9 = .ok (.ireturn, 1) := by decide +kernel
theorem dX3_withFresh_0 : decode cX3_withFresh 0 = .ok (.lload_n 0, 1) := by decide +kernel
theorem dX3_withFresh_1 : decode cX3_withFresh 1 = .ok (.ldc2_w 175, 3) := by decide +kernel
theorem dX3_withFresh_4 : decode cX3_withFresh 4 = .ok (.iconst 4, 1) := by decide +kernel
theorem dX3_withFresh_5 : decode cX3_withFresh 5 = .ok (.iload_n 2, 1) := by decide +kernel
theorem dX3_withFresh_6 : decode cX3_withFresh 6 = .ok (.imul, 1) := by decide +kernel
theorem dX3_withFresh_7 : decode cX3_withFresh 7 = .ok (.lshl, 1) := by decide +kernel
theorem dX3_withFresh_8 : decode cX3_withFresh 8 = .ok (.ldc2_w 177, 3) := by decide +kernel
theorem dX3_withFresh_11 : decode cX3_withFresh 11 = .ok (.lxor, 1) := by decide +kernel
theorem dX3_withFresh_12 : decode cX3_withFresh 12 = .ok (.land, 1) := by decide +kernel
theorem dX3_withFresh_13 : decode cX3_withFresh 13 = .ok (.iload_n 3, 1) := by decide +kernel
theorem dX3_withFresh_14 : decode cX3_withFresh 14 = .ok (.i2l, 1) := by decide +kernel
theorem dX3_withFresh_15 : decode cX3_withFresh 15 = .ok (.iconst 4, 1) := by decide +kernel
theorem dX3_withFresh_16 : decode cX3_withFresh 16 = .ok (.iload_n 2, 1) := by decide +kernel
theorem dX3_withFresh_17 : decode cX3_withFresh 17 = .ok (.imul, 1) := by decide +kernel
theorem dX3_withFresh_18 : decode cX3_withFresh 18 = .ok (.lshl, 1) := by decide +kernel
theorem dX3_withFresh_19 : decode cX3_withFresh 19 = .ok (.lor, 1) := by decide +kernel
theorem dX3_withFresh_20 : decode cX3_withFresh 20 = .ok (.lreturn, 1) := by decide +kernel
set_option maxRecDepth 20000 in
theorem ggX3_freshAtLeast_X3_freshIn : GoodIn wsX3_freshAtLeast wsX3_freshIn := goodIn_r _ [4] rfl (by decide +kernel)
set_option maxRecDepth 20000 in
theorem gX3_freshAtLeast_X3_freshIn : GoodIn wsX3_freshAtLeast (va_wsS RX3 116 yX3_freshIn wsX3_freshIn) := goodIn_app (goodIn_r _ [1, 2, 3] rfl (by decide +kernel)) ggX3_freshAtLeast_X3_freshIn
theorem dX3_freshAtLeast_0 : decode cX3_freshAtLeast 0 = .ok (.iconst 0, 1) := by decide +kernel
theorem dX3_freshAtLeast_1 : decode cX3_freshAtLeast 1 = .ok (.istore_n 3, 1) := by decide +kernel
theorem dX3_freshAtLeast_2 : decode cX3_freshAtLeast 2 = .ok (.lload_n 0, 1) := by decide +kernel
theorem dX3_freshAtLeast_3 : decode cX3_freshAtLeast 3 = .ok (.lconst 0, 1) := by decide +kernel
theorem dX3_freshAtLeast_4 : decode cX3_freshAtLeast 4 = .ok (.lcmp, 1) := by decide +kernel
theorem dX3_freshAtLeast_5 : decode cX3_freshAtLeast 5 = .ok (.ifCond .eq 36, 3) := by decide +kernel
theorem dX3_freshAtLeast_8 : decode cX3_freshAtLeast 8 = .ok (.iconst 0, 1) := by decide +kernel
theorem dX3_freshAtLeast_9 : decode cX3_freshAtLeast 9 = .ok (.istore 4, 2) := by decide +kernel
theorem dX3_freshAtLeast_11 : decode cX3_freshAtLeast 11 = .ok (.iload 4, 2) := by decide +kernel
theorem dX3_freshAtLeast_13 : decode cX3_freshAtLeast 13 = .ok (.bipush 12, 2) := by decide +kernel
theorem dX3_freshAtLeast_15 : decode cX3_freshAtLeast 15 = .ok (.if_icmp .ge 26, 3) := by decide +kernel
theorem dX3_freshAtLeast_18 : decode cX3_freshAtLeast 18 = .ok (.lload_n 0, 1) := by decide +kernel
theorem dX3_freshAtLeast_19 : decode cX3_freshAtLeast 19 = .ok (.iload 4, 2) := by decide +kernel
theorem dX3_freshAtLeast_21 : decode cX3_freshAtLeast 21 = .ok (.invokestatic 116, 3) := by decide +kernel
theorem dX3_freshAtLeast_24 : decode cX3_freshAtLeast 24 = .ok (.iload_n 2, 1) := by decide +kernel
theorem dX3_freshAtLeast_25 : decode cX3_freshAtLeast 25 = .ok (.if_icmp .lt 10, 3) := by decide +kernel
theorem dX3_freshAtLeast_28 : decode cX3_freshAtLeast 28 = .ok (.iload_n 3, 1) := by decide +kernel
theorem dX3_freshAtLeast_29 : decode cX3_freshAtLeast 29 = .ok (.iconst 1, 1) := by decide +kernel
theorem dX3_freshAtLeast_30 : decode cX3_freshAtLeast 30 = .ok (.iload 4, 2) := by decide +kernel
theorem dX3_freshAtLeast_32 : decode cX3_freshAtLeast 32 = .ok (.ishl, 1) := by decide +kernel
theorem dX3_freshAtLeast_33 : decode cX3_freshAtLeast 33 = .ok (.ior, 1) := by decide +kernel
theorem dX3_freshAtLeast_34 : decode cX3_freshAtLeast 34 = .ok (.istore_n 3, 1) := by decide +kernel
theorem dX3_freshAtLeast_35 : decode cX3_freshAtLeast 35 = .ok (.iinc 4 1, 3) := by decide +kernel
theorem dX3_freshAtLeast_38 : decode cX3_freshAtLeast 38 = .ok (.goto (-27), 3) := by decide +kernel
theorem dX3_freshAtLeast_41 : decode cX3_freshAtLeast 41 = .ok (.iload_n 3, 1) := by decide +kernel
theorem dX3_freshAtLeast_42 : decode cX3_freshAtLeast 42 = .ok (.ireturn, 1) := by decide +kernel
theorem dX3_halved_0 : decode cX3_halved 0 = .ok (.lload_n 0, 1) := by decide +kernel
theorem dX3_halved_1 : decode cX3_halved 1 = .ok (.iconst 1, 1) := by decide +kernel
theorem dX3_halved_2 : decode cX3_halved 2 = .ok (.lushr, 1) := by decide +kernel
theorem dX3_halved_3 : decode cX3_halved 3 = .ok (.ldc2_w 179, 3) := by decide +kernel
theorem dX3_halved_6 : decode cX3_halved 6 = .ok (.land, 1) := by decide +kernel
theorem dX3_halved_7 : decode cX3_halved 7 = .ok (.lreturn, 1) := by decide +kernel
theorem dX3_aged_0 : decode cX3_aged 0 = .ok (.lload_n 0, 1) := by decide +kernel
theorem dX3_aged_1 : decode cX3_aged 1 = .ok (.lload_n 0, 1) := by decide +kernel
theorem dX3_aged_2 : decode cX3_aged 2 = .ok (.iconst 1, 1) := by decide +kernel
theorem dX3_aged_3 : decode cX3_aged 3 = .ok (.lushr, 1) := by decide +kernel
theorem dX3_aged_4 : decode cX3_aged 4 = .ok (.lor, 1) := by decide +kernel
theorem dX3_aged_5 : decode cX3_aged 5 = .ok (.lstore_n 2, 1) := by decide +kernel
theorem dX3_aged_6 : decode cX3_aged 6 = .ok (.lload_n 2, 1) := by decide +kernel
theorem dX3_aged_7 : decode cX3_aged 7 = .ok (.lload_n 2, 1) := by decide +kernel
theorem dX3_aged_8 : decode cX3_aged 8 = .ok (.iconst 2, 1) := by decide +kernel
theorem dX3_aged_9 : decode cX3_aged 9 = .ok (.lushr, 1) := by decide +kernel
theorem dX3_aged_10 : decode cX3_aged 10 = .ok (.lor, 1) := by decide +kernel
theorem dX3_aged_11 : decode cX3_aged 11 = .ok (.lstore_n 2, 1) := by decide +kernel
theorem dX3_aged_12 : decode cX3_aged 12 = .ok (.lload_n 0, 1) := by decide +kernel
theorem dX3_aged_13 : decode cX3_aged 13 = .ok (.lload_n 2, 1) := by decide +kernel
theorem dX3_aged_14 : decode cX3_aged 14 = .ok (.ldc2_w 181, 3) := by decide +kernel
theorem dX3_aged_17 : decode cX3_aged 17 = .ok (.land, 1) := by decide +kernel
theorem dX3_aged_18 : decode cX3_aged 18 = .ok (.lsub, 1) := by decide +kernel
theorem dX3_aged_19 : decode cX3_aged 19 = .ok (.lreturn, 1) := by decide +kernel
set_option maxRecDepth 20000 in
theorem ggX4_init_X0_init : GoodIn wsX4_init wsX0_init := goodIn_r _ [3, 4, 5, 6, 7, 8, 9] rfl (by decide +kernel)
set_option maxRecDepth 20000 in
theorem gX4_init_X0_init_n1 : GoodIn wsX4_init (wsX0_init) := ggX4_init_X0_init
theorem dX4_init_0 : decode cX4_init 0 = .ok (.aload_n 0, 1) := by decide +kernel
theorem dX4_init_1 : decode cX4_init 1 = .ok (.invokespecial 1, 3) := by decide +kernel
theorem dX4_init_4 : decode cX4_init 4 = .ok (.return_, 1) := by decide +kernel
theorem dX4_stays_0 : decode cX4_stays 0 = .ok (.aload_n 0, 1) := by decide +kernel
theorem dX4_stays_1 : decode cX4_stays 1 = .ok (.iload_n 1, 1) := by decide +kernel
theorem dX4_stays_2 : decode cX4_stays 2 = .ok (.iload_n 2, 1) := by decide +kernel
theorem dX4_stays_3 : decode cX4_stays 3 = .ok (.iload_n 3, 1) := by decide +kernel
theorem dX4_stays_4 : decode cX4_stays 4 = .ok (.invokespecial 7, 3) := by decide +kernel
theorem dX4_stays_7 : decode cX4_stays 7 = .ok (.iload_n 1, 1) := by decide +kernel
theorem dX4_stays_8 : decode cX4_stays 8 = .ok (.iconst 3, 1) := by decide +kernel
theorem dX4_stays_9 : decode cX4_stays 9 = .ok (.idiv, 1) := by decide +kernel
theorem dX4_stays_10 : decode cX4_stays 10 = .ok (.iadd, 1) := by decide +kernel
theorem dX4_stays_11 : decode cX4_stays 11 = .ok (.ireturn, 1) := by decide +kernel
theorem dX4_wears_0 : decode cX4_wears 0 = .ok (.iload_n 1, 1) := by decide +kernel
theorem dX4_wears_1 : decode cX4_wears 1 = .ok (.ifCond .ne 7, 3) := by decide +kernel
theorem dX4_wears_4 : decode cX4_wears 4 = .ok (.iconst 0, 1) := by decide +kernel
theorem dX4_wears_5 : decode cX4_wears 5 = .ok (.goto 8, 3) := by decide +kernel
theorem dX4_wears_8 : decode cX4_wears 8 = .ok (.aload_n 0, 1) := by decide +kernel
theorem dX4_wears_9 : decode cX4_wears 9 = .ok (.iload_n 1, 1) := by decide +kernel
theorem dX4_wears_10 : decode cX4_wears 10 = .ok (.invokespecial 11, 3) := by decide +kernel
theorem dX4_wears_13 : decode cX4_wears 13 = .ok (.ireturn, 1) := by decide +kernel
set_option maxRecDepth 20000 in
theorem ggX4_dulls_X10_begins : GoodIn wsX4_dulls wsX10_begins := goodIn_r _ [5, 6, 7, 49, 50, 51, 52] rfl (by decide +kernel)
set_option maxRecDepth 20000 in
theorem gX4_dulls_X10_begins : GoodIn wsX4_dulls (wsV RX4 15 RX10 yX10_begins wsX10_begins) := goodIn_app (goodIn_r _ [1, 2, 3, 4] rfl (by decide +kernel)) ggX4_dulls_X10_begins
set_option maxRecDepth 20000 in
theorem ggX4_dulls_X0_dulls : GoodIn wsX4_dulls wsX0_dulls := goodIn_r _ [13, 14, 2, 3, 4, 5, 6, 7, 15, 16, 17, 18, 19, 20, 21, 22, 23, 24, 25, 26, 27, 28, 29, 30, 31, 32, 33, 34, 35, 36, 37, 38, 39, 40, 41, 42, 43, 44, 45, 46, 47, 48, 49, 50, 51, 52] rfl (by decide +kernel)
set_option maxRecDepth 20000 in
theorem gX4_dulls_X0_dulls_s21 : GoodIn wsX4_dulls (va_wsSU RX4 21 yX0_dulls wsX0_dulls) := goodIn_app (goodIn_r _ [8, 9, 10, 11, 12] rfl (by decide +kernel)) ggX4_dulls_X0_dulls
theorem dX4_dulls_0 : decode cX4_dulls 0 = .ok (.aload_n 1, 1) := by decide +kernel
theorem dX4_dulls_1 : decode cX4_dulls 1 = .ok (.bipush 60, 2) := by decide +kernel
theorem dX4_dulls_3 : decode cX4_dulls 3 = .ok (.invokevirtual 15, 3) := by decide +kernel
theorem dX4_dulls_6 : decode cX4_dulls 6 = .ok (.aload_n 0, 1) := by decide +kernel
theorem dX4_dulls_7 : decode cX4_dulls 7 = .ok (.aload_n 1, 1) := by decide +kernel
theorem dX4_dulls_8 : decode cX4_dulls 8 = .ok (.iload_n 2, 1) := by decide +kernel
theorem dX4_dulls_9 : decode cX4_dulls 9 = .ok (.iconst 1, 1) := by decide +kernel
theorem dX4_dulls_10 : decode cX4_dulls 10 = .ok (.iadd, 1) := by decide +kernel
theorem dX4_dulls_11 : decode cX4_dulls 11 = .ok (.invokespecial 21, 3) := by decide +kernel
theorem dX4_dulls_14 : decode cX4_dulls 14 = .ok (.ireturn, 1) := by decide +kernel
set_option maxRecDepth 20000 in
theorem ggX5_init_X8_init : GoodIn wsX5_init wsX8_init := goodIn_r _ [3, 4, 5, 6] rfl (by decide +kernel)
set_option maxRecDepth 20000 in
theorem gX5_init_X8_init_n1 : GoodIn wsX5_init (wsX8_init) := ggX5_init_X8_init
theorem dX5_init_0 : decode cX5_init 0 = .ok (.aload_n 0, 1) := by decide +kernel
theorem dX5_init_1 : decode cX5_init 1 = .ok (.invokespecial 1, 3) := by decide +kernel
theorem dX5_init_4 : decode cX5_init 4 = .ok (.return_, 1) := by decide +kernel
theorem dX5_stays_0 : decode cX5_stays 0 = .ok (.iload_n 2, 1) := by decide +kernel
theorem dX5_stays_1 : decode cX5_stays 1 = .ok (.ireturn, 1) := by decide +kernel
theorem dX5_wears_0 : decode cX5_wears 0 = .ok (.iconst 3, 1) := by decide +kernel
theorem dX5_wears_1 : decode cX5_wears 1 = .ok (.ireturn, 1) := by decide +kernel
set_option maxRecDepth 20000 in
theorem ggX5_holds_X10_begins : GoodIn wsX5_holds wsX10_begins := goodIn_r _ [5, 6, 7, 16, 17, 18, 19] rfl (by decide +kernel)
set_option maxRecDepth 20000 in
theorem gX5_holds_X10_begins : GoodIn wsX5_holds (wsV RX5 7 RX10 yX10_begins wsX10_begins) := goodIn_app (goodIn_r _ [1, 2, 3, 4] rfl (by decide +kernel)) ggX5_holds_X10_begins
set_option maxRecDepth 20000 in
theorem ggX5_holds_X8_holds : GoodIn wsX5_holds wsX8_holds := goodIn_r _ [13, 14, 15, 2, 3, 4, 5, 6, 7, 16, 17, 18, 19] rfl (by decide +kernel)
set_option maxRecDepth 20000 in
theorem gX5_holds_X8_holds_s13 : GoodIn wsX5_holds (va_wsSU RX5 13 yX8_holds wsX8_holds) := goodIn_app (goodIn_r _ [8, 9, 10, 11, 12] rfl (by decide +kernel)) ggX5_holds_X8_holds
theorem dX5_holds_0 : decode cX5_holds 0 = .ok (.aload_n 1, 1) := by decide +kernel
theorem dX5_holds_1 : decode cX5_holds 1 = .ok (.bipush 40, 2) := by decide +kernel
theorem dX5_holds_3 : decode cX5_holds 3 = .ok (.invokevirtual 7, 3) := by decide +kernel
theorem dX5_holds_6 : decode cX5_holds 6 = .ok (.aload_n 0, 1) := by decide +kernel
theorem dX5_holds_7 : decode cX5_holds 7 = .ok (.aload_n 1, 1) := by decide +kernel
theorem dX5_holds_8 : decode cX5_holds 8 = .ok (.iload_n 2, 1) := by decide +kernel
theorem dX5_holds_9 : decode cX5_holds 9 = .ok (.invokespecial 13, 3) := by decide +kernel
theorem dX5_holds_12 : decode cX5_holds 12 = .ok (.ineg, 1) := by decide +kernel
theorem dX5_holds_13 : decode cX5_holds 13 = .ok (.ireturn, 1) := by decide +kernel
set_option maxRecDepth 20000 in
theorem ggX6_init_X2_init : GoodIn wsX6_init wsX2_init := goodIn_r _ [3, 4, 5, 6, 7, 8, 9] rfl (by decide +kernel)
set_option maxRecDepth 20000 in
theorem gX6_init_X2_init_n1 : GoodIn wsX6_init (wsX2_init) := ggX6_init_X2_init
theorem dX6_init_0 : decode cX6_init 0 = .ok (.aload_n 0, 1) := by decide +kernel
theorem dX6_init_1 : decode cX6_init 1 = .ok (.invokespecial 1, 3) := by decide +kernel
theorem dX6_init_4 : decode cX6_init 4 = .ok (.return_, 1) := by decide +kernel
set_option maxRecDepth 20000 in
theorem ggX6_stays_X2_stays : GoodIn wsX6_stays wsX2_stays := goodIn_r _ [6, 7, 8, 9, 10, 11, 12] rfl (by decide +kernel)
set_option maxRecDepth 20000 in
theorem gX6_stays_X2_stays_s7 : GoodIn wsX6_stays (va_wsSU RX6 7 yX2_stays wsX2_stays) := goodIn_app (goodIn_r _ [1, 2, 3, 4, 5] rfl (by decide +kernel)) ggX6_stays_X2_stays
theorem dX6_stays_0 : decode cX6_stays 0 = .ok (.aload_n 0, 1) := by decide +kernel
theorem dX6_stays_1 : decode cX6_stays 1 = .ok (.iload_n 1, 1) := by decide +kernel
theorem dX6_stays_2 : decode cX6_stays 2 = .ok (.iload_n 2, 1) := by decide +kernel
theorem dX6_stays_3 : decode cX6_stays 3 = .ok (.iload_n 3, 1) := by decide +kernel
theorem dX6_stays_4 : decode cX6_stays 4 = .ok (.invokespecial 7, 3) := by decide +kernel
theorem dX6_stays_7 : decode cX6_stays 7 = .ok (.iconst 2, 1) := by decide +kernel
theorem dX6_stays_8 : decode cX6_stays 8 = .ok (.imul, 1) := by decide +kernel
theorem dX6_stays_9 : decode cX6_stays 9 = .ok (.ireturn, 1) := by decide +kernel
set_option maxRecDepth 20000 in
theorem ggX6_reads_X2_reads : GoodIn wsX6_reads wsX2_reads := goodIn_r _ [6] rfl (by decide +kernel)
set_option maxRecDepth 20000 in
theorem gX6_reads_X2_reads_s11 : GoodIn wsX6_reads (va_wsSU RX6 11 yX2_reads wsX2_reads) := goodIn_app (goodIn_r _ [1, 2, 3, 4, 5] rfl (by decide +kernel)) ggX6_reads_X2_reads
theorem dX6_reads_0 : decode cX6_reads 0 = .ok (.iload_n 1, 1) := by decide +kernel
theorem dX6_reads_1 : decode cX6_reads 1 = .ok (.iconst 4, 1) := by decide +kernel
theorem dX6_reads_2 : decode cX6_reads 2 = .ok (.if_icmp .le 7, 3) := by decide +kernel
theorem dX6_reads_5 : decode cX6_reads 5 = .ok (.iconst 1, 1) := by decide +kernel
theorem dX6_reads_6 : decode cX6_reads 6 = .ok (.goto 8, 3) := by decide +kernel
theorem dX6_reads_9 : decode cX6_reads 9 = .ok (.aload_n 0, 1) := by decide +kernel
theorem dX6_reads_10 : decode cX6_reads 10 = .ok (.iload_n 1, 1) := by decide +kernel
theorem dX6_reads_11 : decode cX6_reads 11 = .ok (.invokespecial 11, 3) := by decide +kernel
theorem dX6_reads_14 : decode cX6_reads 14 = .ok (.ireturn, 1) := by decide +kernel
set_option maxRecDepth 20000 in
theorem ggX6_tells_X10_begins : GoodIn wsX6_tells wsX10_begins := goodIn_r _ [5, 6, 7, 23, 24, 25, 26] rfl (by decide +kernel)
set_option maxRecDepth 20000 in
theorem gX6_tells_X10_begins : GoodIn wsX6_tells (wsV RX6 15 RX10 yX10_begins wsX10_begins) := goodIn_app (goodIn_r _ [1, 2, 3, 4] rfl (by decide +kernel)) ggX6_tells_X10_begins
set_option maxRecDepth 20000 in
theorem ggX6_tells_X2_shines : GoodIn wsX6_tells wsX2_shines := goodIn_r _ [13, 14, 2, 3, 4, 5, 6, 7, 15, 16, 17, 18, 19, 20, 21, 22, 23, 24, 25, 26] rfl (by decide +kernel)
set_option maxRecDepth 20000 in
theorem gX6_tells_X2_shines_u25X6 : GoodIn wsX6_tells (va_wsU RX6 25 RX6 "SpoonsLast$Fiddle" ⟨"SpoonsLast$Server", "shines", "(LSpoonsLast$Voice;I)I"⟩ yX2_shines wsX2_shines) := goodIn_app (goodIn_r _ [8, 9, 10, 11, 12] rfl (by decide +kernel)) ggX6_tells_X2_shines
theorem dX6_tells_0 : decode cX6_tells 0 = .ok (.aload_n 1, 1) := by decide +kernel
theorem dX6_tells_1 : decode cX6_tells 1 = .ok (.bipush 50, 2) := by decide +kernel
theorem dX6_tells_3 : decode cX6_tells 3 = .ok (.invokevirtual 15, 3) := by decide +kernel
theorem dX6_tells_6 : decode cX6_tells 6 = .ok (.aload_n 0, 1) := by decide +kernel
theorem dX6_tells_7 : decode cX6_tells 7 = .ok (.aload_n 1, 1) := by decide +kernel
theorem dX6_tells_8 : decode cX6_tells 8 = .ok (.iload_n 2, 1) := by decide +kernel
theorem dX6_tells_9 : decode cX6_tells 9 = .ok (.invokespecial 21, 3) := by decide +kernel
theorem dX6_tells_12 : decode cX6_tells 12 = .ok (.aload_n 0, 1) := by decide +kernel
theorem dX6_tells_13 : decode cX6_tells 13 = .ok (.aload_n 1, 1) := by decide +kernel
theorem dX6_tells_14 : decode cX6_tells 14 = .ok (.iconst 2, 1) := by decide +kernel
theorem dX6_tells_15 : decode cX6_tells 15 = .ok (.invokevirtual 25, 3) := by decide +kernel
theorem dX6_tells_18 : decode cX6_tells 18 = .ok (.isub, 1) := by decide +kernel
theorem dX6_tells_19 : decode cX6_tells 19 = .ok (.ireturn, 1) := by decide +kernel
theorem dX7_init_0 : decode cX7_init 0 = .ok (.aload_n 0, 1) := by decide +kernel
theorem dX7_init_1 : decode cX7_init 1 = .ok (.invokespecial 3, 3) := by decide +kernel
theorem dX7_init_4 : decode cX7_init 4 = .ok (.aload_n 0, 1) := by decide +kernel
theorem dX7_init_5 : decode cX7_init 5 = .ok (.bipush 40, 2) := by decide +kernel
theorem dX7_init_7 : decode cX7_init 7 = .ok (.newarray .int, 2) := by decide +kernel
theorem dX7_init_9 : decode cX7_init 9 = .ok (.putfield 9, 3) := by decide +kernel
theorem dX7_init_12 : decode cX7_init 12 = .ok (.return_, 1) := by decide +kernel
set_option maxRecDepth 20000 in
theorem ggX7_begin_J7_fill_53178 : GoodIn wsX7_begin wsJ7_fill_53178 := goodIn_r _ [7] rfl (by decide +kernel)
set_option maxRecDepth 20000 in
theorem gX7_begin_J7_fill_53178 : GoodIn wsX7_begin (va_wsS RX7 22 yJ7_fill_53178 wsJ7_fill_53178) := goodIn_app (goodIn_r _ [4, 5, 6] rfl (by decide +kernel)) ggX7_begin_J7_fill_53178
theorem dX7_begin_0 : decode cX7_begin 0 = .ok (.aload_n 0, 1) := by decide +kernel
theorem dX7_begin_1 : decode cX7_begin 1 = .ok (.iload_n 1, 1) := by decide +kernel
theorem dX7_begin_2 : decode cX7_begin 2 = .ok (.putfield 15, 3) := by decide +kernel
theorem dX7_begin_5 : decode cX7_begin 5 = .ok (.aload_n 0, 1) := by decide +kernel
theorem dX7_begin_6 : decode cX7_begin 6 = .ok (.iload_n 2, 1) := by decide +kernel
theorem dX7_begin_7 : decode cX7_begin 7 = .ok (.putfield 19, 3) := by decide +kernel
theorem dX7_begin_10 : decode cX7_begin 10 = .ok (.aload_n 0, 1) := by decide +kernel
theorem dX7_begin_11 : decode cX7_begin 11 = .ok (.getfield 9, 3) := by decide +kernel
theorem dX7_begin_14 : decode cX7_begin 14 = .ok (.iconst 0, 1) := by decide +kernel
theorem dX7_begin_15 : decode cX7_begin 15 = .ok (.invokestatic 22, 3) := by decide +kernel
theorem dX7_begin_18 : decode cX7_begin 18 = .ok (.return_, 1) := by decide +kernel
theorem dX7_hasStanding_0 : decode cX7_hasStanding 0 = .ok (.iload_n 2, 1) := by decide +kernel
theorem dX7_hasStanding_1 : decode cX7_hasStanding 1 = .ok (.ifCond .lt 29, 3) := by decide +kernel
theorem dX7_hasStanding_4 : decode cX7_hasStanding 4 = .ok (.iload_n 2, 1) := by decide +kernel
theorem dX7_hasStanding_5 : decode cX7_hasStanding 5 = .ok (.aload_n 0, 1) := by decide +kernel
theorem dX7_hasStanding_6 : decode cX7_hasStanding 6 = .ok (.getfield 19, 3) := by decide +kernel
theorem dX7_hasStanding_9 : decode cX7_hasStanding 9 = .ok (.if_icmp .gt 21, 3) := by decide +kernel
theorem dX7_hasStanding_12 : decode cX7_hasStanding 12 = .ok (.iload_n 1, 1) := by decide +kernel
theorem dX7_hasStanding_13 : decode cX7_hasStanding 13 = .ok (.ifCond .lt 17, 3) := by decide +kernel
theorem dX7_hasStanding_16 : decode cX7_hasStanding 16 = .ok (.iload_n 1, 1) := by decide +kernel
theorem dX7_hasStanding_17 : decode cX7_hasStanding 17 = .ok (.aload_n 0, 1) := by decide +kernel
theorem dX7_hasStanding_18 : decode cX7_hasStanding 18 = .ok (.getfield 19, 3) := by decide +kernel
theorem dX7_hasStanding_21 : decode cX7_hasStanding 21 = .ok (.iload_n 2, 1) := by decide +kernel
theorem dX7_hasStanding_22 : decode cX7_hasStanding 22 = .ok (.isub, 1) := by decide +kernel
theorem dX7_hasStanding_23 : decode cX7_hasStanding 23 = .ok (.if_icmp .gt 7, 3) := by decide +kernel
theorem dX7_hasStanding_26 : decode cX7_hasStanding 26 = .ok (.iconst 1, 1) := by decide +kernel
theorem dX7_hasStanding_27 : decode cX7_hasStanding 27 = .ok (.goto 4, 3) := by decide +kernel
theorem dX7_hasStanding_30 : decode cX7_hasStanding 30 = .ok (.iconst 0, 1) := by decide +kernel
theorem dX7_hasStanding_31 : decode cX7_hasStanding 31 = .ok (.ireturn, 1) := by decide +kernel
theorem dX7_lowestBits_0 : decode cX7_lowestBits 0 = .ok (.aload_n 0, 1) := by decide +kernel
theorem dX7_lowestBits_1 : decode cX7_lowestBits 1 = .ok (.getfield 15, 3) := by decide +kernel
theorem dX7_lowestBits_4 : decode cX7_lowestBits 4 = .ok (.bipush 32, 2) := by decide +kernel
theorem dX7_lowestBits_6 : decode cX7_lowestBits 6 = .ok (.if_icmp .ne 7, 3) := by decide +kernel
theorem dX7_lowestBits_9 : decode cX7_lowestBits 9 = .ok (.iload_n 1, 1) := by decide +kernel
theorem dX7_lowestBits_10 : decode cX7_lowestBits 10 = .ok (.goto 13, 3) := by decide +kernel
theorem dX7_lowestBits_13 : decode cX7_lowestBits 13 = .ok (.iload_n 1, 1) := by decide +kernel
theorem dX7_lowestBits_14 : decode cX7_lowestBits 14 = .ok (.iconst 1, 1) := by decide +kernel
theorem dX7_lowestBits_15 : decode cX7_lowestBits 15 = .ok (.aload_n 0, 1) := by decide +kernel
theorem dX7_lowestBits_16 : decode cX7_lowestBits 16 = .ok (.getfield 15, 3) := by decide +kernel
theorem dX7_lowestBits_19 : decode cX7_lowestBits 19 = .ok (.ishl, 1) := by decide +kernel
theorem dX7_lowestBits_20 : decode cX7_lowestBits 20 = .ok (.iconst 1, 1) := by decide +kernel
theorem dX7_lowestBits_21 : decode cX7_lowestBits 21 = .ok (.isub, 1) := by decide +kernel
theorem dX7_lowestBits_22 : decode cX7_lowestBits 22 = .ok (.iand, 1) := by decide +kernel
theorem dX7_lowestBits_23 : decode cX7_lowestBits 23 = .ok (.ireturn, 1) := by decide +kernel
theorem dX8_init_0 : decode cX8_init 0 = .ok (.aload_n 0, 1) := by decide +kernel
theorem dX8_init_1 : decode cX8_init 1 = .ok (.invokespecial 1, 3) := by decide +kernel
theorem dX8_init_4 : decode cX8_init 4 = .ok (.return_, 1) := by decide +kernel
theorem dX8_stays_0 : decode cX8_stays 0 = .ok (.iconst 3, 1) := by decide +kernel
theorem dX8_stays_1 : decode cX8_stays 1 = .ok (.ireturn, 1) := by decide +kernel
theorem dX8_reads_0 : decode cX8_reads 0 = .ok (.iconst 3, 1) := by decide +kernel
theorem dX8_reads_1 : decode cX8_reads 1 = .ok (.ireturn, 1) := by decide +kernel
theorem dX8_wears_0 : decode cX8_wears 0 = .ok (.iconst 1, 1) := by decide +kernel
theorem dX8_wears_1 : decode cX8_wears 1 = .ok (.ireturn, 1) := by decide +kernel
set_option maxRecDepth 20000 in
theorem ggX8_shines_X10_begins : GoodIn wsX8_shines wsX10_begins := goodIn_r _ [6, 7, 8, 9, 10, 11, 12] rfl (by decide +kernel)
set_option maxRecDepth 20000 in
theorem gX8_shines_X10_begins : GoodIn wsX8_shines (wsV RX8 7 RX10 yX10_begins wsX10_begins) := goodIn_app (goodIn_r _ [2, 3, 4, 5] rfl (by decide +kernel)) ggX8_shines_X10_begins
theorem dX8_shines_0 : decode cX8_shines 0 = .ok (.aload_n 1, 1) := by decide +kernel
theorem dX8_shines_1 : decode cX8_shines 1 = .ok (.bipush 10, 2) := by decide +kernel
theorem dX8_shines_3 : decode cX8_shines 3 = .ok (.invokevirtual 7, 3) := by decide +kernel
theorem dX8_shines_6 : decode cX8_shines 6 = .ok (.iload_n 2, 1) := by decide +kernel
theorem dX8_shines_7 : decode cX8_shines 7 = .ok (.aload_n 1, 1) := by decide +kernel
theorem dX8_shines_8 : decode cX8_shines 8 = .ok (.getfield 13, 3) := by decide +kernel
theorem dX8_shines_11 : decode cX8_shines 11 = .ok (.iadd, 1) := by decide +kernel
theorem dX8_shines_12 : decode cX8_shines 12 = .ok (.ireturn, 1) := by decide +kernel
set_option maxRecDepth 20000 in
theorem ggX8_dulls_X10_begins : GoodIn wsX8_dulls wsX10_begins := goodIn_r _ [5, 6, 7, 29, 30, 31, 32] rfl (by decide +kernel)
set_option maxRecDepth 20000 in
theorem gX8_dulls_X10_begins : GoodIn wsX8_dulls (wsV RX8 7 RX10 yX10_begins wsX10_begins) := goodIn_app (goodIn_r _ [1, 2, 3, 4] rfl (by decide +kernel)) ggX8_dulls_X10_begins
set_option maxRecDepth 20000 in
theorem ggX8_dulls_X8_shines : GoodIn wsX8_dulls wsX8_shines := goodIn_r _ [13, 14, 1, 2, 3, 4, 5, 6, 7, 29, 30, 31, 32] rfl (by decide +kernel)
set_option maxRecDepth 20000 in
theorem gX8_dulls_X8_shines_u17X0 : GoodIn wsX8_dulls (va_wsU RX8 17 RX0 "SpoonsLast$Spoon" ⟨"SpoonsLast$Spoon", "shines", "(LSpoonsLast$Voice;I)I"⟩ yX8_shines wsX8_shines) := goodIn_app (goodIn_r _ [8, 9, 10, 11, 12] rfl (by decide +kernel)) ggX8_dulls_X8_shines
set_option maxRecDepth 20000 in
theorem gX8_dulls_X8_shines_u17X1 : GoodIn wsX8_dulls (va_wsU RX8 17 RX1 "SpoonsLast$Spoon" ⟨"SpoonsLast$Spoon", "shines", "(LSpoonsLast$Voice;I)I"⟩ yX8_shines wsX8_shines) := goodIn_app (goodIn_r _ [8, 9, 15, 11, 12] rfl (by decide +kernel)) ggX8_dulls_X8_shines
set_option maxRecDepth 20000 in
theorem ggX8_dulls_X2_shines : GoodIn wsX8_dulls wsX2_shines := goodIn_r _ [20, 21, 2, 3, 4, 5, 6, 7, 22, 9, 23, 11, 12, 13, 14, 1, 29, 30, 31, 32] rfl (by decide +kernel)
set_option maxRecDepth 20000 in
theorem gX8_dulls_X2_shines_u17X2 : GoodIn wsX8_dulls (va_wsO RX8 17 RX2 "SpoonsLast$Spoon" ⟨"SpoonsLast$Spoon", "shines", "(LSpoonsLast$Voice;I)I"⟩ yX2_shines wsX2_shines) := goodIn_app (goodIn_r _ [8, 9, 11, 17, 18, 19] rfl (by decide +kernel)) ggX8_dulls_X2_shines
set_option maxRecDepth 20000 in
theorem gX8_dulls_X8_shines_u17X4 : GoodIn wsX8_dulls (va_wsU RX8 17 RX4 "SpoonsLast$Spoon" ⟨"SpoonsLast$Spoon", "shines", "(LSpoonsLast$Voice;I)I"⟩ yX8_shines wsX8_shines) := goodIn_app (goodIn_r _ [8, 9, 24, 11, 12] rfl (by decide +kernel)) ggX8_dulls_X8_shines
set_option maxRecDepth 20000 in
theorem gX8_dulls_X8_shines_u17X5 : GoodIn wsX8_dulls (va_wsU RX8 17 RX5 "SpoonsLast$Spoon" ⟨"SpoonsLast$Spoon", "shines", "(LSpoonsLast$Voice;I)I"⟩ yX8_shines wsX8_shines) := goodIn_app (goodIn_r _ [8, 9, 25, 11, 12] rfl (by decide +kernel)) ggX8_dulls_X8_shines
set_option maxRecDepth 20000 in
theorem gX8_dulls_X2_shines_u17X6 : GoodIn wsX8_dulls (va_wsO RX8 17 RX6 "SpoonsLast$Spoon" ⟨"SpoonsLast$Spoon", "shines", "(LSpoonsLast$Voice;I)I"⟩ yX2_shines wsX2_shines) := goodIn_app (goodIn_r _ [8, 9, 11, 26, 18, 19] rfl (by decide +kernel)) ggX8_dulls_X2_shines
set_option maxRecDepth 20000 in
theorem gX8_dulls_X8_shines : GoodIn wsX8_dulls (wsV RX8 17 RX8 yX8_shines wsX8_shines) := goodIn_app (goodIn_r _ [8, 11, 28, 12] rfl (by decide +kernel)) ggX8_dulls_X8_shines
theorem dX8_dulls_0 : decode cX8_dulls 0 = .ok (.aload_n 1, 1) := by decide +kernel
theorem dX8_dulls_1 : decode cX8_dulls 1 = .ok (.bipush 11, 2) := by decide +kernel
theorem dX8_dulls_3 : decode cX8_dulls 3 = .ok (.invokevirtual 7, 3) := by decide +kernel
theorem dX8_dulls_6 : decode cX8_dulls 6 = .ok (.aload_n 0, 1) := by decide +kernel
theorem dX8_dulls_7 : decode cX8_dulls 7 = .ok (.aload_n 1, 1) := by decide +kernel
theorem dX8_dulls_8 : decode cX8_dulls 8 = .ok (.iload_n 2, 1) := by decide +kernel
theorem dX8_dulls_9 : decode cX8_dulls 9 = .ok (.invokevirtual 17, 3) := by decide +kernel
theorem dX8_dulls_12 : decode cX8_dulls 12 = .ok (.iconst 2, 1) := by decide +kernel
theorem dX8_dulls_13 : decode cX8_dulls 13 = .ok (.imul, 1) := by decide +kernel
theorem dX8_dulls_14 : decode cX8_dulls 14 = .ok (.ireturn, 1) := by decide +kernel
set_option maxRecDepth 20000 in
theorem ggX8_holds_X10_begins : GoodIn wsX8_holds wsX10_begins := goodIn_r _ [6, 7, 8, 9, 10, 11, 12] rfl (by decide +kernel)
set_option maxRecDepth 20000 in
theorem gX8_holds_X10_begins : GoodIn wsX8_holds (wsV RX8 7 RX10 yX10_begins wsX10_begins) := goodIn_app (goodIn_r _ [2, 3, 4, 5] rfl (by decide +kernel)) ggX8_holds_X10_begins
theorem dX8_holds_0 : decode cX8_holds 0 = .ok (.aload_n 1, 1) := by decide +kernel
theorem dX8_holds_1 : decode cX8_holds 1 = .ok (.bipush 12, 2) := by decide +kernel
theorem dX8_holds_3 : decode cX8_holds 3 = .ok (.invokevirtual 7, 3) := by decide +kernel
theorem dX8_holds_6 : decode cX8_holds 6 = .ok (.iload_n 2, 1) := by decide +kernel
theorem dX8_holds_7 : decode cX8_holds 7 = .ok (.aload_n 1, 1) := by decide +kernel
theorem dX8_holds_8 : decode cX8_holds 8 = .ok (.getfield 23, 3) := by decide +kernel
theorem dX8_holds_11 : decode cX8_holds 11 = .ok (.isub, 1) := by decide +kernel
theorem dX8_holds_12 : decode cX8_holds 12 = .ok (.ireturn, 1) := by decide +kernel
set_option maxRecDepth 20000 in
theorem ggX8_tells_X10_begins : GoodIn wsX8_tells wsX10_begins := goodIn_r _ [5, 6, 7, 87, 88, 89, 90] rfl (by decide +kernel)
set_option maxRecDepth 20000 in
theorem gX8_tells_X10_begins : GoodIn wsX8_tells (wsV RX8 7 RX10 yX10_begins wsX10_begins) := goodIn_app (goodIn_r _ [1, 2, 3, 4] rfl (by decide +kernel)) ggX8_tells_X10_begins
set_option maxRecDepth 20000 in
theorem ggX8_tells_X0_dulls : GoodIn wsX8_tells wsX0_dulls := goodIn_r _ [14, 15, 2, 3, 4, 5, 6, 7, 16, 9, 17, 18, 19, 20, 1, 21, 22, 23, 24, 25, 26, 27, 28, 29, 30, 31, 32, 33, 34, 35, 36, 37, 38, 39, 40, 41, 42, 43, 44, 45, 46, 47, 87, 88, 89, 90] rfl (by decide +kernel)
set_option maxRecDepth 20000 in
theorem gX8_tells_X0_dulls_u26X0 : GoodIn wsX8_tells (va_wsO RX8 26 RX0 "SpoonsLast$Spoon" ⟨"SpoonsLast$Spoon", "dulls", "(LSpoonsLast$Voice;I)I"⟩ yX0_dulls wsX0_dulls) := goodIn_app (goodIn_r _ [8, 9, 10, 11, 12, 13] rfl (by decide +kernel)) ggX8_tells_X0_dulls
set_option maxRecDepth 20000 in
theorem ggX8_tells_X8_dulls : GoodIn wsX8_tells wsX8_dulls := goodIn_r _ [20, 1, 2, 3, 4, 5, 6, 7, 21, 22, 23, 24, 19, 25, 26, 27, 28, 29, 30, 31, 32, 33, 34, 35, 36, 37, 38, 39, 40, 87, 88, 89, 90] rfl (by decide +kernel)
set_option maxRecDepth 20000 in
theorem gX8_tells_X8_dulls_u26X1 : GoodIn wsX8_tells (va_wsU RX8 26 RX1 "SpoonsLast$Spoon" ⟨"SpoonsLast$Spoon", "dulls", "(LSpoonsLast$Voice;I)I"⟩ yX8_dulls wsX8_dulls) := goodIn_app (goodIn_r _ [8, 9, 48, 10, 19] rfl (by decide +kernel)) ggX8_tells_X8_dulls
set_option maxRecDepth 20000 in
theorem gX8_tells_X8_dulls_u26X2 : GoodIn wsX8_tells (va_wsU RX8 26 RX2 "SpoonsLast$Spoon" ⟨"SpoonsLast$Spoon", "dulls", "(LSpoonsLast$Voice;I)I"⟩ yX8_dulls wsX8_dulls) := goodIn_app (goodIn_r _ [8, 9, 49, 10, 19] rfl (by decide +kernel)) ggX8_tells_X8_dulls
set_option maxRecDepth 20000 in
theorem ggX8_tells_X4_dulls : GoodIn wsX8_tells wsX4_dulls := goodIn_r _ [53, 54, 2, 3, 4, 5, 6, 7, 55, 56, 57, 12, 13, 14, 15, 16, 9, 17, 18, 19, 20, 1, 21, 22, 23, 24, 25, 26, 27, 28, 29, 30, 31, 32, 33, 34, 35, 36, 37, 38, 39, 40, 41, 42, 43, 44, 45, 46, 47, 87, 88, 89, 90] rfl (by decide +kernel)
set_option maxRecDepth 20000 in
theorem gX8_tells_X4_dulls_u26X4 : GoodIn wsX8_tells (va_wsO RX8 26 RX4 "SpoonsLast$Spoon" ⟨"SpoonsLast$Spoon", "dulls", "(LSpoonsLast$Voice;I)I"⟩ yX4_dulls wsX4_dulls) := goodIn_app (goodIn_r _ [8, 9, 10, 50, 51, 52] rfl (by decide +kernel)) ggX8_tells_X4_dulls
set_option maxRecDepth 20000 in
theorem gX8_tells_X8_dulls_u26X5 : GoodIn wsX8_tells (va_wsU RX8 26 RX5 "SpoonsLast$Spoon" ⟨"SpoonsLast$Spoon", "dulls", "(LSpoonsLast$Voice;I)I"⟩ yX8_dulls wsX8_dulls) := goodIn_app (goodIn_r _ [8, 9, 58, 10, 19] rfl (by decide +kernel)) ggX8_tells_X8_dulls
set_option maxRecDepth 20000 in
theorem gX8_tells_X8_dulls_u26X6 : GoodIn wsX8_tells (va_wsU RX8 26 RX6 "SpoonsLast$Spoon" ⟨"SpoonsLast$Spoon", "dulls", "(LSpoonsLast$Voice;I)I"⟩ yX8_dulls wsX8_dulls) := goodIn_app (goodIn_r _ [8, 9, 59, 10, 19] rfl (by decide +kernel)) ggX8_tells_X8_dulls
set_option maxRecDepth 20000 in
theorem gX8_tells_X8_dulls : GoodIn wsX8_tells (wsV RX8 26 RX8 yX8_dulls wsX8_dulls) := goodIn_app (goodIn_r _ [8, 10, 61, 19] rfl (by decide +kernel)) ggX8_tells_X8_dulls
set_option maxRecDepth 20000 in
theorem ggX8_tells_X8_holds : GoodIn wsX8_tells wsX8_holds := goodIn_r _ [45, 46, 1, 2, 3, 4, 5, 6, 7, 87, 88, 89, 90] rfl (by decide +kernel)
set_option maxRecDepth 20000 in
theorem gX8_tells_X8_holds_u29X0 : GoodIn wsX8_tells (va_wsU RX8 29 RX0 "SpoonsLast$Spoon" ⟨"SpoonsLast$Spoon", "holds", "(LSpoonsLast$Voice;I)I"⟩ yX8_holds wsX8_holds) := goodIn_app (goodIn_r _ [62, 63, 64, 44, 19] rfl (by decide +kernel)) ggX8_tells_X8_holds
set_option maxRecDepth 20000 in
theorem ggX8_tells_X1_holds : GoodIn wsX8_tells wsX1_holds := goodIn_r _ [69, 70, 71, 2, 3, 4, 5, 6, 7, 72, 73, 74, 75, 76, 77, 78, 79, 63, 80, 44, 19, 45, 46, 1, 87, 88, 89, 90] rfl (by decide +kernel)
set_option maxRecDepth 20000 in
theorem gX8_tells_X1_holds_u29X1 : GoodIn wsX8_tells (va_wsO RX8 29 RX1 "SpoonsLast$Spoon" ⟨"SpoonsLast$Spoon", "holds", "(LSpoonsLast$Voice;I)I"⟩ yX1_holds wsX1_holds) := goodIn_app (goodIn_r _ [62, 63, 44, 66, 67, 68] rfl (by decide +kernel)) ggX8_tells_X1_holds
set_option maxRecDepth 20000 in
theorem gX8_tells_X8_holds_u29X2 : GoodIn wsX8_tells (va_wsU RX8 29 RX2 "SpoonsLast$Spoon" ⟨"SpoonsLast$Spoon", "holds", "(LSpoonsLast$Voice;I)I"⟩ yX8_holds wsX8_holds) := goodIn_app (goodIn_r _ [62, 63, 81, 44, 19] rfl (by decide +kernel)) ggX8_tells_X8_holds
set_option maxRecDepth 20000 in
theorem gX8_tells_X8_holds_u29X4 : GoodIn wsX8_tells (va_wsU RX8 29 RX4 "SpoonsLast$Spoon" ⟨"SpoonsLast$Spoon", "holds", "(LSpoonsLast$Voice;I)I"⟩ yX8_holds wsX8_holds) := goodIn_app (goodIn_r _ [62, 63, 82, 44, 19] rfl (by decide +kernel)) ggX8_tells_X8_holds
set_option maxRecDepth 20000 in
theorem ggX8_tells_X5_holds : GoodIn wsX8_tells wsX5_holds := goodIn_r _ [77, 78, 2, 3, 4, 5, 6, 7, 79, 63, 80, 44, 19, 45, 46, 1, 87, 88, 89, 90] rfl (by decide +kernel)
set_option maxRecDepth 20000 in
theorem gX8_tells_X5_holds_u29X5 : GoodIn wsX8_tells (va_wsO RX8 29 RX5 "SpoonsLast$Spoon" ⟨"SpoonsLast$Spoon", "holds", "(LSpoonsLast$Voice;I)I"⟩ yX5_holds wsX5_holds) := goodIn_app (goodIn_r _ [62, 63, 44, 83, 75, 76] rfl (by decide +kernel)) ggX8_tells_X5_holds
set_option maxRecDepth 20000 in
theorem gX8_tells_X8_holds_u29X6 : GoodIn wsX8_tells (va_wsU RX8 29 RX6 "SpoonsLast$Spoon" ⟨"SpoonsLast$Spoon", "holds", "(LSpoonsLast$Voice;I)I"⟩ yX8_holds wsX8_holds) := goodIn_app (goodIn_r _ [62, 63, 84, 44, 19] rfl (by decide +kernel)) ggX8_tells_X8_holds
set_option maxRecDepth 20000 in
theorem gX8_tells_X8_holds : GoodIn wsX8_tells (wsV RX8 29 RX8 yX8_holds wsX8_holds) := goodIn_app (goodIn_r _ [62, 44, 86, 19] rfl (by decide +kernel)) ggX8_tells_X8_holds
theorem dX8_tells_0 : decode cX8_tells 0 = .ok (.aload_n 1, 1) := by decide +kernel
theorem dX8_tells_1 : decode cX8_tells 1 = .ok (.bipush 13, 2) := by decide +kernel
theorem dX8_tells_3 : decode cX8_tells 3 = .ok (.invokevirtual 7, 3) := by decide +kernel
theorem dX8_tells_6 : decode cX8_tells 6 = .ok (.aload_n 0, 1) := by decide +kernel
theorem dX8_tells_7 : decode cX8_tells 7 = .ok (.aload_n 1, 1) := by decide +kernel
theorem dX8_tells_8 : decode cX8_tells 8 = .ok (.iload_n 2, 1) := by decide +kernel
theorem dX8_tells_9 : decode cX8_tells 9 = .ok (.invokevirtual 26, 3) := by decide +kernel
theorem dX8_tells_12 : decode cX8_tells 12 = .ok (.aload_n 0, 1) := by decide +kernel
theorem dX8_tells_13 : decode cX8_tells 13 = .ok (.aload_n 1, 1) := by decide +kernel
theorem dX8_tells_14 : decode cX8_tells 14 = .ok (.iload_n 2, 1) := by decide +kernel
theorem dX8_tells_15 : decode cX8_tells 15 = .ok (.invokevirtual 29, 3) := by decide +kernel
theorem dX8_tells_18 : decode cX8_tells 18 = .ok (.ixor, 1) := by decide +kernel
theorem dX8_tells_19 : decode cX8_tells 19 = .ok (.ireturn, 1) := by decide +kernel
set_option maxRecDepth 20000 in
theorem ggX9_init_J7_copyOf_59c91 : GoodIn wsX9_init wsJ7_copyOf_59c91 := goodIn_r _ [14, 15, 16, 17, 18, 19, 20, 7, 21, 22, 23, 24, 25, 26, 27, 28] rfl (by decide +kernel)
set_option maxRecDepth 20000 in
theorem gX9_init_J7_copyOf_59c91 : GoodIn wsX9_init (va_wsS RX9 15 yJ7_copyOf_59c91 wsJ7_copyOf_59c91) := goodIn_app (goodIn_r _ [11, 12, 13] rfl (by decide +kernel)) ggX9_init_J7_copyOf_59c91
set_option maxRecDepth 20000 in
theorem ggX9_init_X9_readAll : GoodIn wsX9_init wsX9_readAll := goodIn_r _ [33, 34, 35, 36, 32, 37, 38, 39, 40, 4, 10, 5, 41, 42, 43, 44, 45, 46, 47, 48, 49, 50, 51, 52, 53, 54, 55, 56, 57, 58, 59, 60, 61, 62, 63, 64, 65, 66, 67, 68, 69, 70, 23, 71, 72, 22, 24, 73, 74, 75, 76, 77, 78, 79, 80, 81, 82, 83, 84, 85, 86, 87, 88, 89, 90, 91, 92, 93, 94, 95, 96, 97, 98, 99, 100, 101, 102, 103, 104, 105, 106, 107, 108, 109, 110, 111, 112, 113, 114, 115, 116, 117, 118, 119, 120, 121, 122, 123, 124, 125, 126, 127, 128, 129, 130, 131, 132, 133, 134, 8, 135, 136, 137, 138, 139, 140, 141, 142, 143, 144, 6, 145, 146, 147, 148, 149, 150, 151, 29, 30, 31, 152, 153, 154, 155, 156, 157, 158, 159, 160, 161, 162, 163, 164, 165, 166, 167] rfl (by decide +kernel)
set_option maxRecDepth 20000 in
theorem gX9_init_X9_readAll : GoodIn wsX9_init (wsV RX9 35 RX9 yX9_readAll wsX9_readAll) := goodIn_app (goodIn_r _ [29, 30, 31, 32] rfl (by decide +kernel)) ggX9_init_X9_readAll
theorem dX9_init_0 : decode cX9_init 0 = .ok (.aload_n 0, 1) := by decide +kernel
theorem dX9_init_1 : decode cX9_init 1 = .ok (.invokespecial 3, 3) := by decide +kernel
theorem dX9_init_4 : decode cX9_init 4 = .ok (.aload_n 0, 1) := by decide +kernel
theorem dX9_init_5 : decode cX9_init 5 = .ok (.iconst (-1), 1) := by decide +kernel
theorem dX9_init_6 : decode cX9_init 6 = .ok (.putfield 9, 3) := by decide +kernel
theorem dX9_init_9 : decode cX9_init 9 = .ok (.aload_n 0, 1) := by decide +kernel
theorem dX9_init_10 : decode cX9_init 10 = .ok (.aload_n 1, 1) := by decide +kernel
theorem dX9_init_11 : decode cX9_init 11 = .ok (.iload_n 2, 1) := by decide +kernel
theorem dX9_init_12 : decode cX9_init 12 = .ok (.invokestatic 15, 3) := by decide +kernel
theorem dX9_init_15 : decode cX9_init 15 = .ok (.putfield 21, 3) := by decide +kernel
theorem dX9_init_18 : decode cX9_init 18 = .ok (.aload_n 0, 1) := by decide +kernel
theorem dX9_init_19 : decode cX9_init 19 = .ok (.aload_n 3, 1) := by decide +kernel
theorem dX9_init_20 : decode cX9_init 20 = .ok (.putfield 25, 3) := by decide +kernel
theorem dX9_init_23 : decode cX9_init 23 = .ok (.aload_n 0, 1) := by decide +kernel
theorem dX9_init_24 : decode cX9_init 24 = .ok (.iload_n 2, 1) := by decide +kernel
theorem dX9_init_25 : decode cX9_init 25 = .ok (.newarray .int, 2) := by decide +kernel
theorem dX9_init_27 : decode cX9_init 27 = .ok (.putfield 29, 3) := by decide +kernel
theorem dX9_init_30 : decode cX9_init 30 = .ok (.aload_n 0, 1) := by decide +kernel
theorem dX9_init_31 : decode cX9_init 31 = .ok (.iload_n 2, 1) := by decide +kernel
theorem dX9_init_32 : decode cX9_init 32 = .ok (.newarray .int, 2) := by decide +kernel
theorem dX9_init_34 : decode cX9_init 34 = .ok (.putfield 32, 3) := by decide +kernel
theorem dX9_init_37 : decode cX9_init 37 = .ok (.aload_n 0, 1) := by decide +kernel
theorem dX9_init_38 : decode cX9_init 38 = .ok (.iconst 0, 1) := by decide +kernel
theorem dX9_init_39 : decode cX9_init 39 = .ok (.invokevirtual 35, 3) := by decide +kernel
theorem dX9_init_42 : decode cX9_init 42 = .ok (.aload_n 0, 1) := by decide +kernel
theorem dX9_init_43 : decode cX9_init 43 = .ok (.getfield 9, 3) := by decide +kernel
theorem dX9_init_46 : decode cX9_init 46 = .ok (.ifCond .ge 19, 3) := by decide +kernel
theorem dX9_init_49 : decode cX9_init 49 = .ok (.aload_n 0, 1) := by decide +kernel
theorem dX9_init_50 : decode cX9_init 50 = .ok (.getfield 39, 3) := by decide +kernel
theorem dX9_init_53 : decode cX9_init 53 = .ok (.iload_n 2, 1) := by decide +kernel
theorem dX9_init_54 : decode cX9_init 54 = .ok (.if_icmp .ge 11, 3) := by decide +kernel
theorem dX9_init_57 : decode cX9_init 57 = .ok (.aload_n 0, 1) := by decide +kernel
theorem dX9_init_58 : decode cX9_init 58 = .ok (.aload_n 0, 1) := by decide +kernel
theorem dX9_init_59 : decode cX9_init 59 = .ok (.getfield 39, 3) := by decide +kernel
theorem dX9_init_62 : decode cX9_init 62 = .ok (.putfield 9, 3) := by decide +kernel
theorem dX9_init_65 : decode cX9_init 65 = .ok (.return_, 1) := by decide +kernel
set_option maxRecDepth 20000 in
theorem ggX9_readAll_X9_readBoth : GoodIn wsX9_readAll wsX9_readBoth := goodIn_r _ [111, 112, 113, 114, 4, 5, 6, 7, 8, 9, 10, 11, 12, 13, 14, 15, 16, 17, 18, 19, 20, 21, 22, 23, 24, 25, 26, 27, 28, 29, 30, 31, 32, 33, 34, 35, 36, 37, 38, 39, 40, 41, 42, 43, 44, 45, 46, 47, 48, 49, 50, 51, 52, 53, 54, 55, 56, 57, 58, 59, 60, 61, 62, 63, 64, 65, 66, 67, 68, 69, 70, 71, 72, 73, 74, 75, 76, 77, 78, 79, 80, 81, 82, 83, 84, 85, 86, 87, 88, 89, 90, 91, 92, 93, 94, 95, 96, 97, 98, 99, 100, 101, 102, 103, 104, 105, 106, 107, 108, 109, 110, 0, 1, 2, 3, 115, 116, 117, 118, 119, 120, 121, 122, 123, 124, 125, 126, 127, 128, 129, 130, 131, 132, 133, 134, 135, 136, 137, 138, 139, 140, 141, 142, 143, 144, 145, 146] rfl (by decide +kernel)
set_option maxRecDepth 20000 in
theorem gX9_readAll_X9_readBoth : GoodIn wsX9_readAll (wsV RX9 42 RX9 yX9_readBoth wsX9_readBoth) := goodIn_app (goodIn_r _ [1, 2, 3, 4] rfl (by decide +kernel)) ggX9_readAll_X9_readBoth
set_option maxRecDepth 20000 in
theorem ggX9_readAll_X9_sees : GoodIn wsX9_readAll wsX9_sees := goodIn_r _ [8, 9, 10, 11, 12, 13, 14, 15, 16, 17, 18, 19, 20, 21, 22, 23, 24, 25, 26, 27, 28, 29, 30, 31, 32, 33, 34, 35, 36, 37, 38, 39, 40, 41, 42, 43, 44, 45, 46, 47, 48, 49, 50, 51, 52, 53, 54, 55, 56, 57, 58, 59, 60, 61, 62, 63, 64, 65, 66, 67, 68, 69, 70, 71, 72, 73, 74, 75, 76, 77, 78, 79, 80, 81, 82, 83, 84, 85, 86, 87, 88, 89, 90, 91, 92, 93, 94, 95, 96, 97, 98, 99, 100, 140, 141, 142, 143, 144, 145, 146] rfl (by decide +kernel)
set_option maxRecDepth 20000 in
theorem gX9_readAll_X9_sees : GoodIn wsX9_readAll (wsV RX9 47 RX9 yX9_sees wsX9_sees) := goodIn_app (goodIn_r _ [5, 6, 7, 4] rfl (by decide +kernel)) ggX9_readAll_X9_sees
set_option maxRecDepth 20000 in
theorem ggX9_readAll_X9_take : GoodIn wsX9_readAll wsX9_take := goodIn_r _ [104, 11, 10, 140, 141, 142, 143, 144, 145, 146] rfl (by decide +kernel)
set_option maxRecDepth 20000 in
theorem gX9_readAll_X9_take : GoodIn wsX9_readAll (wsV RX9 51 RX9 yX9_take wsX9_take) := goodIn_app (goodIn_r _ [101, 102, 103, 4] rfl (by decide +kernel)) ggX9_readAll_X9_take
set_option maxRecDepth 20000 in
theorem ggX9_readAll_X9_write : GoodIn wsX9_readAll wsX9_write := goodIn_r _ [108, 9, 109, 110, 140, 141, 142, 143, 144, 145, 146] rfl (by decide +kernel)
set_option maxRecDepth 20000 in
theorem gX9_readAll_X9_write : GoodIn wsX9_readAll (wsV RX9 55 RX9 yX9_write wsX9_write) := goodIn_app (goodIn_r _ [105, 106, 107, 4] rfl (by decide +kernel)) ggX9_readAll_X9_write
theorem dX9_readAll_0 : decode cX9_readAll 0 = .ok (.aload_n 0, 1) := by decide +kernel
theorem dX9_readAll_1 : decode cX9_readAll 1 = .ok (.iload_n 1, 1) := by decide +kernel
theorem dX9_readAll_2 : decode cX9_readAll 2 = .ok (.invokevirtual 42, 3) := by decide +kernel
theorem dX9_readAll_5 : decode cX9_readAll 5 = .ok (.iconst 0, 1) := by decide +kernel
theorem dX9_readAll_6 : decode cX9_readAll 6 = .ok (.istore_n 2, 1) := by decide +kernel
theorem dX9_readAll_7 : decode cX9_readAll 7 = .ok (.iload_n 2, 1) := by decide +kernel
theorem dX9_readAll_8 : decode cX9_readAll 8 = .ok (.bipush 50, 2) := by decide +kernel
theorem dX9_readAll_10 : decode cX9_readAll 10 = .ok (.if_icmp .ge 37, 3) := by decide +kernel
theorem dX9_readAll_13 : decode cX9_readAll 13 = .ok (.aload_n 0, 1) := by decide +kernel
theorem dX9_readAll_14 : decode cX9_readAll 14 = .ok (.ldc 45, 2) := by decide +kernel
theorem dX9_readAll_16 : decode cX9_readAll 16 = .ok (.invokevirtual 47, 3) := by decide +kernel
theorem dX9_readAll_19 : decode cX9_readAll 19 = .ok (.ifCond .eq 28, 3) := by decide +kernel
theorem dX9_readAll_22 : decode cX9_readAll 22 = .ok (.aload_n 0, 1) := by decide +kernel
theorem dX9_readAll_23 : decode cX9_readAll 23 = .ok (.invokevirtual 51, 3) := by decide +kernel
theorem dX9_readAll_26 : decode cX9_readAll 26 = .ok (.istore_n 3, 1) := by decide +kernel
theorem dX9_readAll_27 : decode cX9_readAll 27 = .ok (.aload_n 0, 1) := by decide +kernel
theorem dX9_readAll_28 : decode cX9_readAll 28 = .ok (.iload_n 1, 1) := by decide +kernel
theorem dX9_readAll_29 : decode cX9_readAll 29 = .ok (.invokevirtual 42, 3) := by decide +kernel
theorem dX9_readAll_32 : decode cX9_readAll 32 = .ok (.aload_n 0, 1) := by decide +kernel
theorem dX9_readAll_33 : decode cX9_readAll 33 = .ok (.sipush 20000, 3) := by decide +kernel
theorem dX9_readAll_36 : decode cX9_readAll 36 = .ok (.iload_n 3, 1) := by decide +kernel
theorem dX9_readAll_37 : decode cX9_readAll 37 = .ok (.iadd, 1) := by decide +kernel
theorem dX9_readAll_38 : decode cX9_readAll 38 = .ok (.invokevirtual 55, 3) := by decide +kernel
theorem dX9_readAll_41 : decode cX9_readAll 41 = .ok (.iinc 2 1, 3) := by decide +kernel
theorem dX9_readAll_44 : decode cX9_readAll 44 = .ok (.goto (-37), 3) := by decide +kernel
theorem dX9_readAll_47 : decode cX9_readAll 47 = .ok (.return_, 1) := by decide +kernel
set_option maxRecDepth 20000 in
theorem ggX9_readBoth_X9_readCompared : GoodIn wsX9_readBoth wsX9_readCompared := goodIn_r _ [115, 116, 117, 118, 4, 5, 6, 7, 8, 9, 10, 11, 12, 13, 14, 15, 16, 17, 18, 19, 20, 21, 22, 23, 24, 25, 26, 27, 28, 29, 30, 31, 32, 33, 34, 35, 36, 37, 38, 39, 40, 41, 42, 43, 44, 45, 46, 47, 48, 49, 50, 51, 52, 53, 54, 55, 56, 57, 58, 59, 60, 61, 62, 63, 64, 65, 66, 67, 68, 69, 70, 71, 72, 73, 74, 75, 76, 77, 78, 79, 80, 81, 82, 83, 84, 85, 86, 87, 88, 89, 90, 91, 92, 93, 94, 95, 96, 97, 98, 99, 100, 101, 102, 103, 104, 105, 106, 107, 108, 109, 110, 111, 112, 113, 114, 0, 1, 2, 3, 119, 120, 121, 122, 123, 124, 125, 126, 127, 128, 129, 130, 131, 132, 133, 134, 135, 136, 137, 138, 139, 140, 141, 142, 143, 144, 145, 146] rfl (by decide +kernel)
set_option maxRecDepth 20000 in
theorem gX9_readBoth_X9_readCompared : GoodIn wsX9_readBoth (wsV RX9 58 RX9 yX9_readCompared wsX9_readCompared) := goodIn_app (goodIn_r _ [1, 2, 3, 4] rfl (by decide +kernel)) ggX9_readBoth_X9_readCompared
set_option maxRecDepth 20000 in
theorem ggX9_readBoth_X9_sees : GoodIn wsX9_readBoth wsX9_sees := goodIn_r _ [8, 9, 10, 11, 12, 13, 14, 15, 16, 17, 18, 19, 20, 21, 22, 23, 24, 25, 26, 27, 28, 29, 30, 31, 32, 33, 34, 35, 36, 37, 38, 39, 40, 41, 42, 43, 44, 45, 46, 47, 48, 49, 50, 51, 52, 53, 54, 55, 56, 57, 58, 59, 60, 61, 62, 63, 64, 65, 66, 67, 68, 69, 70, 71, 72, 73, 74, 75, 76, 77, 78, 79, 80, 81, 82, 83, 84, 85, 86, 87, 88, 89, 90, 91, 92, 93, 94, 95, 96, 97, 98, 99, 100, 140, 141, 142, 143, 144, 145, 146] rfl (by decide +kernel)
set_option maxRecDepth 20000 in
theorem gX9_readBoth_X9_sees : GoodIn wsX9_readBoth (wsV RX9 47 RX9 yX9_sees wsX9_sees) := goodIn_app (goodIn_r _ [5, 6, 7, 4] rfl (by decide +kernel)) ggX9_readBoth_X9_sees
set_option maxRecDepth 20000 in
theorem ggX9_readBoth_X9_take : GoodIn wsX9_readBoth wsX9_take := goodIn_r _ [104, 11, 10, 140, 141, 142, 143, 144, 145, 146] rfl (by decide +kernel)
set_option maxRecDepth 20000 in
theorem gX9_readBoth_X9_take : GoodIn wsX9_readBoth (wsV RX9 51 RX9 yX9_take wsX9_take) := goodIn_app (goodIn_r _ [101, 102, 103, 4] rfl (by decide +kernel)) ggX9_readBoth_X9_take
set_option maxRecDepth 20000 in
theorem ggX9_readBoth_X9_write : GoodIn wsX9_readBoth wsX9_write := goodIn_r _ [108, 9, 109, 110, 140, 141, 142, 143, 144, 145, 146] rfl (by decide +kernel)
set_option maxRecDepth 20000 in
theorem gX9_readBoth_X9_write : GoodIn wsX9_readBoth (wsV RX9 55 RX9 yX9_write wsX9_write) := goodIn_app (goodIn_r _ [105, 106, 107, 4] rfl (by decide +kernel)) ggX9_readBoth_X9_write
theorem dX9_readBoth_0 : decode cX9_readBoth 0 = .ok (.aload_n 0, 1) := by decide +kernel
theorem dX9_readBoth_1 : decode cX9_readBoth 1 = .ok (.iload_n 1, 1) := by decide +kernel
theorem dX9_readBoth_2 : decode cX9_readBoth 2 = .ok (.invokevirtual 58, 3) := by decide +kernel
theorem dX9_readBoth_5 : decode cX9_readBoth 5 = .ok (.iconst 0, 1) := by decide +kernel
theorem dX9_readBoth_6 : decode cX9_readBoth 6 = .ok (.istore_n 2, 1) := by decide +kernel
theorem dX9_readBoth_7 : decode cX9_readBoth 7 = .ok (.iload_n 2, 1) := by decide +kernel
theorem dX9_readBoth_8 : decode cX9_readBoth 8 = .ok (.bipush 50, 2) := by decide +kernel
theorem dX9_readBoth_10 : decode cX9_readBoth 10 = .ok (.if_icmp .ge 37, 3) := by decide +kernel
theorem dX9_readBoth_13 : decode cX9_readBoth 13 = .ok (.aload_n 0, 1) := by decide +kernel
theorem dX9_readBoth_14 : decode cX9_readBoth 14 = .ok (.ldc 61, 2) := by decide +kernel
theorem dX9_readBoth_16 : decode cX9_readBoth 16 = .ok (.invokevirtual 47, 3) := by decide +kernel
theorem dX9_readBoth_19 : decode cX9_readBoth 19 = .ok (.ifCond .eq 28, 3) := by decide +kernel
theorem dX9_readBoth_22 : decode cX9_readBoth 22 = .ok (.aload_n 0, 1) := by decide +kernel
theorem dX9_readBoth_23 : decode cX9_readBoth 23 = .ok (.invokevirtual 51, 3) := by decide +kernel
theorem dX9_readBoth_26 : decode cX9_readBoth 26 = .ok (.istore_n 3, 1) := by decide +kernel
theorem dX9_readBoth_27 : decode cX9_readBoth 27 = .ok (.aload_n 0, 1) := by decide +kernel
theorem dX9_readBoth_28 : decode cX9_readBoth 28 = .ok (.iload_n 1, 1) := by decide +kernel
theorem dX9_readBoth_29 : decode cX9_readBoth 29 = .ok (.invokevirtual 58, 3) := by decide +kernel
theorem dX9_readBoth_32 : decode cX9_readBoth 32 = .ok (.aload_n 0, 1) := by decide +kernel
theorem dX9_readBoth_33 : decode cX9_readBoth 33 = .ok (.sipush 20000, 3) := by decide +kernel
theorem dX9_readBoth_36 : decode cX9_readBoth 36 = .ok (.iload_n 3, 1) := by decide +kernel
theorem dX9_readBoth_37 : decode cX9_readBoth 37 = .ok (.iadd, 1) := by decide +kernel
theorem dX9_readBoth_38 : decode cX9_readBoth 38 = .ok (.invokevirtual 55, 3) := by decide +kernel
theorem dX9_readBoth_41 : decode cX9_readBoth 41 = .ok (.iinc 2 1, 3) := by decide +kernel
theorem dX9_readBoth_44 : decode cX9_readBoth 44 = .ok (.goto (-37), 3) := by decide +kernel
theorem dX9_readBoth_47 : decode cX9_readBoth 47 = .ok (.return_, 1) := by decide +kernel
set_option maxRecDepth 20000 in
theorem ggX9_readCompared_X9_readSum : GoodIn wsX9_readCompared wsX9_readSum := goodIn_r _ [136, 137, 138, 139, 4, 5, 6, 7, 8, 9, 10, 11, 12, 13, 14, 15, 16, 17, 18, 19, 20, 21, 22, 23, 24, 25, 26, 27, 28, 29, 30, 31, 32, 33, 34, 35, 36, 37, 38, 39, 40, 41, 42, 43, 44, 45, 46, 47, 48, 49, 50, 51, 52, 53, 54, 55, 56, 57, 58, 59, 60, 61, 62, 63, 64, 65, 66, 67, 68, 69, 70, 71, 72, 73, 74, 75, 76, 77, 78, 79, 80, 81, 82, 83, 84, 85, 86, 87, 88, 89, 90, 91, 92, 93, 94, 95, 96, 97, 98, 99, 100, 101, 102, 103, 104, 105, 106, 107, 108, 109, 110, 111, 112, 113, 114, 115, 116, 117, 118, 0, 1, 2, 3, 119, 120, 121, 122, 123, 124, 125, 126, 127, 128, 129, 130, 131, 132, 133, 134, 135, 140, 141, 142, 143, 144, 145, 146] rfl (by decide +kernel)
set_option maxRecDepth 20000 in
theorem gX9_readCompared_X9_readSum : GoodIn wsX9_readCompared (wsV RX9 63 RX9 yX9_readSum wsX9_readSum) := goodIn_app (goodIn_r _ [1, 2, 3, 4] rfl (by decide +kernel)) ggX9_readCompared_X9_readSum
set_option maxRecDepth 20000 in
theorem ggX9_readCompared_X9_sees : GoodIn wsX9_readCompared wsX9_sees := goodIn_r _ [8, 9, 10, 11, 12, 13, 14, 15, 16, 17, 18, 19, 20, 21, 22, 23, 24, 25, 26, 27, 28, 29, 30, 31, 32, 33, 34, 35, 36, 37, 38, 39, 40, 41, 42, 43, 44, 45, 46, 47, 48, 49, 50, 51, 52, 53, 54, 55, 56, 57, 58, 59, 60, 61, 62, 63, 64, 65, 66, 67, 68, 69, 70, 71, 72, 73, 74, 75, 76, 77, 78, 79, 80, 81, 82, 83, 84, 85, 86, 87, 88, 89, 90, 91, 92, 93, 94, 95, 96, 97, 98, 99, 100, 140, 141, 142, 143, 144, 145, 146] rfl (by decide +kernel)
set_option maxRecDepth 20000 in
theorem gX9_readCompared_X9_sees : GoodIn wsX9_readCompared (wsV RX9 47 RX9 yX9_sees wsX9_sees) := goodIn_app (goodIn_r _ [5, 6, 7, 4] rfl (by decide +kernel)) ggX9_readCompared_X9_sees
set_option maxRecDepth 20000 in
theorem ggX9_readCompared_X9_take : GoodIn wsX9_readCompared wsX9_take := goodIn_r _ [104, 11, 10, 140, 141, 142, 143, 144, 145, 146] rfl (by decide +kernel)
set_option maxRecDepth 20000 in
theorem gX9_readCompared_X9_take : GoodIn wsX9_readCompared (wsV RX9 51 RX9 yX9_take wsX9_take) := goodIn_app (goodIn_r _ [101, 102, 103, 4] rfl (by decide +kernel)) ggX9_readCompared_X9_take
set_option maxRecDepth 20000 in
theorem ggX9_readCompared_X9_write : GoodIn wsX9_readCompared wsX9_write := goodIn_r _ [108, 9, 109, 110, 140, 141, 142, 143, 144, 145, 146] rfl (by decide +kernel)
set_option maxRecDepth 20000 in
theorem gX9_readCompared_X9_write : GoodIn wsX9_readCompared (wsV RX9 55 RX9 yX9_write wsX9_write) := goodIn_app (goodIn_r _ [105, 106, 107, 4] rfl (by decide +kernel)) ggX9_readCompared_X9_write
theorem dX9_readCompared_0 : decode cX9_readCompared 0 = .ok (.aload_n 0, 1) := by decide +kernel
theorem dX9_readCompared_1 : decode cX9_readCompared 1 = .ok (.iload_n 1, 1) := by decide +kernel
theorem dX9_readCompared_2 : decode cX9_readCompared 2 = .ok (.invokevirtual 63, 3) := by decide +kernel
theorem dX9_readCompared_5 : decode cX9_readCompared 5 = .ok (.aload_n 0, 1) := by decide +kernel
theorem dX9_readCompared_6 : decode cX9_readCompared 6 = .ok (.ldc 66, 2) := by decide +kernel
theorem dX9_readCompared_8 : decode cX9_readCompared 8 = .ok (.invokevirtual 47, 3) := by decide +kernel
theorem dX9_readCompared_11 : decode cX9_readCompared 11 = .ok (.ifCond .eq 22, 3) := by decide +kernel
theorem dX9_readCompared_14 : decode cX9_readCompared 14 = .ok (.aload_n 0, 1) := by decide +kernel
theorem dX9_readCompared_15 : decode cX9_readCompared 15 = .ok (.invokevirtual 51, 3) := by decide +kernel
theorem dX9_readCompared_18 : decode cX9_readCompared 18 = .ok (.istore_n 2, 1) := by decide +kernel
theorem dX9_readCompared_19 : decode cX9_readCompared 19 = .ok (.aload_n 0, 1) := by decide +kernel
theorem dX9_readCompared_20 : decode cX9_readCompared 20 = .ok (.iload_n 1, 1) := by decide +kernel
theorem dX9_readCompared_21 : decode cX9_readCompared 21 = .ok (.invokevirtual 63, 3) := by decide +kernel
theorem dX9_readCompared_24 : decode cX9_readCompared 24 = .ok (.aload_n 0, 1) := by decide +kernel
theorem dX9_readCompared_25 : decode cX9_readCompared 25 = .ok (.sipush 20000, 3) := by decide +kernel
theorem dX9_readCompared_28 : decode cX9_readCompared 28 = .ok (.iload_n 2, 1) := by decide +kernel
theorem dX9_readCompared_29 : decode cX9_readCompared 29 = .ok (.iadd, 1) := by decide +kernel
theorem dX9_readCompared_30 : decode cX9_readCompared 30 = .ok (.invokevirtual 55, 3) := by decide +kernel
theorem dX9_readCompared_33 : decode cX9_readCompared 33 = .ok (.return_, 1) := by decide +kernel
set_option maxRecDepth 20000 in
theorem ggX9_readSum_X9_readProduct : GoodIn wsX9_readSum wsX9_readProduct := goodIn_r _ [139, 129, 130, 131, 4, 5, 6, 7, 8, 9, 10, 11, 12, 13, 14, 15, 16, 17, 18, 19, 20, 21, 22, 23, 24, 25, 26, 27, 28, 29, 30, 31, 32, 33, 34, 35, 36, 37, 38, 39, 40, 41, 42, 43, 44, 45, 46, 47, 48, 49, 50, 51, 52, 53, 54, 55, 56, 57, 58, 59, 60, 61, 62, 63, 64, 65, 66, 67, 68, 69, 70, 71, 72, 73, 74, 75, 76, 77, 78, 79, 80, 81, 82, 83, 84, 85, 86, 87, 88, 89, 90, 91, 92, 93, 94, 95, 96, 97, 98, 99, 100, 101, 102, 103, 104, 105, 106, 107, 108, 109, 110, 111, 112, 113, 114, 115, 116, 117, 118, 119, 120, 121, 122, 123, 124, 125, 126, 127, 128, 132, 133, 134, 135, 136, 137, 138, 0, 1, 2, 3, 140, 141, 142, 143, 144, 145, 146] rfl (by decide +kernel)
set_option maxRecDepth 20000 in
theorem gX9_readSum_X9_readProduct : GoodIn wsX9_readSum (wsV RX9 68 RX9 yX9_readProduct wsX9_readProduct) := goodIn_app (goodIn_r _ [1, 2, 3, 4] rfl (by decide +kernel)) ggX9_readSum_X9_readProduct
set_option maxRecDepth 20000 in
theorem ggX9_readSum_X9_sees : GoodIn wsX9_readSum wsX9_sees := goodIn_r _ [8, 9, 10, 11, 12, 13, 14, 15, 16, 17, 18, 19, 20, 21, 22, 23, 24, 25, 26, 27, 28, 29, 30, 31, 32, 33, 34, 35, 36, 37, 38, 39, 40, 41, 42, 43, 44, 45, 46, 47, 48, 49, 50, 51, 52, 53, 54, 55, 56, 57, 58, 59, 60, 61, 62, 63, 64, 65, 66, 67, 68, 69, 70, 71, 72, 73, 74, 75, 76, 77, 78, 79, 80, 81, 82, 83, 84, 85, 86, 87, 88, 89, 90, 91, 92, 93, 94, 95, 96, 97, 98, 99, 100, 140, 141, 142, 143, 144, 145, 146] rfl (by decide +kernel)
set_option maxRecDepth 20000 in
theorem gX9_readSum_X9_sees : GoodIn wsX9_readSum (wsV RX9 47 RX9 yX9_sees wsX9_sees) := goodIn_app (goodIn_r _ [5, 6, 7, 4] rfl (by decide +kernel)) ggX9_readSum_X9_sees
set_option maxRecDepth 20000 in
theorem ggX9_readSum_X9_take : GoodIn wsX9_readSum wsX9_take := goodIn_r _ [104, 11, 10, 140, 141, 142, 143, 144, 145, 146] rfl (by decide +kernel)
set_option maxRecDepth 20000 in
theorem gX9_readSum_X9_take : GoodIn wsX9_readSum (wsV RX9 51 RX9 yX9_take wsX9_take) := goodIn_app (goodIn_r _ [101, 102, 103, 4] rfl (by decide +kernel)) ggX9_readSum_X9_take
set_option maxRecDepth 20000 in
theorem ggX9_readSum_X9_write : GoodIn wsX9_readSum wsX9_write := goodIn_r _ [108, 9, 109, 110, 140, 141, 142, 143, 144, 145, 146] rfl (by decide +kernel)
set_option maxRecDepth 20000 in
theorem gX9_readSum_X9_write : GoodIn wsX9_readSum (wsV RX9 55 RX9 yX9_write wsX9_write) := goodIn_app (goodIn_r _ [105, 106, 107, 4] rfl (by decide +kernel)) ggX9_readSum_X9_write
theorem dX9_readSum_0 : decode cX9_readSum 0 = .ok (.aload_n 0, 1) := by decide +kernel
theorem dX9_readSum_1 : decode cX9_readSum 1 = .ok (.iload_n 1, 1) := by decide +kernel
theorem dX9_readSum_2 : decode cX9_readSum 2 = .ok (.invokevirtual 68, 3) := by decide +kernel
theorem dX9_readSum_5 : decode cX9_readSum 5 = .ok (.iconst 0, 1) := by decide +kernel
theorem dX9_readSum_6 : decode cX9_readSum 6 = .ok (.istore_n 2, 1) := by decide +kernel
theorem dX9_readSum_7 : decode cX9_readSum 7 = .ok (.iload_n 2, 1) := by decide +kernel
theorem dX9_readSum_8 : decode cX9_readSum 8 = .ok (.bipush 50, 2) := by decide +kernel
theorem dX9_readSum_10 : decode cX9_readSum 10 = .ok (.if_icmp .ge 37, 3) := by decide +kernel
theorem dX9_readSum_13 : decode cX9_readSum 13 = .ok (.aload_n 0, 1) := by decide +kernel
theorem dX9_readSum_14 : decode cX9_readSum 14 = .ok (.ldc 71, 2) := by decide +kernel
theorem dX9_readSum_16 : decode cX9_readSum 16 = .ok (.invokevirtual 47, 3) := by decide +kernel
theorem dX9_readSum_19 : decode cX9_readSum 19 = .ok (.ifCond .eq 28, 3) := by decide +kernel
theorem dX9_readSum_22 : decode cX9_readSum 22 = .ok (.aload_n 0, 1) := by decide +kernel
theorem dX9_readSum_23 : decode cX9_readSum 23 = .ok (.invokevirtual 51, 3) := by decide +kernel
theorem dX9_readSum_26 : decode cX9_readSum 26 = .ok (.istore_n 3, 1) := by decide +kernel
theorem dX9_readSum_27 : decode cX9_readSum 27 = .ok (.aload_n 0, 1) := by decide +kernel
theorem dX9_readSum_28 : decode cX9_readSum 28 = .ok (.iload_n 1, 1) := by decide +kernel
theorem dX9_readSum_29 : decode cX9_readSum 29 = .ok (.invokevirtual 68, 3) := by decide +kernel
theorem dX9_readSum_32 : decode cX9_readSum 32 = .ok (.aload_n 0, 1) := by decide +kernel
theorem dX9_readSum_33 : decode cX9_readSum 33 = .ok (.sipush 20000, 3) := by decide +kernel
theorem dX9_readSum_36 : decode cX9_readSum 36 = .ok (.iload_n 3, 1) := by decide +kernel
theorem dX9_readSum_37 : decode cX9_readSum 37 = .ok (.iadd, 1) := by decide +kernel
theorem dX9_readSum_38 : decode cX9_readSum 38 = .ok (.invokevirtual 55, 3) := by decide +kernel
theorem dX9_readSum_41 : decode cX9_readSum 41 = .ok (.iinc 2 1, 3) := by decide +kernel
theorem dX9_readSum_44 : decode cX9_readSum 44 = .ok (.goto (-37), 3) := by decide +kernel
theorem dX9_readSum_47 : decode cX9_readSum 47 = .ok (.return_, 1) := by decide +kernel
set_option maxRecDepth 20000 in
theorem ggX9_readProduct_X9_readOne : GoodIn wsX9_readProduct wsX9_readOne := goodIn_r _ [123, 124, 5, 6, 7, 4, 8, 9, 10, 11, 12, 13, 14, 15, 16, 17, 18, 19, 20, 21, 22, 23, 24, 25, 26, 27, 28, 29, 30, 31, 32, 33, 34, 35, 36, 37, 38, 39, 40, 41, 42, 43, 44, 45, 46, 47, 48, 49, 50, 51, 52, 53, 54, 55, 56, 57, 58, 59, 60, 61, 62, 63, 64, 65, 66, 67, 68, 69, 70, 71, 72, 73, 74, 75, 76, 77, 78, 79, 80, 81, 82, 83, 84, 85, 86, 87, 88, 89, 90, 91, 92, 93, 94, 95, 96, 97, 98, 99, 100, 125, 126, 127, 128, 101, 102, 103, 104, 105, 106, 107, 108, 109, 110, 1, 2, 3, 129, 130, 131, 132, 133, 134, 135, 111, 112, 113, 114, 115, 116, 117, 118, 119, 120, 121, 122, 0, 136, 137, 138, 139, 140, 141, 142, 143, 144, 145, 146] rfl (by decide +kernel)
set_option maxRecDepth 20000 in
theorem gX9_readProduct_X9_readOne : GoodIn wsX9_readProduct (wsV RX9 73 RX9 yX9_readOne wsX9_readOne) := goodIn_app (goodIn_r _ [1, 2, 3, 4] rfl (by decide +kernel)) ggX9_readProduct_X9_readOne
set_option maxRecDepth 20000 in
theorem ggX9_readProduct_X9_sees : GoodIn wsX9_readProduct wsX9_sees := goodIn_r _ [8, 9, 10, 11, 12, 13, 14, 15, 16, 17, 18, 19, 20, 21, 22, 23, 24, 25, 26, 27, 28, 29, 30, 31, 32, 33, 34, 35, 36, 37, 38, 39, 40, 41, 42, 43, 44, 45, 46, 47, 48, 49, 50, 51, 52, 53, 54, 55, 56, 57, 58, 59, 60, 61, 62, 63, 64, 65, 66, 67, 68, 69, 70, 71, 72, 73, 74, 75, 76, 77, 78, 79, 80, 81, 82, 83, 84, 85, 86, 87, 88, 89, 90, 91, 92, 93, 94, 95, 96, 97, 98, 99, 100, 140, 141, 142, 143, 144, 145, 146] rfl (by decide +kernel)
set_option maxRecDepth 20000 in
theorem gX9_readProduct_X9_sees : GoodIn wsX9_readProduct (wsV RX9 47 RX9 yX9_sees wsX9_sees) := goodIn_app (goodIn_r _ [5, 6, 7, 4] rfl (by decide +kernel)) ggX9_readProduct_X9_sees
set_option maxRecDepth 20000 in
theorem ggX9_readProduct_X9_take : GoodIn wsX9_readProduct wsX9_take := goodIn_r _ [104, 11, 10, 140, 141, 142, 143, 144, 145, 146] rfl (by decide +kernel)
set_option maxRecDepth 20000 in
theorem gX9_readProduct_X9_take : GoodIn wsX9_readProduct (wsV RX9 51 RX9 yX9_take wsX9_take) := goodIn_app (goodIn_r _ [101, 102, 103, 4] rfl (by decide +kernel)) ggX9_readProduct_X9_take
set_option maxRecDepth 20000 in
theorem ggX9_readProduct_X9_write : GoodIn wsX9_readProduct wsX9_write := goodIn_r _ [108, 9, 109, 110, 140, 141, 142, 143, 144, 145, 146] rfl (by decide +kernel)
set_option maxRecDepth 20000 in
theorem gX9_readProduct_X9_write : GoodIn wsX9_readProduct (wsV RX9 55 RX9 yX9_write wsX9_write) := goodIn_app (goodIn_r _ [105, 106, 107, 4] rfl (by decide +kernel)) ggX9_readProduct_X9_write
theorem dX9_readProduct_0 : decode cX9_readProduct 0 = .ok (.aload_n 0, 1) := by decide +kernel
theorem dX9_readProduct_1 : decode cX9_readProduct 1 = .ok (.iload_n 1, 1) := by decide +kernel
theorem dX9_readProduct_2 : decode cX9_readProduct 2 = .ok (.invokevirtual 73, 3) := by decide +kernel
theorem dX9_readProduct_5 : decode cX9_readProduct 5 = .ok (.iconst 0, 1) := by decide +kernel
theorem dX9_readProduct_6 : decode cX9_readProduct 6 = .ok (.istore_n 2, 1) := by decide +kernel
theorem dX9_readProduct_7 : decode cX9_readProduct 7 = .ok (.iload_n 2, 1) := by decide +kernel
theorem dX9_readProduct_8 : decode cX9_readProduct 8 = .ok (.bipush 50, 2) := by decide +kernel
theorem dX9_readProduct_10 : decode cX9_readProduct 10 = .ok (.if_icmp .ge 37, 3) := by decide +kernel
theorem dX9_readProduct_13 : decode cX9_readProduct 13 = .ok (.aload_n 0, 1) := by decide +kernel
theorem dX9_readProduct_14 : decode cX9_readProduct 14 = .ok (.ldc 76, 2) := by decide +kernel
theorem dX9_readProduct_16 : decode cX9_readProduct 16 = .ok (.invokevirtual 47, 3) := by decide +kernel
theorem dX9_readProduct_19 : decode cX9_readProduct 19 = .ok (.ifCond .eq 28, 3) := by decide +kernel
theorem dX9_readProduct_22 : decode cX9_readProduct 22 = .ok (.aload_n 0, 1) := by decide +kernel
theorem dX9_readProduct_23 : decode cX9_readProduct 23 = .ok (.invokevirtual 51, 3) := by decide +kernel
theorem dX9_readProduct_26 : decode cX9_readProduct 26 = .ok (.istore_n 3, 1) := by decide +kernel
theorem dX9_readProduct_27 : decode cX9_readProduct 27 = .ok (.aload_n 0, 1) := by decide +kernel
theorem dX9_readProduct_28 : decode cX9_readProduct 28 = .ok (.iload_n 1, 1) := by decide +kernel
theorem dX9_readProduct_29 : decode cX9_readProduct 29 = .ok (.invokevirtual 73, 3) := by decide +kernel
theorem dX9_readProduct_32 : decode cX9_readProduct 32 = .ok (.aload_n 0, 1) := by decide +kernel
theorem dX9_readProduct_33 : decode cX9_readProduct 33 = .ok (.sipush 20000, 3) := by decide +kernel
theorem dX9_readProduct_36 : decode cX9_readProduct 36 = .ok (.iload_n 3, 1) := by decide +kernel
theorem dX9_readProduct_37 : decode cX9_readProduct 37 = .ok (.iadd, 1) := by decide +kernel
theorem dX9_readProduct_38 : decode cX9_readProduct 38 = .ok (.invokevirtual 55, 3) := by decide +kernel
theorem dX9_readProduct_41 : decode cX9_readProduct 41 = .ok (.iinc 2 1, 3) := by decide +kernel
theorem dX9_readProduct_44 : decode cX9_readProduct 44 = .ok (.goto (-37), 3) := by decide +kernel
theorem dX9_readProduct_47 : decode cX9_readProduct 47 = .ok (.return_, 1) := by decide +kernel
set_option maxRecDepth 20000 in
theorem ggX9_readOne_X9_sees : GoodIn wsX9_readOne wsX9_sees := goodIn_r _ [6, 7, 8, 9, 10, 11, 12, 13, 14, 15, 16, 17, 18, 19, 20, 21, 22, 23, 24, 25, 26, 27, 28, 29, 30, 31, 32, 33, 34, 35, 36, 37, 38, 39, 40, 41, 42, 43, 44, 45, 46, 47, 48, 49, 50, 51, 52, 53, 54, 55, 56, 57, 58, 59, 60, 61, 62, 63, 64, 65, 66, 67, 68, 69, 70, 71, 72, 73, 74, 75, 76, 77, 78, 79, 80, 81, 82, 83, 84, 85, 86, 87, 88, 89, 90, 91, 92, 93, 94, 95, 96, 97, 98, 140, 141, 142, 143, 144, 145, 146] rfl (by decide +kernel)
set_option maxRecDepth 20000 in
theorem gX9_readOne_X9_sees : GoodIn wsX9_readOne (wsV RX9 47 RX9 yX9_sees wsX9_sees) := goodIn_app (goodIn_r _ [2, 3, 4, 5] rfl (by decide +kernel)) ggX9_readOne_X9_sees
set_option maxRecDepth 20000 in
theorem ggX9_readOne_X9_readNumber : GoodIn wsX9_readOne wsX9_readNumber := goodIn_r _ [102, 2, 3, 4, 5, 6, 7, 8, 9, 10, 11, 12, 13, 14, 15, 16, 17, 18, 19, 20, 21, 22, 23, 24, 25, 26, 27, 28, 29, 30, 31, 32, 33, 34, 35, 36, 37, 38, 39, 40, 41, 42, 43, 44, 45, 46, 47, 48, 49, 50, 51, 52, 53, 54, 55, 56, 57, 58, 59, 60, 61, 62, 63, 64, 65, 66, 67, 68, 69, 70, 71, 72, 73, 74, 75, 76, 77, 78, 79, 80, 81, 82, 83, 84, 85, 86, 87, 88, 89, 90, 91, 92, 93, 94, 95, 96, 97, 98, 103, 104, 105, 106, 107, 108, 109, 110, 111, 112, 140, 141, 142, 143, 144, 145, 146] rfl (by decide +kernel)
set_option maxRecDepth 20000 in
theorem gX9_readOne_X9_readNumber : GoodIn wsX9_readOne (wsV RX9 80 RX9 yX9_readNumber wsX9_readNumber) := goodIn_app (goodIn_r _ [99, 100, 101, 5] rfl (by decide +kernel)) ggX9_readOne_X9_readNumber
set_option maxRecDepth 20000 in
theorem ggX9_readOne_X9_take : GoodIn wsX9_readOne wsX9_take := goodIn_r _ [106, 9, 8, 140, 141, 142, 143, 144, 145, 146] rfl (by decide +kernel)
set_option maxRecDepth 20000 in
theorem gX9_readOne_X9_take : GoodIn wsX9_readOne (wsV RX9 51 RX9 yX9_take wsX9_take) := goodIn_app (goodIn_r _ [103, 104, 105, 5] rfl (by decide +kernel)) ggX9_readOne_X9_take
set_option maxRecDepth 20000 in
theorem ggX9_readOne_J0_indexOf_0f7a4 : GoodIn wsX9_readOne wsJ0_indexOf_0f7a4 := goodIn_r _ [14, 15, 16, 17, 13, 18, 19, 20, 21, 22, 23, 24, 25, 26, 27, 28, 29, 30, 31, 32, 33, 34, 35, 36, 37, 38, 39, 40, 41, 42, 43, 44, 45, 46, 47, 48, 49, 50, 51, 52, 53, 54, 55, 56, 57, 58, 59, 60, 61, 62, 63, 64, 65, 66, 67, 68, 69, 70, 71, 72, 73, 74, 75, 76, 77, 78, 79, 80, 81, 82, 83, 84, 85, 86, 87, 88, 89, 90, 91, 92, 93, 94, 95, 96, 97, 98] rfl (by decide +kernel)
set_option maxRecDepth 20000 in
theorem gX9_readOne_J0_indexOf_0f7a4 : GoodIn wsX9_readOne (wsV RX9 83 RJ0 yJ0_indexOf_0f7a4 wsJ0_indexOf_0f7a4) := goodIn_app (goodIn_r _ [10, 11, 12, 13] rfl (by decide +kernel)) ggX9_readOne_J0_indexOf_0f7a4
set_option maxRecDepth 20000 in
theorem ggX9_readOne_X9_write : GoodIn wsX9_readOne wsX9_write := goodIn_r _ [110, 7, 111, 112, 140, 141, 142, 143, 144, 145, 146] rfl (by decide +kernel)
set_option maxRecDepth 20000 in
theorem gX9_readOne_X9_write : GoodIn wsX9_readOne (wsV RX9 55 RX9 yX9_write wsX9_write) := goodIn_app (goodIn_r _ [107, 108, 109, 5] rfl (by decide +kernel)) ggX9_readOne_X9_write
set_option maxRecDepth 20000 in
theorem ggX9_readOne_X9_readOne : GoodIn wsX9_readOne wsX9_readOne := goodIn_r _ [0, 1, 2, 3, 4, 5, 6, 7, 8, 9, 10, 11, 12, 13, 14, 15, 16, 17, 18, 19, 20, 21, 22, 23, 24, 25, 26, 27, 28, 29, 30, 31, 32, 33, 34, 35, 36, 37, 38, 39, 40, 41, 42, 43, 44, 45, 46, 47, 48, 49, 50, 51, 52, 53, 54, 55, 56, 57, 58, 59, 60, 61, 62, 63, 64, 65, 66, 67, 68, 69, 70, 71, 72, 73, 74, 75, 76, 77, 78, 79, 80, 81, 82, 83, 84, 85, 86, 87, 88, 89, 90, 91, 92, 93, 94, 95, 96, 97, 98, 99, 100, 101, 102, 103, 104, 105, 106, 107, 108, 109, 110, 111, 112, 113, 114, 115, 116, 117, 118, 119, 120, 121, 122, 123, 124, 125, 126, 127, 128, 129, 130, 131, 132, 133, 134, 135, 136, 137, 138, 139, 140, 141, 142, 143, 144, 145, 146] rfl (by decide +kernel)
set_option maxRecDepth 20000 in
theorem gX9_readOne_X9_readOne : GoodIn wsX9_readOne (wsV RX9 73 RX9 yX9_readOne wsX9_readOne) := goodIn_app (goodIn_r _ [113, 114, 115, 5] rfl (by decide +kernel)) ggX9_readOne_X9_readOne
set_option maxRecDepth 20000 in
theorem ggX9_readOne_X9_readAll : GoodIn wsX9_readOne wsX9_readAll := goodIn_r _ [123, 124, 125, 126, 5, 2, 3, 4, 6, 7, 8, 9, 10, 11, 12, 13, 14, 15, 16, 17, 18, 19, 20, 21, 22, 23, 24, 25, 26, 27, 28, 29, 30, 31, 32, 33, 34, 35, 36, 37, 38, 39, 40, 41, 42, 43, 44, 45, 46, 47, 48, 49, 50, 51, 52, 53, 54, 55, 56, 57, 58, 59, 60, 61, 62, 63, 64, 65, 66, 67, 68, 69, 70, 71, 72, 73, 74, 75, 76, 77, 78, 79, 80, 81, 82, 83, 84, 85, 86, 87, 88, 89, 90, 91, 92, 93, 94, 95, 96, 97, 98, 103, 104, 105, 106, 107, 108, 109, 110, 111, 112, 127, 128, 129, 130, 131, 132, 133, 134, 0, 1, 99, 100, 101, 102, 113, 114, 115, 116, 117, 118, 119, 120, 121, 122, 135, 136, 137, 138, 139, 140, 141, 142, 143, 144, 145, 146] rfl (by decide +kernel)
set_option maxRecDepth 20000 in
theorem gX9_readOne_X9_readAll : GoodIn wsX9_readOne (wsV RX9 35 RX9 yX9_readAll wsX9_readAll) := goodIn_app (goodIn_r _ [116, 117, 118, 5] rfl (by decide +kernel)) ggX9_readOne_X9_readAll
set_option maxRecDepth 20000 in
theorem ggX9_readOne_X9_stopHere : GoodIn wsX9_readOne wsX9_stopHere := goodIn_r _ [122, 7, 8, 140, 141, 142, 143, 144, 145, 146] rfl (by decide +kernel)
set_option maxRecDepth 20000 in
theorem gX9_readOne_X9_stopHere : GoodIn wsX9_readOne (wsV RX9 95 RX9 yX9_stopHere wsX9_stopHere) := goodIn_app (goodIn_r _ [119, 120, 121, 5] rfl (by decide +kernel)) ggX9_readOne_X9_stopHere
theorem dX9_readOne_0 : decode cX9_readOne 0 = .ok (.aload_n 0, 1) := by decide +kernel
theorem dX9_readOne_1 : decode cX9_readOne 1 = .ok (.ldc 78, 2) := by decide +kernel
theorem dX9_readOne_3 : decode cX9_readOne 3 = .ok (.invokevirtual 47, 3) := by decide +kernel
theorem dX9_readOne_6 : decode cX9_readOne 6 = .ok (.ifCond .eq 10, 3) := by decide +kernel
theorem dX9_readOne_9 : decode cX9_readOne 9 = .ok (.aload_n 0, 1) := by decide +kernel
theorem dX9_readOne_10 : decode cX9_readOne 10 = .ok (.invokevirtual 80, 3) := by decide +kernel
theorem dX9_readOne_13 : decode cX9_readOne 13 = .ok (.goto 129, 3) := by decide +kernel
theorem dX9_readOne_16 : decode cX9_readOne 16 = .ok (.aload_n 0, 1) := by decide +kernel
theorem dX9_readOne_17 : decode cX9_readOne 17 = .ok (.aload_n 0, 1) := by decide +kernel
theorem dX9_readOne_18 : decode cX9_readOne 18 = .ok (.getfield 25, 3) := by decide +kernel
theorem dX9_readOne_21 : decode cX9_readOne 21 = .ok (.invokevirtual 47, 3) := by decide +kernel
theorem dX9_readOne_24 : decode cX9_readOne 24 = .ok (.ifCond .eq 26, 3) := by decide +kernel
theorem dX9_readOne_27 : decode cX9_readOne 27 = .ok (.aload_n 0, 1) := by decide +kernel
theorem dX9_readOne_28 : decode cX9_readOne 28 = .ok (.sipush 10000, 3) := by decide +kernel
theorem dX9_readOne_31 : decode cX9_readOne 31 = .ok (.aload_n 0, 1) := by decide +kernel
theorem dX9_readOne_32 : decode cX9_readOne 32 = .ok (.getfield 25, 3) := by decide +kernel
theorem dX9_readOne_35 : decode cX9_readOne 35 = .ok (.aload_n 0, 1) := by decide +kernel
theorem dX9_readOne_36 : decode cX9_readOne 36 = .ok (.invokevirtual 51, 3) := by decide +kernel
theorem dX9_readOne_39 : decode cX9_readOne 39 = .ok (.i2c, 1) := by decide +kernel
theorem dX9_readOne_40 : decode cX9_readOne 40 = .ok (.invokevirtual 83, 3) := by decide +kernel
theorem dX9_readOne_43 : decode cX9_readOne 43 = .ok (.iadd, 1) := by decide +kernel
theorem dX9_readOne_44 : decode cX9_readOne 44 = .ok (.invokevirtual 55, 3) := by decide +kernel
theorem dX9_readOne_47 : decode cX9_readOne 47 = .ok (.goto 95, 3) := by decide +kernel
theorem dX9_readOne_50 : decode cX9_readOne 50 = .ok (.iload_n 1, 1) := by decide +kernel
theorem dX9_readOne_51 : decode cX9_readOne 51 = .ok (.iconst 5, 1) := by decide +kernel
theorem dX9_readOne_52 : decode cX9_readOne 52 = .ok (.if_icmp .ge 36, 3) := by decide +kernel
theorem dX9_readOne_55 : decode cX9_readOne 55 = .ok (.aload_n 0, 1) := by decide +kernel
theorem dX9_readOne_56 : decode cX9_readOne 56 = .ok (.ldc 89, 2) := by decide +kernel
theorem dX9_readOne_58 : decode cX9_readOne 58 = .ok (.invokevirtual 47, 3) := by decide +kernel
theorem dX9_readOne_61 : decode cX9_readOne 61 = .ok (.ifCond .eq 27, 3) := by decide +kernel
theorem dX9_readOne_64 : decode cX9_readOne 64 = .ok (.aload_n 0, 1) := by decide +kernel
theorem dX9_readOne_65 : decode cX9_readOne 65 = .ok (.invokevirtual 51, 3) := by decide +kernel
theorem dX9_readOne_68 : decode cX9_readOne 68 = .ok (.istore_n 2, 1) := by decide +kernel
theorem dX9_readOne_69 : decode cX9_readOne 69 = .ok (.aload_n 0, 1) := by decide +kernel
theorem dX9_readOne_70 : decode cX9_readOne 70 = .ok (.iload_n 1, 1) := by decide +kernel
theorem dX9_readOne_71 : decode cX9_readOne 71 = .ok (.iconst 1, 1) := by decide +kernel
theorem dX9_readOne_72 : decode cX9_readOne 72 = .ok (.iadd, 1) := by decide +kernel
theorem dX9_readOne_73 : decode cX9_readOne 73 = .ok (.invokevirtual 73, 3) := by decide +kernel
theorem dX9_readOne_76 : decode cX9_readOne 76 = .ok (.aload_n 0, 1) := by decide +kernel
theorem dX9_readOne_77 : decode cX9_readOne 77 = .ok (.sipush 20000, 3) := by decide +kernel
theorem dX9_readOne_80 : decode cX9_readOne 80 = .ok (.iload_n 2, 1) := by decide +kernel
theorem dX9_readOne_81 : decode cX9_readOne 81 = .ok (.iadd, 1) := by decide +kernel
theorem dX9_readOne_82 : decode cX9_readOne 82 = .ok (.invokevirtual 55, 3) := by decide +kernel
theorem dX9_readOne_85 : decode cX9_readOne 85 = .ok (.goto 57, 3) := by decide +kernel
theorem dX9_readOne_88 : decode cX9_readOne 88 = .ok (.iload_n 1, 1) := by decide +kernel
theorem dX9_readOne_89 : decode cX9_readOne 89 = .ok (.iconst 5, 1) := by decide +kernel
theorem dX9_readOne_90 : decode cX9_readOne 90 = .ok (.if_icmp .ge 48, 3) := by decide +kernel
theorem dX9_readOne_93 : decode cX9_readOne 93 = .ok (.aload_n 0, 1) := by decide +kernel
theorem dX9_readOne_94 : decode cX9_readOne 94 = .ok (.ldc 91, 2) := by decide +kernel
theorem dX9_readOne_96 : decode cX9_readOne 96 = .ok (.invokevirtual 47, 3) := by decide +kernel
theorem dX9_readOne_99 : decode cX9_readOne 99 = .ok (.ifCond .eq 39, 3) := by decide +kernel
theorem dX9_readOne_102 : decode cX9_readOne 102 = .ok (.aload_n 0, 1) := by decide +kernel
theorem dX9_readOne_103 : decode cX9_readOne 103 = .ok (.invokevirtual 51, 3) := by decide +kernel
theorem dX9_readOne_106 : decode cX9_readOne 106 = .ok (.pop, 1) := by decide +kernel
theorem dX9_readOne_107 : decode cX9_readOne 107 = .ok (.aload_n 0, 1) := by decide +kernel
theorem dX9_readOne_108 : decode cX9_readOne 108 = .ok (.iload_n 1, 1) := by decide +kernel
theorem dX9_readOne_109 : decode cX9_readOne 109 = .ok (.iconst 1, 1) := by decide +kernel
theorem dX9_readOne_110 : decode cX9_readOne 110 = .ok (.iadd, 1) := by decide +kernel
theorem dX9_readOne_111 : decode cX9_readOne 111 = .ok (.invokevirtual 35, 3) := by decide +kernel
theorem dX9_readOne_114 : decode cX9_readOne 114 = .ok (.aload_n 0, 1) := by decide +kernel
theorem dX9_readOne_115 : decode cX9_readOne 115 = .ok (.ldc 93, 2) := by decide +kernel
theorem dX9_readOne_117 : decode cX9_readOne 117 = .ok (.invokevirtual 47, 3) := by decide +kernel
theorem dX9_readOne_120 : decode cX9_readOne 120 = .ok (.ifCond .eq 11, 3) := by decide +kernel
theorem dX9_readOne_123 : decode cX9_readOne 123 = .ok (.aload_n 0, 1) := by decide +kernel
theorem dX9_readOne_124 : decode cX9_readOne 124 = .ok (.invokevirtual 51, 3) := by decide +kernel
theorem dX9_readOne_127 : decode cX9_readOne 127 = .ok (.pop, 1) := by decide +kernel
theorem dX9_readOne_128 : decode cX9_readOne 128 = .ok (.goto 14, 3) := by decide +kernel
theorem dX9_readOne_131 : decode cX9_readOne 131 = .ok (.aload_n 0, 1) := by decide +kernel
theorem dX9_readOne_132 : decode cX9_readOne 132 = .ok (.invokevirtual 95, 3) := by decide +kernel
theorem dX9_readOne_135 : decode cX9_readOne 135 = .ok (.goto 7, 3) := by decide +kernel
theorem dX9_readOne_138 : decode cX9_readOne 138 = .ok (.aload_n 0, 1) := by decide +kernel
theorem dX9_readOne_139 : decode cX9_readOne 139 = .ok (.invokevirtual 95, 3) := by decide +kernel
theorem dX9_readOne_142 : decode cX9_readOne 142 = .ok (.return_, 1) := by decide +kernel
set_option maxRecDepth 20000 in
theorem ggX9_readNumber_X9_sees : GoodIn wsX9_readNumber wsX9_sees := goodIn_r _ [5, 6, 7, 8, 9, 10, 11, 12, 13, 14, 15, 16, 17, 18, 19, 20, 21, 22, 23, 24, 25, 26, 27, 28, 29, 30, 31, 32, 33, 34, 35, 36, 37, 38, 39, 40, 41, 42, 43, 44, 45, 46, 47, 48, 49, 50, 51, 52, 53, 54, 55, 56, 57, 58, 59, 60, 61, 62, 63, 64, 65, 66, 67, 68, 69, 70, 71, 72, 73, 74, 75, 76, 77, 78, 79, 80, 81, 82, 83, 84, 85, 86, 87, 88, 89, 90, 91, 92, 93, 94, 95, 96, 97, 108, 109, 110, 111, 112, 113, 114] rfl (by decide +kernel)
set_option maxRecDepth 20000 in
theorem gX9_readNumber_X9_sees : GoodIn wsX9_readNumber (wsV RX9 47 RX9 yX9_sees wsX9_sees) := goodIn_app (goodIn_r _ [1, 2, 3, 4] rfl (by decide +kernel)) ggX9_readNumber_X9_sees
set_option maxRecDepth 20000 in
theorem ggX9_readNumber_X9_take : GoodIn wsX9_readNumber wsX9_take := goodIn_r _ [101, 8, 7, 108, 109, 110, 111, 112, 113, 114] rfl (by decide +kernel)
set_option maxRecDepth 20000 in
theorem gX9_readNumber_X9_take : GoodIn wsX9_readNumber (wsV RX9 51 RX9 yX9_take wsX9_take) := goodIn_app (goodIn_r _ [98, 99, 100, 4] rfl (by decide +kernel)) ggX9_readNumber_X9_take
set_option maxRecDepth 20000 in
theorem ggX9_readNumber_X9_write : GoodIn wsX9_readNumber wsX9_write := goodIn_r _ [105, 6, 106, 107, 108, 109, 110, 111, 112, 113, 114] rfl (by decide +kernel)
set_option maxRecDepth 20000 in
theorem gX9_readNumber_X9_write : GoodIn wsX9_readNumber (wsV RX9 55 RX9 yX9_write wsX9_write) := goodIn_app (goodIn_r _ [102, 103, 104, 4] rfl (by decide +kernel)) ggX9_readNumber_X9_write
theorem dX9_readNumber_0 : decode cX9_readNumber 0 = .ok (.iconst 0, 1) := by decide +kernel
theorem dX9_readNumber_1 : decode cX9_readNumber 1 = .ok (.istore_n 1, 1) := by decide +kernel
theorem dX9_readNumber_2 : decode cX9_readNumber 2 = .ok (.iconst 0, 1) := by decide +kernel
theorem dX9_readNumber_3 : decode cX9_readNumber 3 = .ok (.istore_n 2, 1) := by decide +kernel
theorem dX9_readNumber_4 : decode cX9_readNumber 4 = .ok (.iload_n 2, 1) := by decide +kernel
theorem dX9_readNumber_5 : decode cX9_readNumber 5 = .ok (.iconst 4, 1) := by decide +kernel
theorem dX9_readNumber_6 : decode cX9_readNumber 6 = .ok (.if_icmp .ge 31, 3) := by decide +kernel
theorem dX9_readNumber_9 : decode cX9_readNumber 9 = .ok (.aload_n 0, 1) := by decide +kernel
theorem dX9_readNumber_10 : decode cX9_readNumber 10 = .ok (.ldc 78, 2) := by decide +kernel
theorem dX9_readNumber_12 : decode cX9_readNumber 12 = .ok (.invokevirtual 47, 3) := by decide +kernel
theorem dX9_readNumber_15 : decode cX9_readNumber 15 = .ok (.ifCond .eq 22, 3) := by decide +kernel
theorem dX9_readNumber_18 : decode cX9_readNumber 18 = .ok (.iload_n 1, 1) := by decide +kernel
theorem dX9_readNumber_19 : decode cX9_readNumber 19 = .ok (.bipush 10, 2) := by decide +kernel
theorem dX9_readNumber_21 : decode cX9_readNumber 21 = .ok (.imul, 1) := by decide +kernel
theorem dX9_readNumber_22 : decode cX9_readNumber 22 = .ok (.aload_n 0, 1) := by decide +kernel
theorem dX9_readNumber_23 : decode cX9_readNumber 23 = .ok (.invokevirtual 51, 3) := by decide +kernel
theorem dX9_readNumber_26 : decode cX9_readNumber 26 = .ok (.iadd, 1) := by decide +kernel
theorem dX9_readNumber_27 : decode cX9_readNumber 27 = .ok (.bipush 48, 2) := by decide +kernel
theorem dX9_readNumber_29 : decode cX9_readNumber 29 = .ok (.isub, 1) := by decide +kernel
theorem dX9_readNumber_30 : decode cX9_readNumber 30 = .ok (.istore_n 1, 1) := by decide +kernel
theorem dX9_readNumber_31 : decode cX9_readNumber 31 = .ok (.iinc 2 1, 3) := by decide +kernel
theorem dX9_readNumber_34 : decode cX9_readNumber 34 = .ok (.goto (-30), 3) := by decide +kernel
theorem dX9_readNumber_37 : decode cX9_readNumber 37 = .ok (.aload_n 0, 1) := by decide +kernel
theorem dX9_readNumber_38 : decode cX9_readNumber 38 = .ok (.iload_n 1, 1) := by decide +kernel
theorem dX9_readNumber_39 : decode cX9_readNumber 39 = .ok (.invokevirtual 55, 3) := by decide +kernel
theorem dX9_readNumber_42 : decode cX9_readNumber 42 = .ok (.return_, 1) := by decide +kernel
theorem dX9_stopHere_0 : decode cX9_stopHere 0 = .ok (.aload_n 0, 1) := by decide +kernel
theorem dX9_stopHere_1 : decode cX9_stopHere 1 = .ok (.getfield 9, 3) := by decide +kernel
theorem dX9_stopHere_4 : decode cX9_stopHere 4 = .ok (.ifCond .ge 11, 3) := by decide +kernel
theorem dX9_stopHere_7 : decode cX9_stopHere 7 = .ok (.aload_n 0, 1) := by decide +kernel
theorem dX9_stopHere_8 : decode cX9_stopHere 8 = .ok (.aload_n 0, 1) := by decide +kernel
theorem dX9_stopHere_9 : decode cX9_stopHere 9 = .ok (.getfield 39, 3) := by decide +kernel
theorem dX9_stopHere_12 : decode cX9_stopHere 12 = .ok (.putfield 9, 3) := by decide +kernel
theorem dX9_stopHere_15 : decode cX9_stopHere 15 = .ok (.return_, 1) := by decide +kernel
set_option maxRecDepth 20000 in
theorem ggX9_sees_J0_indexOf_0f7a4 : GoodIn wsX9_sees wsJ0_indexOf_0f7a4 := goodIn_r _ [8, 9, 10, 11, 7, 12, 13, 14, 15, 16, 17, 18, 19, 20, 21, 22, 23, 24, 25, 26, 27, 28, 29, 30, 31, 32, 33, 34, 35, 36, 37, 38, 39, 40, 41, 42, 43, 44, 45, 46, 47, 48, 49, 50, 51, 52, 53, 54, 55, 56, 57, 58, 59, 60, 61, 62, 63, 64, 65, 66, 67, 68, 69, 70, 71, 72, 73, 74, 75, 76, 77, 78, 79, 80, 81, 82, 83, 84, 85, 86, 87, 88, 89, 90, 91, 92] rfl (by decide +kernel)
set_option maxRecDepth 20000 in
theorem gX9_sees_J0_indexOf_0f7a4 : GoodIn wsX9_sees (wsV RX9 83 RJ0 yJ0_indexOf_0f7a4 wsJ0_indexOf_0f7a4) := goodIn_app (goodIn_r _ [4, 5, 6, 7] rfl (by decide +kernel)) ggX9_sees_J0_indexOf_0f7a4
theorem dX9_sees_0 : decode cX9_sees 0 = .ok (.aload_n 0, 1) := by decide +kernel
theorem dX9_sees_1 : decode cX9_sees 1 = .ok (.getfield 9, 3) := by decide +kernel
theorem dX9_sees_4 : decode cX9_sees 4 = .ok (.ifCond .ge 36, 3) := by decide +kernel
theorem dX9_sees_7 : decode cX9_sees 7 = .ok (.aload_n 0, 1) := by decide +kernel
theorem dX9_sees_8 : decode cX9_sees 8 = .ok (.getfield 39, 3) := by decide +kernel
theorem dX9_sees_11 : decode cX9_sees 11 = .ok (.aload_n 0, 1) := by decide +kernel
theorem dX9_sees_12 : decode cX9_sees 12 = .ok (.getfield 21, 3) := by decide +kernel
theorem dX9_sees_15 : decode cX9_sees 15 = .ok (.arraylength, 1) := by decide +kernel
theorem dX9_sees_16 : decode cX9_sees 16 = .ok (.if_icmp .ge 24, 3) := by decide +kernel
theorem dX9_sees_19 : decode cX9_sees 19 = .ok (.aload_n 1, 1) := by decide +kernel
theorem dX9_sees_20 : decode cX9_sees 20 = .ok (.aload_n 0, 1) := by decide +kernel
theorem dX9_sees_21 : decode cX9_sees 21 = .ok (.getfield 21, 3) := by decide +kernel
theorem dX9_sees_24 : decode cX9_sees 24 = .ok (.aload_n 0, 1) := by decide +kernel
theorem dX9_sees_25 : decode cX9_sees 25 = .ok (.getfield 39, 3) := by decide +kernel
theorem dX9_sees_28 : decode cX9_sees 28 = .ok (.iaload, 1) := by decide +kernel
theorem dX9_sees_29 : decode cX9_sees 29 = .ok (.i2c, 1) := by decide +kernel
theorem dX9_sees_30 : decode cX9_sees 30 = .ok (.invokevirtual 83, 3) := by decide +kernel
theorem dX9_sees_33 : decode cX9_sees 33 = .ok (.ifCond .lt 7, 3) := by decide +kernel
theorem dX9_sees_36 : decode cX9_sees 36 = .ok (.iconst 1, 1) := by decide +kernel
theorem dX9_sees_37 : decode cX9_sees 37 = .ok (.goto 4, 3) := by decide +kernel
theorem dX9_sees_40 : decode cX9_sees 40 = .ok (.iconst 0, 1) := by decide +kernel
theorem dX9_sees_41 : decode cX9_sees 41 = .ok (.ireturn, 1) := by decide +kernel
theorem dX9_take_0 : decode cX9_take 0 = .ok (.aload_n 0, 1) := by decide +kernel
theorem dX9_take_1 : decode cX9_take 1 = .ok (.getfield 21, 3) := by decide +kernel
theorem dX9_take_4 : decode cX9_take 4 = .ok (.aload_n 0, 1) := by decide +kernel
theorem dX9_take_5 : decode cX9_take 5 = .ok (.getfield 39, 3) := by decide +kernel
theorem dX9_take_8 : decode cX9_take 8 = .ok (.iaload, 1) := by decide +kernel
theorem dX9_take_9 : decode cX9_take 9 = .ok (.istore_n 1, 1) := by decide +kernel
theorem dX9_take_10 : decode cX9_take 10 = .ok (.aload_n 0, 1) := by decide +kernel
theorem dX9_take_11 : decode cX9_take 11 = .ok (.dup, 1) := by decide +kernel
theorem dX9_take_12 : decode cX9_take 12 = .ok (.getfield 39, 3) := by decide +kernel
theorem dX9_take_15 : decode cX9_take 15 = .ok (.iconst 1, 1) := by decide +kernel
theorem dX9_take_16 : decode cX9_take 16 = .ok (.iadd, 1) := by decide +kernel
theorem dX9_take_17 : decode cX9_take 17 = .ok (.putfield 39, 3) := by decide +kernel
theorem dX9_take_20 : decode cX9_take 20 = .ok (.iload_n 1, 1) := by decide +kernel
theorem dX9_take_21 : decode cX9_take 21 = .ok (.ireturn, 1) := by decide +kernel
theorem dX9_write_0 : decode cX9_write 0 = .ok (.aload_n 0, 1) := by decide +kernel
theorem dX9_write_1 : decode cX9_write 1 = .ok (.getfield 9, 3) := by decide +kernel
theorem dX9_write_4 : decode cX9_write 4 = .ok (.ifCond .ge 23, 3) := by decide +kernel
theorem dX9_write_7 : decode cX9_write 7 = .ok (.aload_n 0, 1) := by decide +kernel
theorem dX9_write_8 : decode cX9_write 8 = .ok (.getfield 29, 3) := by decide +kernel
theorem dX9_write_11 : decode cX9_write 11 = .ok (.aload_n 0, 1) := by decide +kernel
theorem dX9_write_12 : decode cX9_write 12 = .ok (.getfield 98, 3) := by decide +kernel
theorem dX9_write_15 : decode cX9_write 15 = .ok (.iload_n 1, 1) := by decide +kernel
theorem dX9_write_16 : decode cX9_write 16 = .ok (.iastore, 1) := by decide +kernel
theorem dX9_write_17 : decode cX9_write 17 = .ok (.aload_n 0, 1) := by decide +kernel
theorem dX9_write_18 : decode cX9_write 18 = .ok (.dup, 1) := by decide +kernel
theorem dX9_write_19 : decode cX9_write 19 = .ok (.getfield 98, 3) := by decide +kernel
theorem dX9_write_22 : decode cX9_write 22 = .ok (.iconst 1, 1) := by decide +kernel
theorem dX9_write_23 : decode cX9_write 23 = .ok (.iadd, 1) := by decide +kernel
theorem dX9_write_24 : decode cX9_write 24 = .ok (.putfield 98, 3) := by decide +kernel
theorem dX9_write_27 : decode cX9_write 27 = .ok (.return_, 1) := by decide +kernel
set_option maxRecDepth 20000 in
theorem ggX9_workOut_X9_joined : GoodIn wsX9_workOut wsX9_joined := goodIn_r _ [7] rfl (by decide +kernel)
set_option maxRecDepth 20000 in
theorem gX9_workOut_X9_joined : GoodIn wsX9_workOut (va_wsS RX9 101 yX9_joined wsX9_joined) := goodIn_app (goodIn_r _ [4, 5, 6] rfl (by decide +kernel)) ggX9_workOut_X9_joined
theorem dX9_workOut_0 : decode cX9_workOut 0 = .ok (.iconst 0, 1) := by decide +kernel
theorem dX9_workOut_1 : decode cX9_workOut 1 = .ok (.istore 4, 2) := by decide +kernel
theorem dX9_workOut_3 : decode cX9_workOut 3 = .ok (.iconst 0, 1) := by decide +kernel
theorem dX9_workOut_4 : decode cX9_workOut 4 = .ok (.istore 5, 2) := by decide +kernel
theorem dX9_workOut_6 : decode cX9_workOut 6 = .ok (.iload 5, 2) := by decide +kernel
theorem dX9_workOut_8 : decode cX9_workOut 8 = .ok (.aload_n 0, 1) := by decide +kernel
theorem dX9_workOut_9 : decode cX9_workOut 9 = .ok (.getfield 98, 3) := by decide +kernel
theorem dX9_workOut_12 : decode cX9_workOut 12 = .ok (.if_icmp .ge 161, 3) := by decide +kernel
theorem dX9_workOut_15 : decode cX9_workOut 15 = .ok (.aload_n 0, 1) := by decide +kernel
theorem dX9_workOut_16 : decode cX9_workOut 16 = .ok (.getfield 29, 3) := by decide +kernel
theorem dX9_workOut_19 : decode cX9_workOut 19 = .ok (.iload 5, 2) := by decide +kernel
theorem dX9_workOut_21 : decode cX9_workOut 21 = .ok (.iaload, 1) := by decide +kernel
theorem dX9_workOut_22 : decode cX9_workOut 22 = .ok (.istore 6, 2) := by decide +kernel
theorem dX9_workOut_24 : decode cX9_workOut 24 = .ok (.iload 6, 2) := by decide +kernel
theorem dX9_workOut_26 : decode cX9_workOut 26 = .ok (.sipush 10000, 3) := by decide +kernel
theorem dX9_workOut_29 : decode cX9_workOut 29 = .ok (.if_icmp .ge 18, 3) := by decide +kernel
theorem dX9_workOut_32 : decode cX9_workOut 32 = .ok (.aload_n 0, 1) := by decide +kernel
theorem dX9_workOut_33 : decode cX9_workOut 33 = .ok (.getfield 32, 3) := by decide +kernel
theorem dX9_workOut_36 : decode cX9_workOut 36 = .ok (.iload 4, 2) := by decide +kernel
theorem dX9_workOut_38 : decode cX9_workOut 38 = .ok (.iload 6, 2) := by decide +kernel
theorem dX9_workOut_40 : decode cX9_workOut 40 = .ok (.iastore, 1) := by decide +kernel
theorem dX9_workOut_41 : decode cX9_workOut 41 = .ok (.iinc 4 1, 3) := by decide +kernel
theorem dX9_workOut_44 : decode cX9_workOut 44 = .ok (.goto 123, 3) := by decide +kernel
theorem dX9_workOut_47 : decode cX9_workOut 47 = .ok (.iload 6, 2) := by decide +kernel
theorem dX9_workOut_49 : decode cX9_workOut 49 = .ok (.sipush 20000, 3) := by decide +kernel
theorem dX9_workOut_52 : decode cX9_workOut 52 = .ok (.if_icmp .ge 41, 3) := by decide +kernel
theorem dX9_workOut_55 : decode cX9_workOut 55 = .ok (.aload_n 0, 1) := by decide +kernel
theorem dX9_workOut_56 : decode cX9_workOut 56 = .ok (.getfield 32, 3) := by decide +kernel
theorem dX9_workOut_59 : decode cX9_workOut 59 = .ok (.iload 4, 2) := by decide +kernel
theorem dX9_workOut_61 : decode cX9_workOut 61 = .ok (.iload 6, 2) := by decide +kernel
theorem dX9_workOut_63 : decode cX9_workOut 63 = .ok (.sipush 10000, 3) := by decide +kernel
theorem dX9_workOut_66 : decode cX9_workOut 66 = .ok (.if_icmp .ne 7, 3) := by decide +kernel
theorem dX9_workOut_69 : decode cX9_workOut 69 = .ok (.iload_n 1, 1) := by decide +kernel
theorem dX9_workOut_70 : decode cX9_workOut 70 = .ok (.goto 16, 3) := by decide +kernel
theorem dX9_workOut_73 : decode cX9_workOut 73 = .ok (.iload 6, 2) := by decide +kernel
theorem dX9_workOut_75 : decode cX9_workOut 75 = .ok (.sipush 10001, 3) := by decide +kernel
theorem dX9_workOut_78 : decode cX9_workOut 78 = .ok (.if_icmp .ne 7, 3) := by decide +kernel
theorem dX9_workOut_81 : decode cX9_workOut 81 = .ok (.iload_n 2, 1) := by decide +kernel
theorem dX9_workOut_82 : decode cX9_workOut 82 = .ok (.goto 4, 3) := by decide +kernel
theorem dX9_workOut_85 : decode cX9_workOut 85 = .ok (.iload_n 3, 1) := by decide +kernel
theorem dX9_workOut_86 : decode cX9_workOut 86 = .ok (.iastore, 1) := by decide +kernel
theorem dX9_workOut_87 : decode cX9_workOut 87 = .ok (.iinc 4 1, 3) := by decide +kernel
theorem dX9_workOut_90 : decode cX9_workOut 90 = .ok (.goto 77, 3) := by decide +kernel
theorem dX9_workOut_93 : decode cX9_workOut 93 = .ok (.iload 6, 2) := by decide +kernel
theorem dX9_workOut_95 : decode cX9_workOut 95 = .ok (.sipush 20033, 3) := by decide +kernel
theorem dX9_workOut_98 : decode cX9_workOut 98 = .ok (.if_icmp .ne 32, 3) := by decide +kernel
theorem dX9_workOut_101 : decode cX9_workOut 101 = .ok (.aload_n 0, 1) := by decide +kernel
theorem dX9_workOut_102 : decode cX9_workOut 102 = .ok (.getfield 32, 3) := by decide +kernel
theorem dX9_workOut_105 : decode cX9_workOut 105 = .ok (.iload 4, 2) := by decide +kernel
theorem dX9_workOut_107 : decode cX9_workOut 107 = .ok (.iconst 1, 1) := by decide +kernel
theorem dX9_workOut_108 : decode cX9_workOut 108 = .ok (.isub, 1) := by decide +kernel
theorem dX9_workOut_109 : decode cX9_workOut 109 = .ok (.aload_n 0, 1) := by decide +kernel
theorem dX9_workOut_110 : decode cX9_workOut 110 = .ok (.getfield 32, 3) := by decide +kernel
theorem dX9_workOut_113 : decode cX9_workOut 113 = .ok (.iload 4, 2) := by decide +kernel
theorem dX9_workOut_115 : decode cX9_workOut 115 = .ok (.iconst 1, 1) := by decide +kernel
theorem dX9_workOut_116 : decode cX9_workOut 116 = .ok (.isub, 1) := by decide +kernel
theorem dX9_workOut_117 : decode cX9_workOut 117 = .ok (.iaload, 1) := by decide +kernel
theorem dX9_workOut_118 : decode cX9_workOut 118 = .ok (.ifCond .ne 7, 3) := by decide +kernel
theorem dX9_workOut_121 : decode cX9_workOut 121 = .ok (.iconst 1, 1) := by decide +kernel
theorem dX9_workOut_122 : decode cX9_workOut 122 = .ok (.goto 4, 3) := by decide +kernel
theorem dX9_workOut_125 : decode cX9_workOut 125 = .ok (.iconst 0, 1) := by decide +kernel
theorem dX9_workOut_126 : decode cX9_workOut 126 = .ok (.iastore, 1) := by decide +kernel
theorem dX9_workOut_127 : decode cX9_workOut 127 = .ok (.goto 40, 3) := by decide +kernel
theorem dX9_workOut_130 : decode cX9_workOut 130 = .ok (.iinc 4 (-1), 3) := by decide +kernel
theorem dX9_workOut_133 : decode cX9_workOut 133 = .ok (.aload_n 0, 1) := by decide +kernel
theorem dX9_workOut_134 : decode cX9_workOut 134 = .ok (.getfield 32, 3) := by decide +kernel
theorem dX9_workOut_137 : decode cX9_workOut 137 = .ok (.iload 4, 2) := by decide +kernel
theorem dX9_workOut_139 : decode cX9_workOut 139 = .ok (.iconst 1, 1) := by decide +kernel
theorem dX9_workOut_140 : decode cX9_workOut 140 = .ok (.isub, 1) := by decide +kernel
theorem dX9_workOut_141 : decode cX9_workOut 141 = .ok (.iload 6, 2) := by decide +kernel
theorem dX9_workOut_143 : decode cX9_workOut 143 = .ok (.sipush 20000, 3) := by decide +kernel
theorem dX9_workOut_146 : decode cX9_workOut 146 = .ok (.isub, 1) := by decide +kernel
theorem dX9_workOut_147 : decode cX9_workOut 147 = .ok (.aload_n 0, 1) := by decide +kernel
theorem dX9_workOut_148 : decode cX9_workOut 148 = .ok (.getfield 32, 3) := by decide +kernel
theorem dX9_workOut_151 : decode cX9_workOut 151 = .ok (.iload 4, 2) := by decide +kernel
theorem dX9_workOut_153 : decode cX9_workOut 153 = .ok (.iconst 1, 1) := by decide +kernel
theorem dX9_workOut_154 : decode cX9_workOut 154 = .ok (.isub, 1) := by decide +kernel
theorem dX9_workOut_155 : decode cX9_workOut 155 = .ok (.iaload, 1) := by decide +kernel
theorem dX9_workOut_156 : decode cX9_workOut 156 = .ok (.aload_n 0, 1) := by decide +kernel
theorem dX9_workOut_157 : decode cX9_workOut 157 = .ok (.getfield 32, 3) := by decide +kernel
theorem dX9_workOut_160 : decode cX9_workOut 160 = .ok (.iload 4, 2) := by decide +kernel
theorem dX9_workOut_162 : decode cX9_workOut 162 = .ok (.iaload, 1) := by decide +kernel
theorem dX9_workOut_163 : decode cX9_workOut 163 = .ok (.invokestatic 101, 3) := by decide +kernel
theorem dX9_workOut_166 : decode cX9_workOut 166 = .ok (.iastore, 1) := by decide +kernel
theorem dX9_workOut_167 : decode cX9_workOut 167 = .ok (.iinc 5 1, 3) := by decide +kernel
theorem dX9_workOut_170 : decode cX9_workOut 170 = .ok (.goto (-164), 3) := by decide +kernel
theorem dX9_workOut_173 : decode cX9_workOut 173 = .ok (.aload_n 0, 1) := by decide +kernel
theorem dX9_workOut_174 : decode cX9_workOut 174 = .ok (.getfield 32, 3) := by decide +kernel
theorem dX9_workOut_177 : decode cX9_workOut 177 = .ok (.iconst 0, 1) := by decide +kernel
theorem dX9_workOut_178 : decode cX9_workOut 178 = .ok (.iaload, 1) := by decide +kernel
theorem dX9_workOut_179 : decode cX9_workOut 179 = .ok (.ireturn, 1) := by decide +kernel
theorem dX9_joined_0 : decode cX9_joined 0 = .ok (.iload_n 0, 1) := by decide +kernel
theorem dX9_joined_1 : decode cX9_joined 1 = .ok (.lookupswitch 168 #[(38, 97), (42, 152), (43, 144), (45, 148), (47, 156), (60, 111), (61, 122), (62, 133), (124, 83)], 83) := by decide +kernel
theorem dX9_joined_84 : decode cX9_joined 84 = .ok (.iload_n 1, 1) := by decide +kernel
theorem dX9_joined_85 : decode cX9_joined 85 = .ok (.ifCond .ne 7, 3) := by decide +kernel
theorem dX9_joined_88 : decode cX9_joined 88 = .ok (.iload_n 2, 1) := by decide +kernel
theorem dX9_joined_89 : decode cX9_joined 89 = .ok (.ifCond .eq 7, 3) := by decide +kernel
theorem dX9_joined_92 : decode cX9_joined 92 = .ok (.iconst 1, 1) := by decide +kernel
theorem dX9_joined_93 : decode cX9_joined 93 = .ok (.goto 4, 3) := by decide +kernel
theorem dX9_joined_96 : decode cX9_joined 96 = .ok (.iconst 0, 1) := by decide +kernel
theorem dX9_joined_97 : decode cX9_joined 97 = .ok (.ireturn, 1) := by decide +kernel
theorem dX9_joined_98 : decode cX9_joined 98 = .ok (.iload_n 1, 1) := by decide +kernel
theorem dX9_joined_99 : decode cX9_joined 99 = .ok (.ifCond .eq 11, 3) := by decide +kernel
theorem dX9_joined_102 : decode cX9_joined 102 = .ok (.iload_n 2, 1) := by decide +kernel
theorem dX9_joined_103 : decode cX9_joined 103 = .ok (.ifCond .eq 7, 3) := by decide +kernel
theorem dX9_joined_106 : decode cX9_joined 106 = .ok (.iconst 1, 1) := by decide +kernel
theorem dX9_joined_107 : decode cX9_joined 107 = .ok (.goto 4, 3) := by decide +kernel
theorem dX9_joined_110 : decode cX9_joined 110 = .ok (.iconst 0, 1) := by decide +kernel
theorem dX9_joined_111 : decode cX9_joined 111 = .ok (.ireturn, 1) := by decide +kernel
theorem dX9_joined_112 : decode cX9_joined 112 = .ok (.iload_n 1, 1) := by decide +kernel
theorem dX9_joined_113 : decode cX9_joined 113 = .ok (.iload_n 2, 1) := by decide +kernel
theorem dX9_joined_114 : decode cX9_joined 114 = .ok (.if_icmp .ge 7, 3) := by decide +kernel
theorem dX9_joined_117 : decode cX9_joined 117 = .ok (.iconst 1, 1) := by decide +kernel
theorem dX9_joined_118 : decode cX9_joined 118 = .ok (.goto 4, 3) := by decide +kernel
theorem dX9_joined_121 : decode cX9_joined 121 = .ok (.iconst 0, 1) := by decide +kernel
theorem dX9_joined_122 : decode cX9_joined 122 = .ok (.ireturn, 1) := by decide +kernel
theorem dX9_joined_123 : decode cX9_joined 123 = .ok (.iload_n 1, 1) := by decide +kernel
theorem dX9_joined_124 : decode cX9_joined 124 = .ok (.iload_n 2, 1) := by decide +kernel
theorem dX9_joined_125 : decode cX9_joined 125 = .ok (.if_icmp .ne 7, 3) := by decide +kernel
theorem dX9_joined_128 : decode cX9_joined 128 = .ok (.iconst 1, 1) := by decide +kernel
theorem dX9_joined_129 : decode cX9_joined 129 = .ok (.goto 4, 3) := by decide +kernel
theorem dX9_joined_132 : decode cX9_joined 132 = .ok (.iconst 0, 1) := by decide +kernel
theorem dX9_joined_133 : decode cX9_joined 133 = .ok (.ireturn, 1) := by decide +kernel
theorem dX9_joined_134 : decode cX9_joined 134 = .ok (.iload_n 1, 1) := by decide +kernel
theorem dX9_joined_135 : decode cX9_joined 135 = .ok (.iload_n 2, 1) := by decide +kernel
theorem dX9_joined_136 : decode cX9_joined 136 = .ok (.if_icmp .le 7, 3) := by decide +kernel
theorem dX9_joined_139 : decode cX9_joined 139 = .ok (.iconst 1, 1) := by decide +kernel
theorem dX9_joined_140 : decode cX9_joined 140 = .ok (.goto 4, 3) := by decide +kernel
theorem dX9_joined_143 : decode cX9_joined 143 = .ok (.iconst 0, 1) := by decide +kernel
theorem dX9_joined_144 : decode cX9_joined 144 = .ok (.ireturn, 1) := by decide +kernel
theorem dX9_joined_145 : decode cX9_joined 145 = .ok (.iload_n 1, 1) := by decide +kernel
theorem dX9_joined_146 : decode cX9_joined 146 = .ok (.iload_n 2, 1) := by decide +kernel
theorem dX9_joined_147 : decode cX9_joined 147 = .ok (.iadd, 1) := by decide +kernel
theorem dX9_joined_148 : decode cX9_joined 148 = .ok (.ireturn, 1) := by decide +kernel
theorem dX9_joined_149 : decode cX9_joined 149 = .ok (.iload_n 1, 1) := by decide +kernel
theorem dX9_joined_150 : decode cX9_joined 150 = .ok (.iload_n 2, 1) := by decide +kernel
theorem dX9_joined_151 : decode cX9_joined 151 = .ok (.isub, 1) := by decide +kernel
theorem dX9_joined_152 : decode cX9_joined 152 = .ok (.ireturn, 1) := by decide +kernel
theorem dX9_joined_153 : decode cX9_joined 153 = .ok (.iload_n 1, 1) := by decide +kernel
theorem dX9_joined_154 : decode cX9_joined 154 = .ok (.iload_n 2, 1) := by decide +kernel
theorem dX9_joined_155 : decode cX9_joined 155 = .ok (.imul, 1) := by decide +kernel
theorem dX9_joined_156 : decode cX9_joined 156 = .ok (.ireturn, 1) := by decide +kernel
theorem dX9_joined_157 : decode cX9_joined 157 = .ok (.iload_n 2, 1) := by decide +kernel
theorem dX9_joined_158 : decode cX9_joined 158 = .ok (.ifCond .ne 7, 3) := by decide +kernel
theorem dX9_joined_161 : decode cX9_joined 161 = .ok (.iconst 0, 1) := by decide +kernel
theorem dX9_joined_162 : decode cX9_joined 162 = .ok (.goto 6, 3) := by decide +kernel
theorem dX9_joined_165 : decode cX9_joined 165 = .ok (.iload_n 1, 1) := by decide +kernel
theorem dX9_joined_166 : decode cX9_joined 166 = .ok (.iload_n 2, 1) := by decide +kernel
theorem dX9_joined_167 : decode cX9_joined 167 = .ok (.idiv, 1) := by decide +kernel
theorem dX9_joined_168 : decode cX9_joined 168 = .ok (.ireturn, 1) := by decide +kernel
theorem dX9_joined_169 : decode cX9_joined 169 = .ok (.iload_n 2, 1) := by decide +kernel
theorem dX9_joined_170 : decode cX9_joined 170 = .ok (.ifCond .ne 7, 3) := by decide +kernel
theorem dX9_joined_173 : decode cX9_joined 173 = .ok (.iconst 0, 1) := by decide +kernel
theorem dX9_joined_174 : decode cX9_joined 174 = .ok (.goto 6, 3) := by decide +kernel
theorem dX9_joined_177 : decode cX9_joined 177 = .ok (.iload_n 1, 1) := by decide +kernel
theorem dX9_joined_178 : decode cX9_joined 178 = .ok (.iload_n 2, 1) := by decide +kernel
theorem dX9_joined_179 : decode cX9_joined 179 = .ok (.irem, 1) := by decide +kernel
theorem dX9_joined_180 : decode cX9_joined 180 = .ok (.ireturn, 1) := by decide +kernel
theorem dX10_init_0 : decode cX10_init 0 = .ok (.aload_n 0, 1) := by decide +kernel
theorem dX10_init_1 : decode cX10_init 1 = .ok (.invokespecial 3, 3) := by decide +kernel
theorem dX10_init_4 : decode cX10_init 4 = .ok (.aload_n 0, 1) := by decide +kernel
theorem dX10_init_5 : decode cX10_init 5 = .ok (.bipush 40, 2) := by decide +kernel
theorem dX10_init_7 : decode cX10_init 7 = .ok (.newarray .int, 2) := by decide +kernel
theorem dX10_init_9 : decode cX10_init 9 = .ok (.putfield 9, 3) := by decide +kernel
theorem dX10_init_12 : decode cX10_init 12 = .ok (.return_, 1) := by decide +kernel
theorem dX10_of_0 : decode cX10_of 0 = .ok (.aload_n 0, 1) := by decide +kernel
theorem dX10_of_1 : decode cX10_of 1 = .ok (.iload_n 1, 1) := by decide +kernel
theorem dX10_of_2 : decode cX10_of 2 = .ok (.putfield 15, 3) := by decide +kernel
theorem dX10_of_5 : decode cX10_of 5 = .ok (.aload_n 0, 1) := by decide +kernel
theorem dX10_of_6 : decode cX10_of 6 = .ok (.iload_n 2, 1) := by decide +kernel
theorem dX10_of_7 : decode cX10_of 7 = .ok (.putfield 19, 3) := by decide +kernel
theorem dX10_of_10 : decode cX10_of 10 = .ok (.aload_n 0, 1) := by decide +kernel
theorem dX10_of_11 : decode cX10_of 11 = .ok (.iconst 0, 1) := by decide +kernel
theorem dX10_of_12 : decode cX10_of 12 = .ok (.putfield 22, 3) := by decide +kernel
theorem dX10_of_15 : decode cX10_of 15 = .ok (.return_, 1) := by decide +kernel
theorem dX10_begins_0 : decode cX10_begins 0 = .ok (.aload_n 0, 1) := by decide +kernel
theorem dX10_begins_1 : decode cX10_begins 1 = .ok (.getfield 22, 3) := by decide +kernel
theorem dX10_begins_4 : decode cX10_begins 4 = .ok (.bipush 40, 2) := by decide +kernel
theorem dX10_begins_6 : decode cX10_begins 6 = .ok (.if_icmp .ge 23, 3) := by decide +kernel
theorem dX10_begins_9 : decode cX10_begins 9 = .ok (.aload_n 0, 1) := by decide +kernel
theorem dX10_begins_10 : decode cX10_begins 10 = .ok (.getfield 9, 3) := by decide +kernel
theorem dX10_begins_13 : decode cX10_begins 13 = .ok (.aload_n 0, 1) := by decide +kernel
theorem dX10_begins_14 : decode cX10_begins 14 = .ok (.getfield 22, 3) := by decide +kernel
theorem dX10_begins_17 : decode cX10_begins 17 = .ok (.iload_n 1, 1) := by decide +kernel
theorem dX10_begins_18 : decode cX10_begins 18 = .ok (.iastore, 1) := by decide +kernel
theorem dX10_begins_19 : decode cX10_begins 19 = .ok (.aload_n 0, 1) := by decide +kernel
theorem dX10_begins_20 : decode cX10_begins 20 = .ok (.dup, 1) := by decide +kernel
theorem dX10_begins_21 : decode cX10_begins 21 = .ok (.getfield 22, 3) := by decide +kernel
theorem dX10_begins_24 : decode cX10_begins 24 = .ok (.iconst 1, 1) := by decide +kernel
theorem dX10_begins_25 : decode cX10_begins 25 = .ok (.iadd, 1) := by decide +kernel
theorem dX10_begins_26 : decode cX10_begins 26 = .ok (.putfield 22, 3) := by decide +kernel
theorem dX10_begins_29 : decode cX10_begins 29 = .ok (.return_, 1) := by decide +kernel
set_option maxRecDepth 20000 in
theorem ggX11_init_X8_init : GoodIn wsX11_init wsX8_init := goodIn_r _ [44, 45, 2, 3] rfl (by decide +kernel)
set_option maxRecDepth 20000 in
theorem gX11_init_X8_init_n11 : GoodIn wsX11_init (wsX8_init) := ggX11_init_X8_init
set_option maxRecDepth 20000 in
theorem ggX11_init_X2_init : GoodIn wsX11_init wsX2_init := goodIn_r _ [47, 43, 6, 44, 45, 2, 3] rfl (by decide +kernel)
set_option maxRecDepth 20000 in
theorem gX11_init_X2_init_n14 : GoodIn wsX11_init (wsX2_init) := ggX11_init_X2_init
set_option maxRecDepth 20000 in
theorem ggX11_init_X0_init : GoodIn wsX11_init wsX0_init := goodIn_r _ [49, 43, 6, 44, 45, 2, 3] rfl (by decide +kernel)
set_option maxRecDepth 20000 in
theorem gX11_init_X0_init_n17 : GoodIn wsX11_init (wsX0_init) := ggX11_init_X0_init
set_option maxRecDepth 20000 in
theorem ggX11_init_X5_init : GoodIn wsX11_init wsX5_init := goodIn_r _ [51, 43, 6, 44, 45, 2, 3] rfl (by decide +kernel)
set_option maxRecDepth 20000 in
theorem gX11_init_X5_init_n20 : GoodIn wsX11_init (wsX5_init) := ggX11_init_X5_init
set_option maxRecDepth 20000 in
theorem ggX11_init_X6_init : GoodIn wsX11_init wsX6_init := goodIn_r _ [53, 46, 9, 47, 43, 6, 44, 45, 2, 3] rfl (by decide +kernel)
set_option maxRecDepth 20000 in
theorem gX11_init_X6_init_n23 : GoodIn wsX11_init (wsX6_init) := ggX11_init_X6_init
set_option maxRecDepth 20000 in
theorem ggX11_init_X4_init : GoodIn wsX11_init wsX4_init := goodIn_r _ [55, 48, 12, 49, 43, 6, 44, 45, 2, 3] rfl (by decide +kernel)
set_option maxRecDepth 20000 in
theorem gX11_init_X4_init_n26 : GoodIn wsX11_init (wsX4_init) := ggX11_init_X4_init
set_option maxRecDepth 20000 in
theorem ggX11_init_X1_init : GoodIn wsX11_init wsX1_init := goodIn_r _ [57, 50, 15, 51, 43, 6, 44, 45, 2, 3] rfl (by decide +kernel)
set_option maxRecDepth 20000 in
theorem gX11_init_X1_init_n29 : GoodIn wsX11_init (wsX1_init) := ggX11_init_X1_init
set_option maxRecDepth 20000 in
theorem ggX11_init_X3_init : GoodIn wsX11_init wsX3_init := goodIn_r _ [60, 61, 2, 3, 40, 62, 63, 64, 65, 66, 67, 68, 69, 70, 71, 72, 73, 74, 75, 76, 77, 78, 79, 80, 98, 99, 100, 101, 102, 103, 104, 105, 106, 107, 108, 109, 110, 111, 112, 113, 114, 115] rfl (by decide +kernel)
set_option maxRecDepth 20000 in
theorem gX11_init_X3_init : GoodIn wsX11_init (wsX3_init) := ggX11_init_X3_init
set_option maxRecDepth 20000 in
theorem ggX11_init_X10_init : GoodIn wsX11_init wsX10_init := goodIn_r _ [82, 83, 2, 3, 40, 84, 116, 117, 118, 119] rfl (by decide +kernel)
set_option maxRecDepth 20000 in
theorem gX11_init_X10_init_n51 : GoodIn wsX11_init (wsX10_init) := ggX11_init_X10_init
set_option maxRecDepth 20000 in
theorem ggX11_init_X7_init : GoodIn wsX11_init wsX7_init := goodIn_r _ [86, 87, 2, 3, 40, 88, 120, 121, 122] rfl (by decide +kernel)
set_option maxRecDepth 20000 in
theorem gX11_init_X7_init_n62 : GoodIn wsX11_init (wsX7_init) := ggX11_init_X7_init
theorem dX11_init_0 : decode cX11_init 0 = .ok (.aload_n 0, 1) := by decide +kernel
theorem dX11_init_1 : decode cX11_init 1 = .ok (.invokespecial 3, 3) := by decide +kernel
theorem dX11_init_4 : decode cX11_init 4 = .ok (.aload_n 0, 1) := by decide +kernel
theorem dX11_init_5 : decode cX11_init 5 = .ok (.bipush 7, 2) := by decide +kernel
theorem dX11_init_7 : decode cX11_init 7 = .ok (.anewarray 9, 3) := by decide +kernel
theorem dX11_init_10 : decode cX11_init 10 = .ok (.dup, 1) := by decide +kernel
theorem dX11_init_11 : decode cX11_init 11 = .ok (.iconst 0, 1) := by decide +kernel
theorem dX11_init_12 : decode cX11_init 12 = .ok (.new 9, 3) := by decide +kernel
theorem dX11_init_15 : decode cX11_init 15 = .ok (.dup, 1) := by decide +kernel
theorem dX11_init_16 : decode cX11_init 16 = .ok (.invokespecial 11, 3) := by decide +kernel
theorem dX11_init_19 : decode cX11_init 19 = .ok (.aastore, 1) := by decide +kernel
theorem dX11_init_20 : decode cX11_init 20 = .ok (.dup, 1) := by decide +kernel
theorem dX11_init_21 : decode cX11_init 21 = .ok (.iconst 1, 1) := by decide +kernel
theorem dX11_init_22 : decode cX11_init 22 = .ok (.new 12, 3) := by decide +kernel
theorem dX11_init_25 : decode cX11_init 25 = .ok (.dup, 1) := by decide +kernel
theorem dX11_init_26 : decode cX11_init 26 = .ok (.invokespecial 14, 3) := by decide +kernel
theorem dX11_init_29 : decode cX11_init 29 = .ok (.aastore, 1) := by decide +kernel
theorem dX11_init_30 : decode cX11_init 30 = .ok (.dup, 1) := by decide +kernel
theorem dX11_init_31 : decode cX11_init 31 = .ok (.iconst 2, 1) := by decide +kernel
theorem dX11_init_32 : decode cX11_init 32 = .ok (.new 15, 3) := by decide +kernel
theorem dX11_init_35 : decode cX11_init 35 = .ok (.dup, 1) := by decide +kernel
theorem dX11_init_36 : decode cX11_init 36 = .ok (.invokespecial 17, 3) := by decide +kernel
theorem dX11_init_39 : decode cX11_init 39 = .ok (.aastore, 1) := by decide +kernel
theorem dX11_init_40 : decode cX11_init 40 = .ok (.dup, 1) := by decide +kernel
theorem dX11_init_41 : decode cX11_init 41 = .ok (.iconst 3, 1) := by decide +kernel
theorem dX11_init_42 : decode cX11_init 42 = .ok (.new 18, 3) := by decide +kernel
theorem dX11_init_45 : decode cX11_init 45 = .ok (.dup, 1) := by decide +kernel
theorem dX11_init_46 : decode cX11_init 46 = .ok (.invokespecial 20, 3) := by decide +kernel
theorem dX11_init_49 : decode cX11_init 49 = .ok (.aastore, 1) := by decide +kernel
theorem dX11_init_50 : decode cX11_init 50 = .ok (.dup, 1) := by decide +kernel
theorem dX11_init_51 : decode cX11_init 51 = .ok (.iconst 4, 1) := by decide +kernel
theorem dX11_init_52 : decode cX11_init 52 = .ok (.new 21, 3) := by decide +kernel
theorem dX11_init_55 : decode cX11_init 55 = .ok (.dup, 1) := by decide +kernel
theorem dX11_init_56 : decode cX11_init 56 = .ok (.invokespecial 23, 3) := by decide +kernel
theorem dX11_init_59 : decode cX11_init 59 = .ok (.aastore, 1) := by decide +kernel
theorem dX11_init_60 : decode cX11_init 60 = .ok (.dup, 1) := by decide +kernel
theorem dX11_init_61 : decode cX11_init 61 = .ok (.iconst 5, 1) := by decide +kernel
theorem dX11_init_62 : decode cX11_init 62 = .ok (.new 24, 3) := by decide +kernel
theorem dX11_init_65 : decode cX11_init 65 = .ok (.dup, 1) := by decide +kernel
theorem dX11_init_66 : decode cX11_init 66 = .ok (.invokespecial 26, 3) := by decide +kernel
theorem dX11_init_69 : decode cX11_init 69 = .ok (.aastore, 1) := by decide +kernel
theorem dX11_init_70 : decode cX11_init 70 = .ok (.dup, 1) := by decide +kernel
theorem dX11_init_71 : decode cX11_init 71 = .ok (.bipush 6, 2) := by decide +kernel
theorem dX11_init_73 : decode cX11_init 73 = .ok (.new 27, 3) := by decide +kernel
theorem dX11_init_76 : decode cX11_init 76 = .ok (.dup, 1) := by decide +kernel
theorem dX11_init_77 : decode cX11_init 77 = .ok (.invokespecial 29, 3) := by decide +kernel
theorem dX11_init_80 : decode cX11_init 80 = .ok (.aastore, 1) := by decide +kernel
theorem dX11_init_81 : decode cX11_init 81 = .ok (.putfield 30, 3) := by decide +kernel
theorem dX11_init_84 : decode cX11_init 84 = .ok (.aload_n 0, 1) := by decide +kernel
theorem dX11_init_85 : decode cX11_init 85 = .ok (.new 34, 3) := by decide +kernel
theorem dX11_init_88 : decode cX11_init 88 = .ok (.dup, 1) := by decide +kernel
theorem dX11_init_89 : decode cX11_init 89 = .ok (.aload_n 0, 1) := by decide +kernel
theorem dX11_init_90 : decode cX11_init 90 = .ok (.getfield 30, 3) := by decide +kernel
theorem dX11_init_93 : decode cX11_init 93 = .ok (.invokespecial 36, 3) := by decide +kernel
theorem dX11_init_96 : decode cX11_init 96 = .ok (.putfield 39, 3) := by decide +kernel
theorem dX11_init_99 : decode cX11_init 99 = .ok (.aload_n 0, 1) := by decide +kernel
theorem dX11_init_100 : decode cX11_init 100 = .ok (.new 34, 3) := by decide +kernel
theorem dX11_init_103 : decode cX11_init 103 = .ok (.dup, 1) := by decide +kernel
theorem dX11_init_104 : decode cX11_init 104 = .ok (.aload_n 0, 1) := by decide +kernel
theorem dX11_init_105 : decode cX11_init 105 = .ok (.getfield 30, 3) := by decide +kernel
theorem dX11_init_108 : decode cX11_init 108 = .ok (.invokespecial 36, 3) := by decide +kernel
theorem dX11_init_111 : decode cX11_init 111 = .ok (.putfield 43, 3) := by decide +kernel
theorem dX11_init_114 : decode cX11_init 114 = .ok (.aload_n 0, 1) := by decide +kernel
theorem dX11_init_115 : decode cX11_init 115 = .ok (.new 34, 3) := by decide +kernel
theorem dX11_init_118 : decode cX11_init 118 = .ok (.dup, 1) := by decide +kernel
theorem dX11_init_119 : decode cX11_init 119 = .ok (.aload_n 0, 1) := by decide +kernel
theorem dX11_init_120 : decode cX11_init 120 = .ok (.getfield 30, 3) := by decide +kernel
theorem dX11_init_123 : decode cX11_init 123 = .ok (.invokespecial 36, 3) := by decide +kernel
theorem dX11_init_126 : decode cX11_init 126 = .ok (.putfield 46, 3) := by decide +kernel
theorem dX11_init_129 : decode cX11_init 129 = .ok (.aload_n 0, 1) := by decide +kernel
theorem dX11_init_130 : decode cX11_init 130 = .ok (.new 49, 3) := by decide +kernel
theorem dX11_init_133 : decode cX11_init 133 = .ok (.dup, 1) := by decide +kernel
theorem dX11_init_134 : decode cX11_init 134 = .ok (.invokespecial 51, 3) := by decide +kernel
theorem dX11_init_137 : decode cX11_init 137 = .ok (.putfield 52, 3) := by decide +kernel
theorem dX11_init_140 : decode cX11_init 140 = .ok (.aload_n 0, 1) := by decide +kernel
theorem dX11_init_141 : decode cX11_init 141 = .ok (.iconst 4, 1) := by decide +kernel
theorem dX11_init_142 : decode cX11_init 142 = .ok (.anewarray 56, 3) := by decide +kernel
theorem dX11_init_145 : decode cX11_init 145 = .ok (.putfield 58, 3) := by decide +kernel
theorem dX11_init_148 : decode cX11_init 148 = .ok (.iconst 0, 1) := by decide +kernel
theorem dX11_init_149 : decode cX11_init 149 = .ok (.istore_n 1, 1) := by decide +kernel
theorem dX11_init_150 : decode cX11_init 150 = .ok (.iload_n 1, 1) := by decide +kernel
theorem dX11_init_151 : decode cX11_init 151 = .ok (.iconst 4, 1) := by decide +kernel
theorem dX11_init_152 : decode cX11_init 152 = .ok (.if_icmp .ge 22, 3) := by decide +kernel
theorem dX11_init_155 : decode cX11_init 155 = .ok (.aload_n 0, 1) := by decide +kernel
theorem dX11_init_156 : decode cX11_init 156 = .ok (.getfield 58, 3) := by decide +kernel
theorem dX11_init_159 : decode cX11_init 159 = .ok (.iload_n 1, 1) := by decide +kernel
theorem dX11_init_160 : decode cX11_init 160 = .ok (.new 56, 3) := by decide +kernel
theorem dX11_init_163 : decode cX11_init 163 = .ok (.dup, 1) := by decide +kernel
theorem dX11_init_164 : decode cX11_init 164 = .ok (.invokespecial 62, 3) := by decide +kernel
theorem dX11_init_167 : decode cX11_init 167 = .ok (.aastore, 1) := by decide +kernel
theorem dX11_init_168 : decode cX11_init 168 = .ok (.iinc 1 1, 3) := by decide +kernel
theorem dX11_init_171 : decode cX11_init 171 = .ok (.goto (-21), 3) := by decide +kernel
theorem dX11_init_174 : decode cX11_init 174 = .ok (.aload_n 0, 1) := by decide +kernel
theorem dX11_init_175 : decode cX11_init 175 = .ok (.bipush 6, 2) := by decide +kernel
theorem dX11_init_177 : decode cX11_init 177 = .ok (.newarray .int, 2) := by decide +kernel
theorem dX11_init_179 : decode cX11_init 179 = .ok (.putfield 63, 3) := by decide +kernel
theorem dX11_init_182 : decode cX11_init 182 = .ok (.aload_n 0, 1) := by decide +kernel
theorem dX11_init_183 : decode cX11_init 183 = .ok (.sipush 256, 3) := by decide +kernel
theorem dX11_init_186 : decode cX11_init 186 = .ok (.newarray .int, 2) := by decide +kernel
theorem dX11_init_188 : decode cX11_init 188 = .ok (.putfield 67, 3) := by decide +kernel
theorem dX11_init_191 : decode cX11_init 191 = .ok (.return_, 1) := by decide +kernel
set_option maxRecDepth 20000 in
theorem ggX11_word_X11_isWord : GoodIn wsX11_word wsX11_isWord := goodIn_r _ [7, 8, 9, 6, 10] rfl (by decide +kernel)
set_option maxRecDepth 20000 in
theorem gX11_word_X11_isWord : GoodIn wsX11_word (va_wsS RX11 70 yX11_isWord wsX11_isWord) := goodIn_app (goodIn_r _ [4, 5, 6] rfl (by decide +kernel)) ggX11_word_X11_isWord
set_option maxRecDepth 20000 in
theorem ggX11_word_X11_within : GoodIn wsX11_word wsX11_within := goodIn_r _ [10] rfl (by decide +kernel)
set_option maxRecDepth 20000 in
theorem gX11_word_X11_within : GoodIn wsX11_word (va_wsS RX11 74 yX11_within wsX11_within) := goodIn_app (goodIn_r _ [8, 9, 6] rfl (by decide +kernel)) ggX11_word_X11_within
set_option maxRecDepth 20000 in
theorem ggX11_word_X11_refused : GoodIn wsX11_word wsX11_refused := goodIn_r _ [14, 15, 16, 17, 18, 19, 20, 21, 22, 23, 24, 25] rfl (by decide +kernel)
set_option maxRecDepth 20000 in
theorem gX11_word_X11_refused : GoodIn wsX11_word (wsV RX11 79 RX11 yX11_refused wsX11_refused) := goodIn_app (goodIn_r _ [11, 12, 13, 6] rfl (by decide +kernel)) ggX11_word_X11_refused
theorem dX11_word_0 : decode cX11_word 0 = .ok (.iload_n 1, 1) := by decide +kernel
theorem dX11_word_1 : decode cX11_word 1 = .ok (.invokestatic 70, 3) := by decide +kernel
theorem dX11_word_4 : decode cX11_word 4 = .ok (.ifCond .eq 13, 3) := by decide +kernel
theorem dX11_word_7 : decode cX11_word 7 = .ok (.iload_n 2, 1) := by decide +kernel
theorem dX11_word_8 : decode cX11_word 8 = .ok (.iconst 0, 1) := by decide +kernel
theorem dX11_word_9 : decode cX11_word 9 = .ok (.bipush 9, 2) := by decide +kernel
theorem dX11_word_11 : decode cX11_word 11 = .ok (.invokestatic 74, 3) := by decide +kernel
theorem dX11_word_14 : decode cX11_word 14 = .ok (.ifCond .ne 10, 3) := by decide +kernel
theorem dX11_word_17 : decode cX11_word 17 = .ok (.aload_n 0, 1) := by decide +kernel
theorem dX11_word_18 : decode cX11_word 18 = .ok (.ldc 78, 2) := by decide +kernel
theorem dX11_word_20 : decode cX11_word 20 = .ok (.invokevirtual 79, 3) := by decide +kernel
theorem dX11_word_23 : decode cX11_word 23 = .ok (.ireturn, 1) := by decide +kernel
theorem dX11_word_24 : decode cX11_word 24 = .ok (.aload_n 0, 1) := by decide +kernel
theorem dX11_word_25 : decode cX11_word 25 = .ok (.getfield 39, 3) := by decide +kernel
theorem dX11_word_28 : decode cX11_word 28 = .ok (.getfield 83, 3) := by decide +kernel
theorem dX11_word_31 : decode cX11_word 31 = .ok (.iload_n 1, 1) := by decide +kernel
theorem dX11_word_32 : decode cX11_word 32 = .ok (.iaload, 1) := by decide +kernel
theorem dX11_word_33 : decode cX11_word 33 = .ok (.istore_n 3, 1) := by decide +kernel
theorem dX11_word_34 : decode cX11_word 34 = .ok (.aload_n 0, 1) := by decide +kernel
theorem dX11_word_35 : decode cX11_word 35 = .ok (.getfield 39, 3) := by decide +kernel
theorem dX11_word_38 : decode cX11_word 38 = .ok (.getfield 83, 3) := by decide +kernel
theorem dX11_word_41 : decode cX11_word 41 = .ok (.iload_n 1, 1) := by decide +kernel
theorem dX11_word_42 : decode cX11_word 42 = .ok (.iload_n 2, 1) := by decide +kernel
theorem dX11_word_43 : decode cX11_word 43 = .ok (.iastore, 1) := by decide +kernel
theorem dX11_word_44 : decode cX11_word 44 = .ok (.iload_n 3, 1) := by decide +kernel
theorem dX11_word_45 : decode cX11_word 45 = .ok (.ireturn, 1) := by decide +kernel
set_option maxRecDepth 20000 in
theorem ggX11_ofWord_X11_isWord : GoodIn wsX11_ofWord wsX11_isWord := goodIn_r _ [8, 9, 10, 7, 11] rfl (by decide +kernel)
set_option maxRecDepth 20000 in
theorem gX11_ofWord_X11_isWord : GoodIn wsX11_ofWord (va_wsS RX11 70 yX11_isWord wsX11_isWord) := goodIn_app (goodIn_r _ [5, 6, 7] rfl (by decide +kernel)) ggX11_ofWord_X11_isWord
set_option maxRecDepth 20000 in
theorem ggX11_ofWord_X11_within : GoodIn wsX11_ofWord wsX11_within := goodIn_r _ [11] rfl (by decide +kernel)
set_option maxRecDepth 20000 in
theorem gX11_ofWord_X11_within : GoodIn wsX11_ofWord (va_wsS RX11 74 yX11_within wsX11_within) := goodIn_app (goodIn_r _ [9, 10, 7] rfl (by decide +kernel)) ggX11_ofWord_X11_within
set_option maxRecDepth 20000 in
theorem ggX11_ofWord_X11_refused : GoodIn wsX11_ofWord wsX11_refused := goodIn_r _ [15, 16, 17, 28, 29, 30, 31, 32, 33, 34, 35, 36] rfl (by decide +kernel)
set_option maxRecDepth 20000 in
theorem gX11_ofWord_X11_refused : GoodIn wsX11_ofWord (wsV RX11 79 RX11 yX11_refused wsX11_refused) := goodIn_app (goodIn_r _ [12, 13, 14, 7] rfl (by decide +kernel)) ggX11_ofWord_X11_refused
set_option maxRecDepth 20000 in
theorem ggX11_ofWord_X3_spoonsWith : GoodIn wsX11_ofWord wsX3_spoonsWith := goodIn_r _ [22, 23, 24, 25, 26, 21, 27, 37, 38, 39, 40, 41, 42, 43, 44, 45, 46, 47, 48, 49, 50, 51, 52, 53, 54] rfl (by decide +kernel)
set_option maxRecDepth 20000 in
theorem gX11_ofWord_X3_spoonsWith : GoodIn wsX11_ofWord (wsV RX11 90 RX3 yX3_spoonsWith wsX3_spoonsWith) := goodIn_app (goodIn_r _ [18, 19, 20, 21] rfl (by decide +kernel)) ggX11_ofWord_X3_spoonsWith
theorem dX11_ofWord_0 : decode cX11_ofWord 0 = .ok (.iload_n 1, 1) := by decide +kernel
theorem dX11_ofWord_1 : decode cX11_ofWord 1 = .ok (.invokestatic 70, 3) := by decide +kernel
theorem dX11_ofWord_4 : decode cX11_ofWord 4 = .ok (.ifCond .eq 12, 3) := by decide +kernel
theorem dX11_ofWord_7 : decode cX11_ofWord 7 = .ok (.iload_n 2, 1) := by decide +kernel
theorem dX11_ofWord_8 : decode cX11_ofWord 8 = .ok (.iconst 0, 1) := by decide +kernel
theorem dX11_ofWord_9 : decode cX11_ofWord 9 = .ok (.iconst 2, 1) := by decide +kernel
theorem dX11_ofWord_10 : decode cX11_ofWord 10 = .ok (.invokestatic 74, 3) := by decide +kernel
theorem dX11_ofWord_13 : decode cX11_ofWord 13 = .ok (.ifCond .ne 10, 3) := by decide +kernel
theorem dX11_ofWord_16 : decode cX11_ofWord 16 = .ok (.aload_n 0, 1) := by decide +kernel
theorem dX11_ofWord_17 : decode cX11_ofWord 17 = .ok (.ldc 78, 2) := by decide +kernel
theorem dX11_ofWord_19 : decode cX11_ofWord 19 = .ok (.invokevirtual 79, 3) := by decide +kernel
theorem dX11_ofWord_22 : decode cX11_ofWord 22 = .ok (.ireturn, 1) := by decide +kernel
theorem dX11_ofWord_23 : decode cX11_ofWord 23 = .ok (.iload_n 2, 1) := by decide +kernel
theorem dX11_ofWord_24 : decode cX11_ofWord 24 = .ok (.ifCond .ne 13, 3) := by decide +kernel
theorem dX11_ofWord_27 : decode cX11_ofWord 27 = .ok (.aload_n 0, 1) := by decide +kernel
theorem dX11_ofWord_28 : decode cX11_ofWord 28 = .ok (.getfield 39, 3) := by decide +kernel
theorem dX11_ofWord_31 : decode cX11_ofWord 31 = .ok (.getfield 83, 3) := by decide +kernel
theorem dX11_ofWord_34 : decode cX11_ofWord 34 = .ok (.iload_n 1, 1) := by decide +kernel
theorem dX11_ofWord_35 : decode cX11_ofWord 35 = .ok (.iaload, 1) := by decide +kernel
theorem dX11_ofWord_36 : decode cX11_ofWord 36 = .ok (.ireturn, 1) := by decide +kernel
theorem dX11_ofWord_37 : decode cX11_ofWord 37 = .ok (.iload_n 2, 1) := by decide +kernel
theorem dX11_ofWord_38 : decode cX11_ofWord 38 = .ok (.iconst 1, 1) := by decide +kernel
theorem dX11_ofWord_39 : decode cX11_ofWord 39 = .ok (.if_icmp .ne 17, 3) := by decide +kernel
theorem dX11_ofWord_42 : decode cX11_ofWord 42 = .ok (.aload_n 0, 1) := by decide +kernel
theorem dX11_ofWord_43 : decode cX11_ofWord 43 = .ok (.getfield 39, 3) := by decide +kernel
theorem dX11_ofWord_46 : decode cX11_ofWord 46 = .ok (.getfield 86, 3) := by decide +kernel
theorem dX11_ofWord_49 : decode cX11_ofWord 49 = .ok (.iload_n 1, 1) := by decide +kernel
theorem dX11_ofWord_50 : decode cX11_ofWord 50 = .ok (.ishr, 1) := by decide +kernel
theorem dX11_ofWord_51 : decode cX11_ofWord 51 = .ok (.iconst 1, 1) := by decide +kernel
theorem dX11_ofWord_52 : decode cX11_ofWord 52 = .ok (.iand, 1) := by decide +kernel
theorem dX11_ofWord_53 : decode cX11_ofWord 53 = .ok (.goto 11, 3) := by decide +kernel
theorem dX11_ofWord_56 : decode cX11_ofWord 56 = .ok (.aload_n 0, 1) := by decide +kernel
theorem dX11_ofWord_57 : decode cX11_ofWord 57 = .ok (.getfield 39, 3) := by decide +kernel
theorem dX11_ofWord_60 : decode cX11_ofWord 60 = .ok (.iload_n 1, 1) := by decide +kernel
theorem dX11_ofWord_61 : decode cX11_ofWord 61 = .ok (.invokevirtual 90, 3) := by decide +kernel
theorem dX11_ofWord_64 : decode cX11_ofWord 64 = .ok (.ireturn, 1) := by decide +kernel
set_option maxRecDepth 20000 in
theorem ggX11_known_X11_isSetOfWords : GoodIn wsX11_known wsX11_isSetOfWords := goodIn_r _ [7, 8, 9, 6, 10] rfl (by decide +kernel)
set_option maxRecDepth 20000 in
theorem gX11_known_X11_isSetOfWords : GoodIn wsX11_known (va_wsS RX11 93 yX11_isSetOfWords wsX11_isSetOfWords) := goodIn_app (goodIn_r _ [4, 5, 6] rfl (by decide +kernel)) ggX11_known_X11_isSetOfWords
set_option maxRecDepth 20000 in
theorem ggX11_known_X11_refused : GoodIn wsX11_known wsX11_refused := goodIn_r _ [14, 15, 16, 17, 18, 19, 20, 21, 22, 23, 24, 25] rfl (by decide +kernel)
set_option maxRecDepth 20000 in
theorem gX11_known_X11_refused : GoodIn wsX11_known (wsV RX11 79 RX11 yX11_refused wsX11_refused) := goodIn_app (goodIn_r _ [11, 12, 13, 6] rfl (by decide +kernel)) ggX11_known_X11_refused
theorem dX11_known_0 : decode cX11_known 0 = .ok (.iload_n 1, 1) := by decide +kernel
theorem dX11_known_1 : decode cX11_known 1 = .ok (.invokestatic 93, 3) := by decide +kernel
theorem dX11_known_4 : decode cX11_known 4 = .ok (.ifCond .ne 10, 3) := by decide +kernel
theorem dX11_known_7 : decode cX11_known 7 = .ok (.aload_n 0, 1) := by decide +kernel
theorem dX11_known_8 : decode cX11_known 8 = .ok (.ldc 78, 2) := by decide +kernel
theorem dX11_known_10 : decode cX11_known 10 = .ok (.invokevirtual 79, 3) := by decide +kernel
theorem dX11_known_13 : decode cX11_known 13 = .ok (.ireturn, 1) := by decide +kernel
theorem dX11_known_14 : decode cX11_known 14 = .ok (.aload_n 0, 1) := by decide +kernel
theorem dX11_known_15 : decode cX11_known 15 = .ok (.getfield 39, 3) := by decide +kernel
theorem dX11_known_18 : decode cX11_known 18 = .ok (.getfield 86, 3) := by decide +kernel
theorem dX11_known_21 : decode cX11_known 21 = .ok (.istore_n 2, 1) := by decide +kernel
theorem dX11_known_22 : decode cX11_known 22 = .ok (.aload_n 0, 1) := by decide +kernel
theorem dX11_known_23 : decode cX11_known 23 = .ok (.getfield 39, 3) := by decide +kernel
theorem dX11_known_26 : decode cX11_known 26 = .ok (.iload_n 1, 1) := by decide +kernel
theorem dX11_known_27 : decode cX11_known 27 = .ok (.putfield 86, 3) := by decide +kernel
theorem dX11_known_30 : decode cX11_known 30 = .ok (.iload_n 2, 1) := by decide +kernel
theorem dX11_known_31 : decode cX11_known 31 = .ok (.ireturn, 1) := by decide +kernel
set_option maxRecDepth 20000 in
theorem ggX11_swallow_X11_within : GoodIn wsX11_swallow wsX11_within := goodIn_r _ [8] rfl (by decide +kernel)
set_option maxRecDepth 20000 in
theorem gX11_swallow_X11_within : GoodIn wsX11_swallow (va_wsS RX11 74 yX11_within wsX11_within) := goodIn_app (goodIn_r _ [5, 6, 7] rfl (by decide +kernel)) ggX11_swallow_X11_within
set_option maxRecDepth 20000 in
theorem ggX11_swallow_X11_mayBeListed : GoodIn wsX11_swallow wsX11_mayBeListed := goodIn_r _ [11, 5, 6, 7, 8] rfl (by decide +kernel)
set_option maxRecDepth 20000 in
theorem gX11_swallow_X11_mayBeListed : GoodIn wsX11_swallow (va_wsS RX11 96 yX11_mayBeListed wsX11_mayBeListed) := goodIn_app (goodIn_r _ [9, 10, 7] rfl (by decide +kernel)) ggX11_swallow_X11_mayBeListed
set_option maxRecDepth 20000 in
theorem ggX11_swallow_X11_isWord : GoodIn wsX11_swallow wsX11_isWord := goodIn_r _ [14, 5, 6, 7, 8] rfl (by decide +kernel)
set_option maxRecDepth 20000 in
theorem gX11_swallow_X11_isWord : GoodIn wsX11_swallow (va_wsS RX11 70 yX11_isWord wsX11_isWord) := goodIn_app (goodIn_r _ [12, 13, 7] rfl (by decide +kernel)) ggX11_swallow_X11_isWord
set_option maxRecDepth 20000 in
theorem ggX11_swallow_X11_refused : GoodIn wsX11_swallow wsX11_refused := goodIn_r _ [18, 19, 20, 28, 29, 30, 31, 32, 33, 34, 35, 36] rfl (by decide +kernel)
set_option maxRecDepth 20000 in
theorem gX11_swallow_X11_refused : GoodIn wsX11_swallow (wsV RX11 79 RX11 yX11_refused wsX11_refused) := goodIn_app (goodIn_r _ [15, 16, 17, 7] rfl (by decide +kernel)) ggX11_swallow_X11_refused
set_option maxRecDepth 20000 in
theorem ggX11_swallow_X3_swallowAt : GoodIn wsX11_swallow wsX3_swallowAt := goodIn_r _ [25, 26, 27, 37, 38, 39, 40, 41, 42, 43, 44, 45, 46, 47, 48, 49, 50, 51, 52, 53, 54] rfl (by decide +kernel)
set_option maxRecDepth 20000 in
theorem gX11_swallow_X3_swallowAt : GoodIn wsX11_swallow (wsV RX11 99 RX3 yX3_swallowAt wsX3_swallowAt) := goodIn_app (goodIn_r _ [21, 22, 23, 24] rfl (by decide +kernel)) ggX11_swallow_X3_swallowAt
theorem dX11_swallow_0 : decode cX11_swallow 0 = .ok (.iload_n 1, 1) := by decide +kernel
theorem dX11_swallow_1 : decode cX11_swallow 1 = .ok (.iconst 0, 1) := by decide +kernel
theorem dX11_swallow_2 : decode cX11_swallow 2 = .ok (.iconst 5, 1) := by decide +kernel
theorem dX11_swallow_3 : decode cX11_swallow 3 = .ok (.invokestatic 74, 3) := by decide +kernel
theorem dX11_swallow_6 : decode cX11_swallow 6 = .ok (.ifCond .eq 17, 3) := by decide +kernel
theorem dX11_swallow_9 : decode cX11_swallow 9 = .ok (.iload_n 2, 1) := by decide +kernel
theorem dX11_swallow_10 : decode cX11_swallow 10 = .ok (.invokestatic 96, 3) := by decide +kernel
theorem dX11_swallow_13 : decode cX11_swallow 13 = .ok (.ifCond .eq 10, 3) := by decide +kernel
theorem dX11_swallow_16 : decode cX11_swallow 16 = .ok (.iload_n 3, 1) := by decide +kernel
theorem dX11_swallow_17 : decode cX11_swallow 17 = .ok (.invokestatic 70, 3) := by decide +kernel
theorem dX11_swallow_20 : decode cX11_swallow 20 = .ok (.ifCond .ne 10, 3) := by decide +kernel
theorem dX11_swallow_23 : decode cX11_swallow 23 = .ok (.aload_n 0, 1) := by decide +kernel
theorem dX11_swallow_24 : decode cX11_swallow 24 = .ok (.ldc 78, 2) := by decide +kernel
theorem dX11_swallow_26 : decode cX11_swallow 26 = .ok (.invokevirtual 79, 3) := by decide +kernel
theorem dX11_swallow_29 : decode cX11_swallow 29 = .ok (.ireturn, 1) := by decide +kernel
theorem dX11_swallow_30 : decode cX11_swallow 30 = .ok (.aload_n 0, 1) := by decide +kernel
theorem dX11_swallow_31 : decode cX11_swallow 31 = .ok (.getfield 39, 3) := by decide +kernel
theorem dX11_swallow_34 : decode cX11_swallow 34 = .ok (.iload_n 1, 1) := by decide +kernel
theorem dX11_swallow_35 : decode cX11_swallow 35 = .ok (.invokevirtual 99, 3) := by decide +kernel
theorem dX11_swallow_38 : decode cX11_swallow 38 = .ok (.istore 4, 2) := by decide +kernel
theorem dX11_swallow_40 : decode cX11_swallow 40 = .ok (.aload_n 0, 1) := by decide +kernel
theorem dX11_swallow_41 : decode cX11_swallow 41 = .ok (.getfield 39, 3) := by decide +kernel
theorem dX11_swallow_44 : decode cX11_swallow 44 = .ok (.getfield 102, 3) := by decide +kernel
theorem dX11_swallow_47 : decode cX11_swallow 47 = .ok (.iload_n 1, 1) := by decide +kernel
theorem dX11_swallow_48 : decode cX11_swallow 48 = .ok (.iload_n 2, 1) := by decide +kernel
theorem dX11_swallow_49 : decode cX11_swallow 49 = .ok (.iastore, 1) := by decide +kernel
theorem dX11_swallow_50 : decode cX11_swallow 50 = .ok (.aload_n 0, 1) := by decide +kernel
theorem dX11_swallow_51 : decode cX11_swallow 51 = .ok (.getfield 39, 3) := by decide +kernel
theorem dX11_swallow_54 : decode cX11_swallow 54 = .ok (.getfield 105, 3) := by decide +kernel
theorem dX11_swallow_57 : decode cX11_swallow 57 = .ok (.iload_n 1, 1) := by decide +kernel
theorem dX11_swallow_58 : decode cX11_swallow 58 = .ok (.iload_n 3, 1) := by decide +kernel
theorem dX11_swallow_59 : decode cX11_swallow 59 = .ok (.iastore, 1) := by decide +kernel
theorem dX11_swallow_60 : decode cX11_swallow 60 = .ok (.iload 4, 2) := by decide +kernel
theorem dX11_swallow_62 : decode cX11_swallow 62 = .ok (.ireturn, 1) := by decide +kernel
set_option maxRecDepth 20000 in
theorem ggX11_ofSwallow_X11_within : GoodIn wsX11_ofSwallow wsX11_within := goodIn_r _ [6] rfl (by decide +kernel)
set_option maxRecDepth 20000 in
theorem gX11_ofSwallow_X11_within : GoodIn wsX11_ofSwallow (va_wsS RX11 74 yX11_within wsX11_within) := goodIn_app (goodIn_r _ [3, 4, 5] rfl (by decide +kernel)) ggX11_ofSwallow_X11_within
set_option maxRecDepth 20000 in
theorem ggX11_ofSwallow_X3_swallowAt : GoodIn wsX11_ofSwallow wsX3_swallowAt := goodIn_r _ [11, 12, 13, 29, 30, 31, 32, 33, 34, 35, 36, 37, 38, 39, 40, 41, 42, 43, 44, 45, 46] rfl (by decide +kernel)
set_option maxRecDepth 20000 in
theorem gX11_ofSwallow_X3_swallowAt : GoodIn wsX11_ofSwallow (wsV RX11 99 RX3 yX3_swallowAt wsX3_swallowAt) := goodIn_app (goodIn_r _ [7, 8, 9, 10] rfl (by decide +kernel)) ggX11_ofSwallow_X3_swallowAt
set_option maxRecDepth 20000 in
theorem ggX11_ofSwallow_X11_refused : GoodIn wsX11_ofSwallow wsX11_refused := goodIn_r _ [17, 18, 19, 20, 21, 22, 23, 24, 25, 26, 27, 28] rfl (by decide +kernel)
set_option maxRecDepth 20000 in
theorem gX11_ofSwallow_X11_refused : GoodIn wsX11_ofSwallow (wsV RX11 79 RX11 yX11_refused wsX11_refused) := goodIn_app (goodIn_r _ [14, 15, 16, 5] rfl (by decide +kernel)) ggX11_ofSwallow_X11_refused
theorem dX11_ofSwallow_0 : decode cX11_ofSwallow 0 = .ok (.iload_n 1, 1) := by decide +kernel
theorem dX11_ofSwallow_1 : decode cX11_ofSwallow 1 = .ok (.iconst 0, 1) := by decide +kernel
theorem dX11_ofSwallow_2 : decode cX11_ofSwallow 2 = .ok (.iconst 5, 1) := by decide +kernel
theorem dX11_ofSwallow_3 : decode cX11_ofSwallow 3 = .ok (.invokestatic 74, 3) := by decide +kernel
theorem dX11_ofSwallow_6 : decode cX11_ofSwallow 6 = .ok (.ifCond .eq 14, 3) := by decide +kernel
theorem dX11_ofSwallow_9 : decode cX11_ofSwallow 9 = .ok (.aload_n 0, 1) := by decide +kernel
theorem dX11_ofSwallow_10 : decode cX11_ofSwallow 10 = .ok (.getfield 39, 3) := by decide +kernel
theorem dX11_ofSwallow_13 : decode cX11_ofSwallow 13 = .ok (.iload_n 1, 1) := by decide +kernel
theorem dX11_ofSwallow_14 : decode cX11_ofSwallow 14 = .ok (.invokevirtual 99, 3) := by decide +kernel
theorem dX11_ofSwallow_17 : decode cX11_ofSwallow 17 = .ok (.goto 9, 3) := by decide +kernel
theorem dX11_ofSwallow_20 : decode cX11_ofSwallow 20 = .ok (.aload_n 0, 1) := by decide +kernel
theorem dX11_ofSwallow_21 : decode cX11_ofSwallow 21 = .ok (.ldc 78, 2) := by decide +kernel
theorem dX11_ofSwallow_23 : decode cX11_ofSwallow 23 = .ok (.invokevirtual 79, 3) := by decide +kernel
theorem dX11_ofSwallow_26 : decode cX11_ofSwallow 26 = .ok (.ireturn, 1) := by decide +kernel
set_option maxRecDepth 20000 in
theorem ggX11_wash_X11_within : GoodIn wsX11_wash wsX11_within := goodIn_r _ [7] rfl (by decide +kernel)
set_option maxRecDepth 20000 in
theorem gX11_wash_X11_within : GoodIn wsX11_wash (va_wsS RX11 74 yX11_within wsX11_within) := goodIn_app (goodIn_r _ [4, 5, 6] rfl (by decide +kernel)) ggX11_wash_X11_within
set_option maxRecDepth 20000 in
theorem ggX11_wash_X11_mayBeListed : GoodIn wsX11_wash wsX11_mayBeListed := goodIn_r _ [10, 4, 5, 6, 7] rfl (by decide +kernel)
set_option maxRecDepth 20000 in
theorem gX11_wash_X11_mayBeListed : GoodIn wsX11_wash (va_wsS RX11 96 yX11_mayBeListed wsX11_mayBeListed) := goodIn_app (goodIn_r _ [8, 9, 6] rfl (by decide +kernel)) ggX11_wash_X11_mayBeListed
set_option maxRecDepth 20000 in
theorem ggX11_wash_X11_refused : GoodIn wsX11_wash wsX11_refused := goodIn_r _ [14, 15, 16, 17, 18, 19, 20, 21, 22, 23, 24, 25] rfl (by decide +kernel)
set_option maxRecDepth 20000 in
theorem gX11_wash_X11_refused : GoodIn wsX11_wash (wsV RX11 79 RX11 yX11_refused wsX11_refused) := goodIn_app (goodIn_r _ [11, 12, 13, 6] rfl (by decide +kernel)) ggX11_wash_X11_refused
theorem dX11_wash_0 : decode cX11_wash 0 = .ok (.iload_n 1, 1) := by decide +kernel
theorem dX11_wash_1 : decode cX11_wash 1 = .ok (.iconst 0, 1) := by decide +kernel
theorem dX11_wash_2 : decode cX11_wash 2 = .ok (.iconst 3, 1) := by decide +kernel
theorem dX11_wash_3 : decode cX11_wash 3 = .ok (.invokestatic 74, 3) := by decide +kernel
theorem dX11_wash_6 : decode cX11_wash 6 = .ok (.ifCond .eq 10, 3) := by decide +kernel
theorem dX11_wash_9 : decode cX11_wash 9 = .ok (.iload_n 2, 1) := by decide +kernel
theorem dX11_wash_10 : decode cX11_wash 10 = .ok (.invokestatic 96, 3) := by decide +kernel
theorem dX11_wash_13 : decode cX11_wash 13 = .ok (.ifCond .ne 10, 3) := by decide +kernel
theorem dX11_wash_16 : decode cX11_wash 16 = .ok (.aload_n 0, 1) := by decide +kernel
theorem dX11_wash_17 : decode cX11_wash 17 = .ok (.ldc 78, 2) := by decide +kernel
theorem dX11_wash_19 : decode cX11_wash 19 = .ok (.invokevirtual 79, 3) := by decide +kernel
theorem dX11_wash_22 : decode cX11_wash 22 = .ok (.ireturn, 1) := by decide +kernel
theorem dX11_wash_23 : decode cX11_wash 23 = .ok (.aload_n 0, 1) := by decide +kernel
theorem dX11_wash_24 : decode cX11_wash 24 = .ok (.getfield 39, 3) := by decide +kernel
theorem dX11_wash_27 : decode cX11_wash 27 = .ok (.getfield 108, 3) := by decide +kernel
theorem dX11_wash_30 : decode cX11_wash 30 = .ok (.iload_n 1, 1) := by decide +kernel
theorem dX11_wash_31 : decode cX11_wash 31 = .ok (.iaload, 1) := by decide +kernel
theorem dX11_wash_32 : decode cX11_wash 32 = .ok (.iconst 1, 1) := by decide +kernel
theorem dX11_wash_33 : decode cX11_wash 33 = .ok (.iadd, 1) := by decide +kernel
theorem dX11_wash_34 : decode cX11_wash 34 = .ok (.istore_n 3, 1) := by decide +kernel
theorem dX11_wash_35 : decode cX11_wash 35 = .ok (.aload_n 0, 1) := by decide +kernel
theorem dX11_wash_36 : decode cX11_wash 36 = .ok (.getfield 39, 3) := by decide +kernel
theorem dX11_wash_39 : decode cX11_wash 39 = .ok (.getfield 108, 3) := by decide +kernel
theorem dX11_wash_42 : decode cX11_wash 42 = .ok (.iload_n 1, 1) := by decide +kernel
theorem dX11_wash_43 : decode cX11_wash 43 = .ok (.iload_n 2, 1) := by decide +kernel
theorem dX11_wash_44 : decode cX11_wash 44 = .ok (.iastore, 1) := by decide +kernel
theorem dX11_wash_45 : decode cX11_wash 45 = .ok (.iload_n 3, 1) := by decide +kernel
theorem dX11_wash_46 : decode cX11_wash 46 = .ok (.ireturn, 1) := by decide +kernel
set_option maxRecDepth 20000 in
theorem ggX11_ofWash_X11_within : GoodIn wsX11_ofWash wsX11_within := goodIn_r _ [7] rfl (by decide +kernel)
set_option maxRecDepth 20000 in
theorem gX11_ofWash_X11_within : GoodIn wsX11_ofWash (va_wsS RX11 74 yX11_within wsX11_within) := goodIn_app (goodIn_r _ [4, 5, 6] rfl (by decide +kernel)) ggX11_ofWash_X11_within
set_option maxRecDepth 20000 in
theorem ggX11_ofWash_X11_refused : GoodIn wsX11_ofWash wsX11_refused := goodIn_r _ [11, 12, 13, 14, 15, 16, 17, 18, 19, 20, 21, 22] rfl (by decide +kernel)
set_option maxRecDepth 20000 in
theorem gX11_ofWash_X11_refused : GoodIn wsX11_ofWash (wsV RX11 79 RX11 yX11_refused wsX11_refused) := goodIn_app (goodIn_r _ [8, 9, 10, 6] rfl (by decide +kernel)) ggX11_ofWash_X11_refused
theorem dX11_ofWash_0 : decode cX11_ofWash 0 = .ok (.iload_n 1, 1) := by decide +kernel
theorem dX11_ofWash_1 : decode cX11_ofWash 1 = .ok (.iconst 0, 1) := by decide +kernel
theorem dX11_ofWash_2 : decode cX11_ofWash 2 = .ok (.iconst 3, 1) := by decide +kernel
theorem dX11_ofWash_3 : decode cX11_ofWash 3 = .ok (.invokestatic 74, 3) := by decide +kernel
theorem dX11_ofWash_6 : decode cX11_ofWash 6 = .ok (.ifCond .eq 17, 3) := by decide +kernel
theorem dX11_ofWash_9 : decode cX11_ofWash 9 = .ok (.aload_n 0, 1) := by decide +kernel
theorem dX11_ofWash_10 : decode cX11_ofWash 10 = .ok (.getfield 39, 3) := by decide +kernel
theorem dX11_ofWash_13 : decode cX11_ofWash 13 = .ok (.getfield 108, 3) := by decide +kernel
theorem dX11_ofWash_16 : decode cX11_ofWash 16 = .ok (.iload_n 1, 1) := by decide +kernel
theorem dX11_ofWash_17 : decode cX11_ofWash 17 = .ok (.iaload, 1) := by decide +kernel
theorem dX11_ofWash_18 : decode cX11_ofWash 18 = .ok (.iconst 1, 1) := by decide +kernel
theorem dX11_ofWash_19 : decode cX11_ofWash 19 = .ok (.iadd, 1) := by decide +kernel
theorem dX11_ofWash_20 : decode cX11_ofWash 20 = .ok (.goto 9, 3) := by decide +kernel
theorem dX11_ofWash_23 : decode cX11_ofWash 23 = .ok (.aload_n 0, 1) := by decide +kernel
theorem dX11_ofWash_24 : decode cX11_ofWash 24 = .ok (.ldc 78, 2) := by decide +kernel
theorem dX11_ofWash_26 : decode cX11_ofWash 26 = .ok (.invokevirtual 79, 3) := by decide +kernel
theorem dX11_ofWash_29 : decode cX11_ofWash 29 = .ok (.ireturn, 1) := by decide +kernel
set_option maxRecDepth 20000 in
theorem ggX11_spoon_X11_within : GoodIn wsX11_spoon wsX11_within := goodIn_r _ [12] rfl (by decide +kernel)
set_option maxRecDepth 20000 in
theorem gX11_spoon_X11_within : GoodIn wsX11_spoon (va_wsS RX11 74 yX11_within wsX11_within) := goodIn_app (goodIn_r _ [9, 10, 11] rfl (by decide +kernel)) ggX11_spoon_X11_within
set_option maxRecDepth 20000 in
theorem ggX11_spoon_X11_refused : GoodIn wsX11_spoon wsX11_refused := goodIn_r _ [16, 17, 18, 19, 20, 21, 22, 23, 24, 25, 26, 27] rfl (by decide +kernel)
set_option maxRecDepth 20000 in
theorem gX11_spoon_X11_refused : GoodIn wsX11_spoon (wsV RX11 79 RX11 yX11_refused wsX11_refused) := goodIn_app (goodIn_r _ [13, 14, 15, 11] rfl (by decide +kernel)) ggX11_spoon_X11_refused
theorem dX11_spoon_0 : decode cX11_spoon 0 = .ok (.iload_n 1, 1) := by decide +kernel
theorem dX11_spoon_1 : decode cX11_spoon 1 = .ok (.iconst 0, 1) := by decide +kernel
theorem dX11_spoon_2 : decode cX11_spoon 2 = .ok (.bipush 69, 2) := by decide +kernel
theorem dX11_spoon_4 : decode cX11_spoon 4 = .ok (.invokestatic 74, 3) := by decide +kernel
theorem dX11_spoon_7 : decode cX11_spoon 7 = .ok (.ifCond .eq 13, 3) := by decide +kernel
theorem dX11_spoon_10 : decode cX11_spoon 10 = .ok (.iload_n 2, 1) := by decide +kernel
theorem dX11_spoon_11 : decode cX11_spoon 11 = .ok (.iconst 0, 1) := by decide +kernel
theorem dX11_spoon_12 : decode cX11_spoon 12 = .ok (.bipush 99, 2) := by decide +kernel
theorem dX11_spoon_14 : decode cX11_spoon 14 = .ok (.invokestatic 74, 3) := by decide +kernel
theorem dX11_spoon_17 : decode cX11_spoon 17 = .ok (.ifCond .ne 10, 3) := by decide +kernel
theorem dX11_spoon_20 : decode cX11_spoon 20 = .ok (.aload_n 0, 1) := by decide +kernel
theorem dX11_spoon_21 : decode cX11_spoon 21 = .ok (.ldc 78, 2) := by decide +kernel
theorem dX11_spoon_23 : decode cX11_spoon 23 = .ok (.invokevirtual 79, 3) := by decide +kernel
theorem dX11_spoon_26 : decode cX11_spoon 26 = .ok (.ireturn, 1) := by decide +kernel
theorem dX11_spoon_27 : decode cX11_spoon 27 = .ok (.aload_n 0, 1) := by decide +kernel
theorem dX11_spoon_28 : decode cX11_spoon 28 = .ok (.getfield 39, 3) := by decide +kernel
theorem dX11_spoon_31 : decode cX11_spoon 31 = .ok (.getfield 111, 3) := by decide +kernel
theorem dX11_spoon_34 : decode cX11_spoon 34 = .ok (.bipush 8, 2) := by decide +kernel
theorem dX11_spoon_36 : decode cX11_spoon 36 = .ok (.if_icmp .ne 10, 3) := by decide +kernel
theorem dX11_spoon_39 : decode cX11_spoon 39 = .ok (.aload_n 0, 1) := by decide +kernel
theorem dX11_spoon_40 : decode cX11_spoon 40 = .ok (.ldc 114, 2) := by decide +kernel
