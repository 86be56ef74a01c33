theorem dX1_init_0 : decode cX1_init 0 = .ok (.aload_n 0, 1) := by decide +kernel
theorem dX1_init_1 : decode cX1_init 1 = .ok (.invokespecial 3, 3) := by decide +kernel
theorem dX1_init_4 : decode cX1_init 4 = .ok (.aload_n 0, 1) := by decide +kernel
theorem dX1_init_5 : decode cX1_init 5 = .ok (.bipush 25, 2) := by decide +kernel
theorem dX1_init_7 : decode cX1_init 7 = .ok (.newarray .long, 2) := by decide +kernel
theorem dX1_init_9 : decode cX1_init 9 = .ok (.putfield 9, 3) := by decide +kernel
theorem dX1_init_12 : decode cX1_init 12 = .ok (.aload_n 0, 1) := by decide +kernel
theorem dX1_init_13 : decode cX1_init 13 = .ok (.bipush 25, 2) := by decide +kernel
theorem dX1_init_15 : decode cX1_init 15 = .ok (.newarray .long, 2) := by decide +kernel
theorem dX1_init_17 : decode cX1_init 17 = .ok (.putfield 15, 3) := by decide +kernel
theorem dX1_init_20 : decode cX1_init 20 = .ok (.return_, 1) := by decide +kernel
set_option maxRecDepth 20000 in
theorem ggX1_startAnew_J7_fill_d0a16 : GoodIn wsX1_startAnew wsJ7_fill_d0a16 := goodIn_r _ [5] (by decide +kernel) (by decide +kernel)
set_option maxRecDepth 20000 in
theorem gX1_startAnew_J7_fill_d0a16 : GoodIn wsX1_startAnew (va_wsS RX1 18 yJ7_fill_d0a16 wsJ7_fill_d0a16) := goodIn_app (goodIn_of _ (by decide +kernel)) ggX1_startAnew_J7_fill_d0a16
theorem dX1_startAnew_0 : decode cX1_startAnew 0 = .ok (.aload_n 0, 1) := by decide +kernel
theorem dX1_startAnew_1 : decode cX1_startAnew 1 = .ok (.getfield 9, 3) := by decide +kernel
theorem dX1_startAnew_4 : decode cX1_startAnew 4 = .ok (.lconst 0, 1) := by decide +kernel
theorem dX1_startAnew_5 : decode cX1_startAnew 5 = .ok (.invokestatic 18, 3) := by decide +kernel
theorem dX1_startAnew_8 : decode cX1_startAnew 8 = .ok (.return_, 1) := by decide +kernel
theorem dX1_remember_0 : decode cX1_remember 0 = .ok (.aload_n 0, 1) := by decide +kernel
theorem dX1_remember_1 : decode cX1_remember 1 = .ok (.getfield 9, 3) := by decide +kernel
theorem dX1_remember_4 : decode cX1_remember 4 = .ok (.iconst 0, 1) := by decide +kernel
theorem dX1_remember_5 : decode cX1_remember 5 = .ok (.aload_n 0, 1) := by decide +kernel
theorem dX1_remember_6 : decode cX1_remember 6 = .ok (.getfield 15, 3) := by decide +kernel
theorem dX1_remember_9 : decode cX1_remember 9 = .ok (.iconst 0, 1) := by decide +kernel
theorem dX1_remember_10 : decode cX1_remember 10 = .ok (.bipush 25, 2) := by decide +kernel
theorem dX1_remember_12 : decode cX1_remember 12 = .ok (.invokestatic 24, 3) := by decide +kernel
theorem dX1_remember_15 : decode cX1_remember 15 = .ok (.return_, 1) := by decide +kernel
theorem dX1_countChanged_0 : decode cX1_countChanged 0 = .ok (.iconst 0, 1) := by decide +kernel
theorem dX1_countChanged_1 : decode cX1_countChanged 1 = .ok (.istore_n 1, 1) := by decide +kernel
theorem dX1_countChanged_2 : decode cX1_countChanged 2 = .ok (.iconst 0, 1) := by decide +kernel
theorem dX1_countChanged_3 : decode cX1_countChanged 3 = .ok (.istore_n 2, 1) := by decide +kernel
theorem dX1_countChanged_4 : decode cX1_countChanged 4 = .ok (.iload_n 2, 1) := by decide +kernel
theorem dX1_countChanged_5 : decode cX1_countChanged 5 = .ok (.bipush 25, 2) := by decide +kernel
theorem dX1_countChanged_7 : decode cX1_countChanged 7 = .ok (.if_icmp .ge 28, 3) := by decide +kernel
theorem dX1_countChanged_10 : decode cX1_countChanged 10 = .ok (.aload_n 0, 1) := by decide +kernel
theorem dX1_countChanged_11 : decode cX1_countChanged 11 = .ok (.getfield 9, 3) := by decide +kernel
theorem dX1_countChanged_14 : decode cX1_countChanged 14 = .ok (.iload_n 2, 1) := by decide +kernel
theorem dX1_countChanged_15 : decode cX1_countChanged 15 = .ok (.laload, 1) := by decide +kernel
theorem dX1_countChanged_16 : decode cX1_countChanged 16 = .ok (.aload_n 0, 1) := by decide +kernel
theorem dX1_countChanged_17 : decode cX1_countChanged 17 = .ok (.getfield 15, 3) := by decide +kernel
theorem dX1_countChanged_20 : decode cX1_countChanged 20 = .ok (.iload_n 2, 1) := by decide +kernel
theorem dX1_countChanged_21 : decode cX1_countChanged 21 = .ok (.laload, 1) := by decide +kernel
theorem dX1_countChanged_22 : decode cX1_countChanged 22 = .ok (.lcmp, 1) := by decide +kernel
theorem dX1_countChanged_23 : decode cX1_countChanged 23 = .ok (.ifCond .eq 6, 3) := by decide +kernel
theorem dX1_countChanged_26 : decode cX1_countChanged 26 = .ok (.iinc 1 1, 3) := by decide +kernel
theorem dX1_countChanged_29 : decode cX1_countChanged 29 = .ok (.iinc 2 1, 3) := by decide +kernel
theorem dX1_countChanged_32 : decode cX1_countChanged 32 = .ok (.goto (-28), 3) := by decide +kernel
theorem dX1_countChanged_35 : decode cX1_countChanged 35 = .ok (.iload_n 1, 1) := by decide +kernel
theorem dX1_countChanged_36 : decode cX1_countChanged 36 = .ok (.ireturn, 1) := by decide +kernel
set_option maxRecDepth 20000 in
theorem ggX1_takeGravity_X2_sumOfOutTotals : GoodIn wsX1_takeGravity wsX2_sumOfOutTotals := goodIn_r _ [8, 9, 23, 24, 25, 26] (by decide +kernel) (by decide +kernel)
set_option maxRecDepth 20000 in
theorem gX1_takeGravity_X2_sumOfOutTotals : GoodIn wsX1_takeGravity (wsV RX1 30 RX2 yX2_sumOfOutTotals wsX2_sumOfOutTotals) := goodIn_app (goodIn_of _ (by decide +kernel)) ggX1_takeGravity_X2_sumOfOutTotals
set_option maxRecDepth 20000 in
theorem ggX1_takeGravity_X3_hasRoute : GoodIn wsX1_takeGravity wsX3_hasRoute := goodIn_r _ [14, 15, 27, 28, 29, 30, 31, 32, 33, 34] (by decide +kernel) (by decide +kernel)
set_option maxRecDepth 20000 in
theorem gX1_takeGravity_X3_hasRoute : GoodIn wsX1_takeGravity (wsV RX1 36 RX3 yX3_hasRoute wsX3_hasRoute) := goodIn_app (goodIn_of _ (by decide +kernel)) ggX1_takeGravity_X3_hasRoute
set_option maxRecDepth 20000 in
theorem ggX1_takeGravity_X1_scaled : GoodIn wsX1_takeGravity wsX1_scaled := goodIn_r _ [19, 20] (by decide +kernel) (by decide +kernel)
set_option maxRecDepth 20000 in
theorem gX1_takeGravity_X1_scaled : GoodIn wsX1_takeGravity (va_wsS RX1 49 yX1_scaled wsX1_scaled) := goodIn_app (goodIn_of _ (by decide +kernel)) ggX1_takeGravity_X1_scaled
theorem dX1_takeGravity_0 : decode cX1_takeGravity 0 = .ok (.aload_n 2, 1) := by decide +kernel
theorem dX1_takeGravity_1 : decode cX1_takeGravity 1 = .ok (.invokevirtual 30, 3) := by decide +kernel
theorem dX1_takeGravity_4 : decode cX1_takeGravity 4 = .ok (.i2l, 1) := by decide +kernel
theorem dX1_takeGravity_5 : decode cX1_takeGravity 5 = .ok (.lstore_n 3, 1) := by decide +kernel
theorem dX1_takeGravity_6 : decode cX1_takeGravity 6 = .ok (.iconst 0, 1) := by decide +kernel
theorem dX1_takeGravity_7 : decode cX1_takeGravity 7 = .ok (.istore 5, 2) := by decide +kernel
theorem dX1_takeGravity_9 : decode cX1_takeGravity 9 = .ok (.iconst 0, 1) := by decide +kernel
theorem dX1_takeGravity_10 : decode cX1_takeGravity 10 = .ok (.istore 6, 2) := by decide +kernel
theorem dX1_takeGravity_12 : decode cX1_takeGravity 12 = .ok (.iload 6, 2) := by decide +kernel
theorem dX1_takeGravity_14 : decode cX1_takeGravity 14 = .ok (.bipush 25, 2) := by decide +kernel
theorem dX1_takeGravity_16 : decode cX1_takeGravity 16 = .ok (.if_icmp .ge 76, 3) := by decide +kernel
theorem dX1_takeGravity_19 : decode cX1_takeGravity 19 = .ok (.aload_n 0, 1) := by decide +kernel
theorem dX1_takeGravity_20 : decode cX1_takeGravity 20 = .ok (.getfield 9, 3) := by decide +kernel
theorem dX1_takeGravity_23 : decode cX1_takeGravity 23 = .ok (.iload 6, 2) := by decide +kernel
theorem dX1_takeGravity_25 : decode cX1_takeGravity 25 = .ok (.lconst 0, 1) := by decide +kernel
theorem dX1_takeGravity_26 : decode cX1_takeGravity 26 = .ok (.lastore, 1) := by decide +kernel
theorem dX1_takeGravity_27 : decode cX1_takeGravity 27 = .ok (.aload_n 1, 1) := by decide +kernel
theorem dX1_takeGravity_28 : decode cX1_takeGravity 28 = .ok (.iload 6, 2) := by decide +kernel
theorem dX1_takeGravity_30 : decode cX1_takeGravity 30 = .ok (.invokevirtual 36, 3) := by decide +kernel
theorem dX1_takeGravity_33 : decode cX1_takeGravity 33 = .ok (.ifCond .eq 38, 3) := by decide +kernel
theorem dX1_takeGravity_36 : decode cX1_takeGravity 36 = .ok (.aload_n 2, 1) := by decide +kernel
theorem dX1_takeGravity_37 : decode cX1_takeGravity 37 = .ok (.getfield 42, 3) := by decide +kernel
theorem dX1_takeGravity_40 : decode cX1_takeGravity 40 = .ok (.iload 6, 2) := by decide +kernel
theorem dX1_takeGravity_42 : decode cX1_takeGravity 42 = .ok (.iconst 5, 1) := by decide +kernel
theorem dX1_takeGravity_43 : decode cX1_takeGravity 43 = .ok (.idiv, 1) := by decide +kernel
theorem dX1_takeGravity_44 : decode cX1_takeGravity 44 = .ok (.iaload, 1) := by decide +kernel
theorem dX1_takeGravity_45 : decode cX1_takeGravity 45 = .ok (.i2l, 1) := by decide +kernel
theorem dX1_takeGravity_46 : decode cX1_takeGravity 46 = .ok (.lstore 7, 2) := by decide +kernel
theorem dX1_takeGravity_48 : decode cX1_takeGravity 48 = .ok (.aload_n 0, 1) := by decide +kernel
theorem dX1_takeGravity_49 : decode cX1_takeGravity 49 = .ok (.getfield 9, 3) := by decide +kernel
theorem dX1_takeGravity_52 : decode cX1_takeGravity 52 = .ok (.iload 6, 2) := by decide +kernel
theorem dX1_takeGravity_54 : decode cX1_takeGravity 54 = .ok (.lload 7, 2) := by decide +kernel
theorem dX1_takeGravity_56 : decode cX1_takeGravity 56 = .ok (.aload_n 2, 1) := by decide +kernel
theorem dX1_takeGravity_57 : decode cX1_takeGravity 57 = .ok (.getfield 46, 3) := by decide +kernel
theorem dX1_takeGravity_60 : decode cX1_takeGravity 60 = .ok (.iload 6, 2) := by decide +kernel
theorem dX1_takeGravity_62 : decode cX1_takeGravity 62 = .ok (.iconst 5, 1) := by decide +kernel
theorem dX1_takeGravity_63 : decode cX1_takeGravity 63 = .ok (.irem, 1) := by decide +kernel
theorem dX1_takeGravity_64 : decode cX1_takeGravity 64 = .ok (.iaload, 1) := by decide +kernel
theorem dX1_takeGravity_65 : decode cX1_takeGravity 65 = .ok (.i2l, 1) := by decide +kernel
theorem dX1_takeGravity_66 : decode cX1_takeGravity 66 = .ok (.lload_n 3, 1) := by decide +kernel
theorem dX1_takeGravity_67 : decode cX1_takeGravity 67 = .ok (.invokestatic 49, 3) := by decide +kernel
theorem dX1_takeGravity_70 : decode cX1_takeGravity 70 = .ok (.lastore, 1) := by decide +kernel
theorem dX1_takeGravity_71 : decode cX1_takeGravity 71 = .ok (.aload_n 0, 1) := by decide +kernel
theorem dX1_takeGravity_72 : decode cX1_takeGravity 72 = .ok (.getfield 9, 3) := by decide +kernel
theorem dX1_takeGravity_75 : decode cX1_takeGravity 75 = .ok (.iload 6, 2) := by decide +kernel
theorem dX1_takeGravity_77 : decode cX1_takeGravity 77 = .ok (.laload, 1) := by decide +kernel
theorem dX1_takeGravity_78 : decode cX1_takeGravity 78 = .ok (.lconst 0, 1) := by decide +kernel
theorem dX1_takeGravity_79 : decode cX1_takeGravity 79 = .ok (.lcmp, 1) := by decide +kernel
theorem dX1_takeGravity_80 : decode cX1_takeGravity 80 = .ok (.ifCond .le 6, 3) := by decide +kernel
theorem dX1_takeGravity_83 : decode cX1_takeGravity 83 = .ok (.iinc 5 1, 3) := by decide +kernel
theorem dX1_takeGravity_86 : decode cX1_takeGravity 86 = .ok (.iinc 6 1, 3) := by decide +kernel
theorem dX1_takeGravity_89 : decode cX1_takeGravity 89 = .ok (.goto (-77), 3) := by decide +kernel
theorem dX1_takeGravity_92 : decode cX1_takeGravity 92 = .ok (.iload 5, 2) := by decide +kernel
theorem dX1_takeGravity_94 : decode cX1_takeGravity 94 = .ok (.ireturn, 1) := by decide +kernel
set_option maxRecDepth 20000 in
theorem ggX1_fitOnceToTotals_X4_slotOf : GoodIn wsX1_fitOnceToTotals wsX4_slotOf := goodIn_r _ [5] (by decide +kernel) (by decide +kernel)
set_option maxRecDepth 20000 in
theorem gX1_fitOnceToTotals_X4_slotOf_n53 : GoodIn wsX1_fitOnceToTotals (wsX4_slotOf) := ggX1_fitOnceToTotals_X4_slotOf
set_option maxRecDepth 20000 in
theorem ggX1_fitOnceToTotals_X1_fitLine : GoodIn wsX1_fitOnceToTotals wsX1_fitLine := goodIn_r _ [10, 11, 12, 13, 9, 14, 15, 20, 21] (by decide +kernel) (by decide +kernel)
set_option maxRecDepth 20000 in
theorem gX1_fitOnceToTotals_X1_fitLine : GoodIn wsX1_fitOnceToTotals (wsV RX1 57 RX1 yX1_fitLine wsX1_fitLine) := goodIn_app (goodIn_of _ (by decide +kernel)) ggX1_fitOnceToTotals_X1_fitLine
theorem dX1_fitOnceToTotals_0 : decode cX1_fitOnceToTotals 0 = .ok (.iconst 0, 1) := by decide +kernel
theorem dX1_fitOnceToTotals_1 : decode cX1_fitOnceToTotals 1 = .ok (.istore_n 2, 1) := by decide +kernel
theorem dX1_fitOnceToTotals_2 : decode cX1_fitOnceToTotals 2 = .ok (.iload_n 2, 1) := by decide +kernel
theorem dX1_fitOnceToTotals_3 : decode cX1_fitOnceToTotals 3 = .ok (.iconst 5, 1) := by decide +kernel
theorem dX1_fitOnceToTotals_4 : decode cX1_fitOnceToTotals 4 = .ok (.if_icmp .ge 25, 3) := by decide +kernel
theorem dX1_fitOnceToTotals_7 : decode cX1_fitOnceToTotals 7 = .ok (.aload_n 0, 1) := by decide +kernel
theorem dX1_fitOnceToTotals_8 : decode cX1_fitOnceToTotals 8 = .ok (.iload_n 2, 1) := by decide +kernel
theorem dX1_fitOnceToTotals_9 : decode cX1_fitOnceToTotals 9 = .ok (.iconst 0, 1) := by decide +kernel
theorem dX1_fitOnceToTotals_10 : decode cX1_fitOnceToTotals 10 = .ok (.invokestatic 53, 3) := by decide +kernel
theorem dX1_fitOnceToTotals_13 : decode cX1_fitOnceToTotals 13 = .ok (.iconst 1, 1) := by decide +kernel
theorem dX1_fitOnceToTotals_14 : decode cX1_fitOnceToTotals 14 = .ok (.aload_n 1, 1) := by decide +kernel
theorem dX1_fitOnceToTotals_15 : decode cX1_fitOnceToTotals 15 = .ok (.getfield 42, 3) := by decide +kernel
theorem dX1_fitOnceToTotals_18 : decode cX1_fitOnceToTotals 18 = .ok (.iload_n 2, 1) := by decide +kernel
theorem dX1_fitOnceToTotals_19 : decode cX1_fitOnceToTotals 19 = .ok (.iaload, 1) := by decide +kernel
theorem dX1_fitOnceToTotals_20 : decode cX1_fitOnceToTotals 20 = .ok (.invokevirtual 57, 3) := by decide +kernel
theorem dX1_fitOnceToTotals_23 : decode cX1_fitOnceToTotals 23 = .ok (.iinc 2 1, 3) := by decide +kernel
theorem dX1_fitOnceToTotals_26 : decode cX1_fitOnceToTotals 26 = .ok (.goto (-24), 3) := by decide +kernel
theorem dX1_fitOnceToTotals_29 : decode cX1_fitOnceToTotals 29 = .ok (.iconst 0, 1) := by decide +kernel
theorem dX1_fitOnceToTotals_30 : decode cX1_fitOnceToTotals 30 = .ok (.istore_n 2, 1) := by decide +kernel
theorem dX1_fitOnceToTotals_31 : decode cX1_fitOnceToTotals 31 = .ok (.iload_n 2, 1) := by decide +kernel
theorem dX1_fitOnceToTotals_32 : decode cX1_fitOnceToTotals 32 = .ok (.iconst 5, 1) := by decide +kernel
theorem dX1_fitOnceToTotals_33 : decode cX1_fitOnceToTotals 33 = .ok (.if_icmp .ge 25, 3) := by decide +kernel
theorem dX1_fitOnceToTotals_36 : decode cX1_fitOnceToTotals 36 = .ok (.aload_n 0, 1) := by decide +kernel
theorem dX1_fitOnceToTotals_37 : decode cX1_fitOnceToTotals 37 = .ok (.iconst 0, 1) := by decide +kernel
theorem dX1_fitOnceToTotals_38 : decode cX1_fitOnceToTotals 38 = .ok (.iload_n 2, 1) := by decide +kernel
theorem dX1_fitOnceToTotals_39 : decode cX1_fitOnceToTotals 39 = .ok (.invokestatic 53, 3) := by decide +kernel
theorem dX1_fitOnceToTotals_42 : decode cX1_fitOnceToTotals 42 = .ok (.iconst 5, 1) := by decide +kernel
theorem dX1_fitOnceToTotals_43 : decode cX1_fitOnceToTotals 43 = .ok (.aload_n 1, 1) := by decide +kernel
theorem dX1_fitOnceToTotals_44 : decode cX1_fitOnceToTotals 44 = .ok (.getfield 46, 3) := by decide +kernel
theorem dX1_fitOnceToTotals_47 : decode cX1_fitOnceToTotals 47 = .ok (.iload_n 2, 1) := by decide +kernel
theorem dX1_fitOnceToTotals_48 : decode cX1_fitOnceToTotals 48 = .ok (.iaload, 1) := by decide +kernel
theorem dX1_fitOnceToTotals_49 : decode cX1_fitOnceToTotals 49 = .ok (.invokevirtual 57, 3) := by decide +kernel
theorem dX1_fitOnceToTotals_52 : decode cX1_fitOnceToTotals 52 = .ok (.iinc 2 1, 3) := by decide +kernel
theorem dX1_fitOnceToTotals_55 : decode cX1_fitOnceToTotals 55 = .ok (.goto (-24), 3) := by decide +kernel
theorem dX1_fitOnceToTotals_58 : decode cX1_fitOnceToTotals 58 = .ok (.return_, 1) := by decide +kernel
set_option maxRecDepth 20000 in
theorem ggX1_fitLine_X1_scaled : GoodIn wsX1_fitLine wsX1_scaled := goodIn_r _ [5, 6] (by decide +kernel) (by decide +kernel)
set_option maxRecDepth 20000 in
theorem gX1_fitLine_X1_scaled : GoodIn wsX1_fitLine (va_wsS RX1 49 yX1_scaled wsX1_scaled) := goodIn_app (goodIn_of _ (by decide +kernel)) ggX1_fitLine_X1_scaled
theorem dX1_fitLine_0 : decode cX1_fitLine 0 = .ok (.lconst 0, 1) := by decide +kernel
theorem dX1_fitLine_1 : decode cX1_fitLine 1 = .ok (.lstore 4, 2) := by decide +kernel
theorem dX1_fitLine_3 : decode cX1_fitLine 3 = .ok (.iconst 0, 1) := by decide +kernel
theorem dX1_fitLine_4 : decode cX1_fitLine 4 = .ok (.istore 6, 2) := by decide +kernel
theorem dX1_fitLine_6 : decode cX1_fitLine 6 = .ok (.iload 6, 2) := by decide +kernel
theorem dX1_fitLine_8 : decode cX1_fitLine 8 = .ok (.iconst 5, 1) := by decide +kernel
theorem dX1_fitLine_9 : decode cX1_fitLine 9 = .ok (.if_icmp .ge 25, 3) := by decide +kernel
theorem dX1_fitLine_12 : decode cX1_fitLine 12 = .ok (.lload 4, 2) := by decide +kernel
theorem dX1_fitLine_14 : decode cX1_fitLine 14 = .ok (.aload_n 0, 1) := by decide +kernel
theorem dX1_fitLine_15 : decode cX1_fitLine 15 = .ok (.getfield 9, 3) := by decide +kernel
theorem dX1_fitLine_18 : decode cX1_fitLine 18 = .ok (.iload_n 1, 1) := by decide +kernel
theorem dX1_fitLine_19 : decode cX1_fitLine 19 = .ok (.iload 6, 2) := by decide +kernel
theorem dX1_fitLine_21 : decode cX1_fitLine 21 = .ok (.iload_n 2, 1) := by decide +kernel
theorem dX1_fitLine_22 : decode cX1_fitLine 22 = .ok (.imul, 1) := by decide +kernel
theorem dX1_fitLine_23 : decode cX1_fitLine 23 = .ok (.iadd, 1) := by decide +kernel
theorem dX1_fitLine_24 : decode cX1_fitLine 24 = .ok (.laload, 1) := by decide +kernel
theorem dX1_fitLine_25 : decode cX1_fitLine 25 = .ok (.ladd, 1) := by decide +kernel
theorem dX1_fitLine_26 : decode cX1_fitLine 26 = .ok (.lstore 4, 2) := by decide +kernel
theorem dX1_fitLine_28 : decode cX1_fitLine 28 = .ok (.iinc 6 1, 3) := by decide +kernel
theorem dX1_fitLine_31 : decode cX1_fitLine 31 = .ok (.goto (-25), 3) := by decide +kernel
theorem dX1_fitLine_34 : decode cX1_fitLine 34 = .ok (.lload 4, 2) := by decide +kernel
theorem dX1_fitLine_36 : decode cX1_fitLine 36 = .ok (.lconst 0, 1) := by decide +kernel
theorem dX1_fitLine_37 : decode cX1_fitLine 37 = .ok (.lcmp, 1) := by decide +kernel
theorem dX1_fitLine_38 : decode cX1_fitLine 38 = .ok (.ifCond .le 47, 3) := by decide +kernel
theorem dX1_fitLine_41 : decode cX1_fitLine 41 = .ok (.iconst 0, 1) := by decide +kernel
theorem dX1_fitLine_42 : decode cX1_fitLine 42 = .ok (.istore 6, 2) := by decide +kernel
theorem dX1_fitLine_44 : decode cX1_fitLine 44 = .ok (.iload 6, 2) := by decide +kernel
theorem dX1_fitLine_46 : decode cX1_fitLine 46 = .ok (.iconst 5, 1) := by decide +kernel
theorem dX1_fitLine_47 : decode cX1_fitLine 47 = .ok (.if_icmp .ge 38, 3) := by decide +kernel
theorem dX1_fitLine_50 : decode cX1_fitLine 50 = .ok (.iload_n 1, 1) := by decide +kernel
theorem dX1_fitLine_51 : decode cX1_fitLine 51 = .ok (.iload 6, 2) := by decide +kernel
theorem dX1_fitLine_53 : decode cX1_fitLine 53 = .ok (.iload_n 2, 1) := by decide +kernel
theorem dX1_fitLine_54 : decode cX1_fitLine 54 = .ok (.imul, 1) := by decide +kernel
theorem dX1_fitLine_55 : decode cX1_fitLine 55 = .ok (.iadd, 1) := by decide +kernel
theorem dX1_fitLine_56 : decode cX1_fitLine 56 = .ok (.istore 7, 2) := by decide +kernel
theorem dX1_fitLine_58 : decode cX1_fitLine 58 = .ok (.aload_n 0, 1) := by decide +kernel
theorem dX1_fitLine_59 : decode cX1_fitLine 59 = .ok (.getfield 9, 3) := by decide +kernel
theorem dX1_fitLine_62 : decode cX1_fitLine 62 = .ok (.iload 7, 2) := by decide +kernel
theorem dX1_fitLine_64 : decode cX1_fitLine 64 = .ok (.aload_n 0, 1) := by decide +kernel
theorem dX1_fitLine_65 : decode cX1_fitLine 65 = .ok (.getfield 9, 3) := by decide +kernel
theorem dX1_fitLine_68 : decode cX1_fitLine 68 = .ok (.iload 7, 2) := by decide +kernel
theorem dX1_fitLine_70 : decode cX1_fitLine 70 = .ok (.laload, 1) := by decide +kernel
theorem dX1_fitLine_71 : decode cX1_fitLine 71 = .ok (.iload_n 3, 1) := by decide +kernel
theorem dX1_fitLine_72 : decode cX1_fitLine 72 = .ok (.i2l, 1) := by decide +kernel
theorem dX1_fitLine_73 : decode cX1_fitLine 73 = .ok (.lload 4, 2) := by decide +kernel
theorem dX1_fitLine_75 : decode cX1_fitLine 75 = .ok (.invokestatic 49, 3) := by decide +kernel
theorem dX1_fitLine_78 : decode cX1_fitLine 78 = .ok (.lastore, 1) := by decide +kernel
theorem dX1_fitLine_79 : decode cX1_fitLine 79 = .ok (.iinc 6 1, 3) := by decide +kernel
theorem dX1_fitLine_82 : decode cX1_fitLine 82 = .ok (.goto (-38), 3) := by decide +kernel
theorem dX1_fitLine_85 : decode cX1_fitLine 85 = .ok (.return_, 1) := by decide +kernel
set_option maxRecDepth 20000 in
theorem ggX1_fitOnceToLinks_X1_fitLink : GoodIn wsX1_fitOnceToLinks wsX1_fitLink := goodIn_r _ [7, 8, 9, 10, 11, 6, 12, 13, 14, 15, 16, 17, 18, 19, 20, 21, 22, 23, 36, 37, 24, 25, 26, 27, 28, 29, 30, 31] (by decide +kernel) (by decide +kernel)
set_option maxRecDepth 20000 in
theorem gX1_fitOnceToLinks_X1_fitLink : GoodIn wsX1_fitOnceToLinks (wsV RX1 68 RX1 yX1_fitLink wsX1_fitLink) := goodIn_app (goodIn_of _ (by decide +kernel)) ggX1_fitOnceToLinks_X1_fitLink
theorem dX1_fitOnceToLinks_0 : decode cX1_fitOnceToLinks 0 = .ok (.iconst 0, 1) := by decide +kernel
theorem dX1_fitOnceToLinks_1 : decode cX1_fitOnceToLinks 1 = .ok (.istore_n 3, 1) := by decide +kernel
theorem dX1_fitOnceToLinks_2 : decode cX1_fitOnceToLinks 2 = .ok (.iload_n 3, 1) := by decide +kernel
theorem dX1_fitOnceToLinks_3 : decode cX1_fitOnceToLinks 3 = .ok (.aload_n 1, 1) := by decide +kernel
theorem dX1_fitOnceToLinks_4 : decode cX1_fitOnceToLinks 4 = .ok (.getfield 61, 3) := by decide +kernel
theorem dX1_fitOnceToLinks_7 : decode cX1_fitOnceToLinks 7 = .ok (.if_icmp .ge 21, 3) := by decide +kernel
theorem dX1_fitOnceToLinks_10 : decode cX1_fitOnceToLinks 10 = .ok (.aload_n 0, 1) := by decide +kernel
theorem dX1_fitOnceToLinks_11 : decode cX1_fitOnceToLinks 11 = .ok (.aload_n 1, 1) := by decide +kernel
theorem dX1_fitOnceToLinks_12 : decode cX1_fitOnceToLinks 12 = .ok (.iload_n 3, 1) := by decide +kernel
theorem dX1_fitOnceToLinks_13 : decode cX1_fitOnceToLinks 13 = .ok (.aload_n 2, 1) := by decide +kernel
theorem dX1_fitOnceToLinks_14 : decode cX1_fitOnceToLinks 14 = .ok (.getfield 65, 3) := by decide +kernel
theorem dX1_fitOnceToLinks_17 : decode cX1_fitOnceToLinks 17 = .ok (.iload_n 3, 1) := by decide +kernel
theorem dX1_fitOnceToLinks_18 : decode cX1_fitOnceToLinks 18 = .ok (.iaload, 1) := by decide +kernel
theorem dX1_fitOnceToLinks_19 : decode cX1_fitOnceToLinks 19 = .ok (.invokevirtual 68, 3) := by decide +kernel
theorem dX1_fitOnceToLinks_22 : decode cX1_fitOnceToLinks 22 = .ok (.iinc 3 1, 3) := by decide +kernel
theorem dX1_fitOnceToLinks_25 : decode cX1_fitOnceToLinks 25 = .ok (.goto (-23), 3) := by decide +kernel
theorem dX1_fitOnceToLinks_28 : decode cX1_fitOnceToLinks 28 = .ok (.return_, 1) := by decide +kernel
set_option maxRecDepth 20000 in
theorem ggX1_fitLink_X1_sumOnLink : GoodIn wsX1_fitLink wsX1_sumOnLink := goodIn_r _ [6, 1, 7, 8, 9, 10, 11, 12, 13, 18, 19, 20, 21, 22, 23, 24, 25, 26, 27] (by decide +kernel) (by decide +kernel)
set_option maxRecDepth 20000 in
theorem gX1_fitLink_X1_sumOnLink : GoodIn wsX1_fitLink (wsV RX1 72 RX1 yX1_sumOnLink wsX1_sumOnLink) := goodIn_app (goodIn_of _ (by decide +kernel)) ggX1_fitLink_X1_sumOnLink
set_option maxRecDepth 20000 in
theorem ggX1_fitLink_X3_routeUses : GoodIn wsX1_fitLink wsX3_routeUses := goodIn_r _ [11, 12, 13, 20, 21, 22, 23, 24, 25, 26, 27] (by decide +kernel) (by decide +kernel)
set_option maxRecDepth 20000 in
theorem gX1_fitLink_X3_routeUses : GoodIn wsX1_fitLink (wsV RX1 76 RX3 yX3_routeUses wsX3_routeUses) := goodIn_app (goodIn_of _ (by decide +kernel)) ggX1_fitLink_X3_routeUses
set_option maxRecDepth 20000 in
theorem ggX1_fitLink_X1_scaled : GoodIn wsX1_fitLink wsX1_scaled := goodIn_r _ [16, 17] (by decide +kernel) (by decide +kernel)
set_option maxRecDepth 20000 in
theorem gX1_fitLink_X1_scaled : GoodIn wsX1_fitLink (va_wsS RX1 49 yX1_scaled wsX1_scaled) := goodIn_app (goodIn_of _ (by decide +kernel)) ggX1_fitLink_X1_scaled
theorem dX1_fitLink_0 : decode cX1_fitLink 0 = .ok (.aload_n 0, 1) := by decide +kernel
theorem dX1_fitLink_1 : decode cX1_fitLink 1 = .ok (.aload_n 1, 1) := by decide +kernel
theorem dX1_fitLink_2 : decode cX1_fitLink 2 = .ok (.iload_n 2, 1) := by decide +kernel
theorem dX1_fitLink_3 : decode cX1_fitLink 3 = .ok (.invokevirtual 72, 3) := by decide +kernel
theorem dX1_fitLink_6 : decode cX1_fitLink 6 = .ok (.lstore 4, 2) := by decide +kernel
theorem dX1_fitLink_8 : decode cX1_fitLink 8 = .ok (.lload 4, 2) := by decide +kernel
theorem dX1_fitLink_10 : decode cX1_fitLink 10 = .ok (.lconst 0, 1) := by decide +kernel
theorem dX1_fitLink_11 : decode cX1_fitLink 11 = .ok (.lcmp, 1) := by decide +kernel
theorem dX1_fitLink_12 : decode cX1_fitLink 12 = .ok (.ifCond .le 50, 3) := by decide +kernel
theorem dX1_fitLink_15 : decode cX1_fitLink 15 = .ok (.iconst 0, 1) := by decide +kernel
theorem dX1_fitLink_16 : decode cX1_fitLink 16 = .ok (.istore 6, 2) := by decide +kernel
theorem dX1_fitLink_18 : decode cX1_fitLink 18 = .ok (.iload 6, 2) := by decide +kernel
theorem dX1_fitLink_20 : decode cX1_fitLink 20 = .ok (.bipush 25, 2) := by decide +kernel
theorem dX1_fitLink_22 : decode cX1_fitLink 22 = .ok (.if_icmp .ge 40, 3) := by decide +kernel
theorem dX1_fitLink_25 : decode cX1_fitLink 25 = .ok (.aload_n 1, 1) := by decide +kernel
theorem dX1_fitLink_26 : decode cX1_fitLink 26 = .ok (.iload 6, 2) := by decide +kernel
theorem dX1_fitLink_28 : decode cX1_fitLink 28 = .ok (.iload_n 2, 1) := by decide +kernel
theorem dX1_fitLink_29 : decode cX1_fitLink 29 = .ok (.invokevirtual 76, 3) := by decide +kernel
theorem dX1_fitLink_32 : decode cX1_fitLink 32 = .ok (.ifCond .eq 24, 3) := by decide +kernel
theorem dX1_fitLink_35 : decode cX1_fitLink 35 = .ok (.aload_n 0, 1) := by decide +kernel
theorem dX1_fitLink_36 : decode cX1_fitLink 36 = .ok (.getfield 9, 3) := by decide +kernel
theorem dX1_fitLink_39 : decode cX1_fitLink 39 = .ok (.iload 6, 2) := by decide +kernel
theorem dX1_fitLink_41 : decode cX1_fitLink 41 = .ok (.aload_n 0, 1) := by decide +kernel
theorem dX1_fitLink_42 : decode cX1_fitLink 42 = .ok (.getfield 9, 3) := by decide +kernel
theorem dX1_fitLink_45 : decode cX1_fitLink 45 = .ok (.iload 6, 2) := by decide +kernel
theorem dX1_fitLink_47 : decode cX1_fitLink 47 = .ok (.laload, 1) := by decide +kernel
theorem dX1_fitLink_48 : decode cX1_fitLink 48 = .ok (.iload_n 3, 1) := by decide +kernel
theorem dX1_fitLink_49 : decode cX1_fitLink 49 = .ok (.i2l, 1) := by decide +kernel
theorem dX1_fitLink_50 : decode cX1_fitLink 50 = .ok (.lload 4, 2) := by decide +kernel
theorem dX1_fitLink_52 : decode cX1_fitLink 52 = .ok (.invokestatic 49, 3) := by decide +kernel
theorem dX1_fitLink_55 : decode cX1_fitLink 55 = .ok (.lastore, 1) := by decide +kernel
theorem dX1_fitLink_56 : decode cX1_fitLink 56 = .ok (.iinc 6 1, 3) := by decide +kernel
theorem dX1_fitLink_59 : decode cX1_fitLink 59 = .ok (.goto (-41), 3) := by decide +kernel
theorem dX1_fitLink_62 : decode cX1_fitLink 62 = .ok (.return_, 1) := by decide +kernel
set_option maxRecDepth 20000 in
theorem ggX1_sumOnLink_X3_routeUses : GoodIn wsX1_sumOnLink wsX3_routeUses := goodIn_r _ [6, 7, 8, 11, 12, 13, 14, 15, 16, 17, 18] (by decide +kernel) (by decide +kernel)
set_option maxRecDepth 20000 in
theorem gX1_sumOnLink_X3_routeUses : GoodIn wsX1_sumOnLink (wsV RX1 76 RX3 yX3_routeUses wsX3_routeUses) := goodIn_app (goodIn_of _ (by decide +kernel)) ggX1_sumOnLink_X3_routeUses
theorem dX1_sumOnLink_0 : decode cX1_sumOnLink 0 = .ok (.lconst 0, 1) := by decide +kernel
theorem dX1_sumOnLink_1 : decode cX1_sumOnLink 1 = .ok (.lstore_n 3, 1) := by decide +kernel
theorem dX1_sumOnLink_2 : decode cX1_sumOnLink 2 = .ok (.iconst 0, 1) := by decide +kernel
theorem dX1_sumOnLink_3 : decode cX1_sumOnLink 3 = .ok (.istore 5, 2) := by decide +kernel
theorem dX1_sumOnLink_5 : decode cX1_sumOnLink 5 = .ok (.iload 5, 2) := by decide +kernel
theorem dX1_sumOnLink_7 : decode cX1_sumOnLink 7 = .ok (.bipush 25, 2) := by decide +kernel
theorem dX1_sumOnLink_9 : decode cX1_sumOnLink 9 = .ok (.if_icmp .ge 29, 3) := by decide +kernel
theorem dX1_sumOnLink_12 : decode cX1_sumOnLink 12 = .ok (.aload_n 1, 1) := by decide +kernel
theorem dX1_sumOnLink_13 : decode cX1_sumOnLink 13 = .ok (.iload 5, 2) := by decide +kernel
theorem dX1_sumOnLink_15 : decode cX1_sumOnLink 15 = .ok (.iload_n 2, 1) := by decide +kernel
theorem dX1_sumOnLink_16 : decode cX1_sumOnLink 16 = .ok (.invokevirtual 76, 3) := by decide +kernel
theorem dX1_sumOnLink_19 : decode cX1_sumOnLink 19 = .ok (.ifCond .eq 13, 3) := by decide +kernel
theorem dX1_sumOnLink_22 : decode cX1_sumOnLink 22 = .ok (.lload_n 3, 1) := by decide +kernel
theorem dX1_sumOnLink_23 : decode cX1_sumOnLink 23 = .ok (.aload_n 0, 1) := by decide +kernel
theorem dX1_sumOnLink_24 : decode cX1_sumOnLink 24 = .ok (.getfield 9, 3) := by decide +kernel
theorem dX1_sumOnLink_27 : decode cX1_sumOnLink 27 = .ok (.iload 5, 2) := by decide +kernel
theorem dX1_sumOnLink_29 : decode cX1_sumOnLink 29 = .ok (.laload, 1) := by decide +kernel
theorem dX1_sumOnLink_30 : decode cX1_sumOnLink 30 = .ok (.ladd, 1) := by decide +kernel
theorem dX1_sumOnLink_31 : decode cX1_sumOnLink 31 = .ok (.lstore_n 3, 1) := by decide +kernel
theorem dX1_sumOnLink_32 : decode cX1_sumOnLink 32 = .ok (.iinc 5 1, 3) := by decide +kernel
theorem dX1_sumOnLink_35 : decode cX1_sumOnLink 35 = .ok (.goto (-30), 3) := by decide +kernel
theorem dX1_sumOnLink_38 : decode cX1_sumOnLink 38 = .ok (.lload_n 3, 1) := by decide +kernel
theorem dX1_sumOnLink_39 : decode cX1_sumOnLink 39 = .ok (.lreturn, 1) := by decide +kernel
theorem dX1_scaled_0 : decode cX1_scaled 0 = .ok (.lload 4, 2) := by decide +kernel
theorem dX1_scaled_2 : decode cX1_scaled 2 = .ok (.lconst 0, 1) := by decide +kernel
theorem dX1_scaled_3 : decode cX1_scaled 3 = .ok (.lcmp, 1) := by decide +kernel
theorem dX1_scaled_4 : decode cX1_scaled 4 = .ok (.ifCond .gt 7, 3) := by decide +kernel
theorem dX1_scaled_7 : decode cX1_scaled 7 = .ok (.lconst 0, 1) := by decide +kernel
theorem dX1_scaled_8 : decode cX1_scaled 8 = .ok (.goto 13, 3) := by decide +kernel
theorem dX1_scaled_11 : decode cX1_scaled 11 = .ok (.lload_n 0, 1) := by decide +kernel
theorem dX1_scaled_12 : decode cX1_scaled 12 = .ok (.lload_n 2, 1) := by decide +kernel
theorem dX1_scaled_13 : decode cX1_scaled 13 = .ok (.lmul, 1) := by decide +kernel
theorem dX1_scaled_14 : decode cX1_scaled 14 = .ok (.ldc2_w 80, 3) := by decide +kernel
theorem dX1_scaled_17 : decode cX1_scaled 17 = .ok (.lmul, 1) := by decide +kernel
theorem dX1_scaled_18 : decode cX1_scaled 18 = .ok (.lload 4, 2) := by decide +kernel
theorem dX1_scaled_20 : decode cX1_scaled 20 = .ok (.ldiv, 1) := by decide +kernel
theorem dX1_scaled_21 : decode cX1_scaled 21 = .ok (.lreturn, 1) := by decide +kernel
theorem dX2_init_0 : decode cX2_init 0 = .ok (.aload_n 0, 1) := by decide +kernel
theorem dX2_init_1 : decode cX2_init 1 = .ok (.invokespecial 3, 3) := by decide +kernel
theorem dX2_init_4 : decode cX2_init 4 = .ok (.aload_n 0, 1) := by decide +kernel
theorem dX2_init_5 : decode cX2_init 5 = .ok (.bipush 12, 2) := by decide +kernel
theorem dX2_init_7 : decode cX2_init 7 = .ok (.newarray .int, 2) := by decide +kernel
theorem dX2_init_9 : decode cX2_init 9 = .ok (.putfield 9, 3) := by decide +kernel
theorem dX2_init_12 : decode cX2_init 12 = .ok (.aload_n 0, 1) := by decide +kernel
theorem dX2_init_13 : decode cX2_init 13 = .ok (.iconst 5, 1) := by decide +kernel
theorem dX2_init_14 : decode cX2_init 14 = .ok (.newarray .int, 2) := by decide +kernel
theorem dX2_init_16 : decode cX2_init 16 = .ok (.putfield 15, 3) := by decide +kernel
theorem dX2_init_19 : decode cX2_init 19 = .ok (.aload_n 0, 1) := by decide +kernel
theorem dX2_init_20 : decode cX2_init 20 = .ok (.iconst 5, 1) := by decide +kernel
theorem dX2_init_21 : decode cX2_init 21 = .ok (.newarray .int, 2) := by decide +kernel
theorem dX2_init_23 : decode cX2_init 23 = .ok (.putfield 18, 3) := by decide +kernel
theorem dX2_init_26 : decode cX2_init 26 = .ok (.aload_n 0, 1) := by decide +kernel
theorem dX2_init_27 : decode cX2_init 27 = .ok (.bipush 25, 2) := by decide +kernel
theorem dX2_init_29 : decode cX2_init 29 = .ok (.newarray .int, 2) := by decide +kernel
theorem dX2_init_31 : decode cX2_init 31 = .ok (.putfield 21, 3) := by decide +kernel
theorem dX2_init_34 : decode cX2_init 34 = .ok (.return_, 1) := by decide +kernel
set_option maxRecDepth 20000 in
theorem ggX2_startAnew_J7_fill_53178 : GoodIn wsX2_startAnew wsJ7_fill_53178 := goodIn_r _ [8] (by decide +kernel) (by decide +kernel)
set_option maxRecDepth 20000 in
theorem gX2_startAnew_J7_fill_53178 : GoodIn wsX2_startAnew (va_wsS RX2 24 yJ7_fill_53178 wsJ7_fill_53178) := goodIn_app (goodIn_of _ (by decide +kernel)) ggX2_startAnew_J7_fill_53178
theorem dX2_startAnew_0 : decode cX2_startAnew 0 = .ok (.aload_n 0, 1) := by decide +kernel
theorem dX2_startAnew_1 : decode cX2_startAnew 1 = .ok (.getfield 9, 3) := by decide +kernel
theorem dX2_startAnew_4 : decode cX2_startAnew 4 = .ok (.iconst 0, 1) := by decide +kernel
theorem dX2_startAnew_5 : decode cX2_startAnew 5 = .ok (.invokestatic 24, 3) := by decide +kernel
theorem dX2_startAnew_8 : decode cX2_startAnew 8 = .ok (.aload_n 0, 1) := by decide +kernel
theorem dX2_startAnew_9 : decode cX2_startAnew 9 = .ok (.getfield 15, 3) := by decide +kernel
theorem dX2_startAnew_12 : decode cX2_startAnew 12 = .ok (.iconst 0, 1) := by decide +kernel
theorem dX2_startAnew_13 : decode cX2_startAnew 13 = .ok (.invokestatic 24, 3) := by decide +kernel
theorem dX2_startAnew_16 : decode cX2_startAnew 16 = .ok (.aload_n 0, 1) := by decide +kernel
theorem dX2_startAnew_17 : decode cX2_startAnew 17 = .ok (.getfield 18, 3) := by decide +kernel
theorem dX2_startAnew_20 : decode cX2_startAnew 20 = .ok (.iconst 0, 1) := by decide +kernel
theorem dX2_startAnew_21 : decode cX2_startAnew 21 = .ok (.invokestatic 24, 3) := by decide +kernel
theorem dX2_startAnew_24 : decode cX2_startAnew 24 = .ok (.aload_n 0, 1) := by decide +kernel
theorem dX2_startAnew_25 : decode cX2_startAnew 25 = .ok (.getfield 21, 3) := by decide +kernel
theorem dX2_startAnew_28 : decode cX2_startAnew 28 = .ok (.iconst (-1), 1) := by decide +kernel
theorem dX2_startAnew_29 : decode cX2_startAnew 29 = .ok (.invokestatic 24, 3) := by decide +kernel
theorem dX2_startAnew_32 : decode cX2_startAnew 32 = .ok (.return_, 1) := by decide +kernel
theorem dX2_hasPair_0 : decode cX2_hasPair 0 = .ok (.aload_n 0, 1) := by decide +kernel
theorem dX2_hasPair_1 : decode cX2_hasPair 1 = .ok (.getfield 21, 3) := by decide +kernel
theorem dX2_hasPair_4 : decode cX2_hasPair 4 = .ok (.iload_n 1, 1) := by decide +kernel
theorem dX2_hasPair_5 : decode cX2_hasPair 5 = .ok (.iaload, 1) := by decide +kernel
theorem dX2_hasPair_6 : decode cX2_hasPair 6 = .ok (.iconst (-1), 1) := by decide +kernel
theorem dX2_hasPair_7 : decode cX2_hasPair 7 = .ok (.if_icmp .eq 7, 3) := by decide +kernel
theorem dX2_hasPair_10 : decode cX2_hasPair 10 = .ok (.iconst 1, 1) := by decide +kernel
theorem dX2_hasPair_11 : decode cX2_hasPair 11 = .ok (.goto 4, 3) := by decide +kernel
theorem dX2_hasPair_14 : decode cX2_hasPair 14 = .ok (.iconst 0, 1) := by decide +kernel
theorem dX2_hasPair_15 : decode cX2_hasPair 15 = .ok (.ireturn, 1) := by decide +kernel
set_option maxRecDepth 20000 in
theorem ggX2_take_X3_loadOf : GoodIn wsX2_take wsX3_loadOf := goodIn_r _ [9, 10, 11, 12, 8, 13, 14, 15, 24, 25, 26, 27, 28, 29, 30, 31] (by decide +kernel) (by decide +kernel)
set_option maxRecDepth 20000 in
theorem gX2_take_X3_loadOf : GoodIn wsX2_take (wsV RX2 36 RX3 yX3_loadOf wsX3_loadOf) := goodIn_app (goodIn_of _ (by decide +kernel)) ggX2_take_X3_loadOf
set_option maxRecDepth 20000 in
theorem ggX2_take_J7_fill_53178 : GoodIn wsX2_take wsJ7_fill_53178 := goodIn_r _ [19] (by decide +kernel) (by decide +kernel)
set_option maxRecDepth 20000 in
theorem gX2_take_J7_fill_53178 : GoodIn wsX2_take (va_wsS RX2 24 yJ7_fill_53178 wsJ7_fill_53178) := goodIn_app (goodIn_of _ (by decide +kernel)) ggX2_take_J7_fill_53178
set_option maxRecDepth 20000 in
theorem ggX2_take_X3_hasRoute : GoodIn wsX2_take wsX3_hasRoute := goodIn_r _ [23, 14, 24, 25, 26, 27, 28, 29, 30, 31] (by decide +kernel) (by decide +kernel)
set_option maxRecDepth 20000 in
theorem gX2_take_X3_hasRoute : GoodIn wsX2_take (wsV RX2 40 RX3 yX3_hasRoute wsX3_hasRoute) := goodIn_app (goodIn_of _ (by decide +kernel)) ggX2_take_X3_hasRoute
theorem dX2_take_0 : decode cX2_take 0 = .ok (.iconst 0, 1) := by decide +kernel
theorem dX2_take_1 : decode cX2_take 1 = .ok (.istore_n 3, 1) := by decide +kernel
theorem dX2_take_2 : decode cX2_take 2 = .ok (.iload_n 3, 1) := by decide +kernel
theorem dX2_take_3 : decode cX2_take 3 = .ok (.aload_n 1, 1) := by decide +kernel
theorem dX2_take_4 : decode cX2_take 4 = .ok (.getfield 30, 3) := by decide +kernel
theorem dX2_take_7 : decode cX2_take 7 = .ok (.if_icmp .ge 21, 3) := by decide +kernel
theorem dX2_take_10 : decode cX2_take 10 = .ok (.aload_n 0, 1) := by decide +kernel
theorem dX2_take_11 : decode cX2_take 11 = .ok (.getfield 9, 3) := by decide +kernel
theorem dX2_take_14 : decode cX2_take 14 = .ok (.iload_n 3, 1) := by decide +kernel
theorem dX2_take_15 : decode cX2_take 15 = .ok (.aload_n 1, 1) := by decide +kernel
theorem dX2_take_16 : decode cX2_take 16 = .ok (.iload_n 3, 1) := by decide +kernel
theorem dX2_take_17 : decode cX2_take 17 = .ok (.aload_n 2, 1) := by decide +kernel
theorem dX2_take_18 : decode cX2_take 18 = .ok (.invokevirtual 36, 3) := by decide +kernel
theorem dX2_take_21 : decode cX2_take 21 = .ok (.iastore, 1) := by decide +kernel
theorem dX2_take_22 : decode cX2_take 22 = .ok (.iinc 3 1, 3) := by decide +kernel
theorem dX2_take_25 : decode cX2_take 25 = .ok (.goto (-23), 3) := by decide +kernel
theorem dX2_take_28 : decode cX2_take 28 = .ok (.aload_n 0, 1) := by decide +kernel
theorem dX2_take_29 : decode cX2_take 29 = .ok (.getfield 15, 3) := by decide +kernel
theorem dX2_take_32 : decode cX2_take 32 = .ok (.iconst 0, 1) := by decide +kernel
theorem dX2_take_33 : decode cX2_take 33 = .ok (.invokestatic 24, 3) := by decide +kernel
theorem dX2_take_36 : decode cX2_take 36 = .ok (.aload_n 0, 1) := by decide +kernel
theorem dX2_take_37 : decode cX2_take 37 = .ok (.getfield 18, 3) := by decide +kernel
theorem dX2_take_40 : decode cX2_take 40 = .ok (.iconst 0, 1) := by decide +kernel
theorem dX2_take_41 : decode cX2_take 41 = .ok (.invokestatic 24, 3) := by decide +kernel
theorem dX2_take_44 : decode cX2_take 44 = .ok (.iconst 0, 1) := by decide +kernel
theorem dX2_take_45 : decode cX2_take 45 = .ok (.istore_n 3, 1) := by decide +kernel
theorem dX2_take_46 : decode cX2_take 46 = .ok (.iload_n 3, 1) := by decide +kernel
theorem dX2_take_47 : decode cX2_take 47 = .ok (.bipush 25, 2) := by decide +kernel
theorem dX2_take_49 : decode cX2_take 49 = .ok (.if_icmp .ge 45, 3) := by decide +kernel
theorem dX2_take_52 : decode cX2_take 52 = .ok (.aload_n 1, 1) := by decide +kernel
theorem dX2_take_53 : decode cX2_take 53 = .ok (.iload_n 3, 1) := by decide +kernel
theorem dX2_take_54 : decode cX2_take 54 = .ok (.invokevirtual 40, 3) := by decide +kernel
theorem dX2_take_57 : decode cX2_take 57 = .ok (.ifCond .eq 31, 3) := by decide +kernel
theorem dX2_take_60 : decode cX2_take 60 = .ok (.aload_n 0, 1) := by decide +kernel
theorem dX2_take_61 : decode cX2_take 61 = .ok (.getfield 15, 3) := by decide +kernel
theorem dX2_take_64 : decode cX2_take 64 = .ok (.iload_n 3, 1) := by decide +kernel
theorem dX2_take_65 : decode cX2_take 65 = .ok (.iconst 5, 1) := by decide +kernel
theorem dX2_take_66 : decode cX2_take 66 = .ok (.idiv, 1) := by decide +kernel
theorem dX2_take_67 : decode cX2_take 67 = .ok (.dup2, 1) := by decide +kernel
theorem dX2_take_68 : decode cX2_take 68 = .ok (.iaload, 1) := by decide +kernel
theorem dX2_take_69 : decode cX2_take 69 = .ok (.aload_n 2, 1) := by decide +kernel
theorem dX2_take_70 : decode cX2_take 70 = .ok (.iload_n 3, 1) := by decide +kernel
theorem dX2_take_71 : decode cX2_take 71 = .ok (.iaload, 1) := by decide +kernel
theorem dX2_take_72 : decode cX2_take 72 = .ok (.iadd, 1) := by decide +kernel
theorem dX2_take_73 : decode cX2_take 73 = .ok (.iastore, 1) := by decide +kernel
theorem dX2_take_74 : decode cX2_take 74 = .ok (.aload_n 0, 1) := by decide +kernel
theorem dX2_take_75 : decode cX2_take 75 = .ok (.getfield 18, 3) := by decide +kernel
theorem dX2_take_78 : decode cX2_take 78 = .ok (.iload_n 3, 1) := by decide +kernel
theorem dX2_take_79 : decode cX2_take 79 = .ok (.iconst 5, 1) := by decide +kernel
theorem dX2_take_80 : decode cX2_take 80 = .ok (.irem, 1) := by decide +kernel
theorem dX2_take_81 : decode cX2_take 81 = .ok (.dup2, 1) := by decide +kernel
theorem dX2_take_82 : decode cX2_take 82 = .ok (.iaload, 1) := by decide +kernel
theorem dX2_take_83 : decode cX2_take 83 = .ok (.aload_n 2, 1) := by decide +kernel
theorem dX2_take_84 : decode cX2_take 84 = .ok (.iload_n 3, 1) := by decide +kernel
theorem dX2_take_85 : decode cX2_take 85 = .ok (.iaload, 1) := by decide +kernel
theorem dX2_take_86 : decode cX2_take 86 = .ok (.iadd, 1) := by decide +kernel
theorem dX2_take_87 : decode cX2_take 87 = .ok (.iastore, 1) := by decide +kernel
theorem dX2_take_88 : decode cX2_take 88 = .ok (.iinc 3 1, 3) := by decide +kernel
theorem dX2_take_91 : decode cX2_take 91 = .ok (.goto (-45), 3) := by decide +kernel
theorem dX2_take_94 : decode cX2_take 94 = .ok (.return_, 1) := by decide +kernel
theorem dX2_sumOfOutTotals_0 : decode cX2_sumOfOutTotals 0 = .ok (.iconst 0, 1) := by decide +kernel
theorem dX2_sumOfOutTotals_1 : decode cX2_sumOfOutTotals 1 = .ok (.istore_n 1, 1) := by decide +kernel
theorem dX2_sumOfOutTotals_2 : decode cX2_sumOfOutTotals 2 = .ok (.iconst 0, 1) := by decide +kernel
theorem dX2_sumOfOutTotals_3 : decode cX2_sumOfOutTotals 3 = .ok (.istore_n 2, 1) := by decide +kernel
theorem dX2_sumOfOutTotals_4 : decode cX2_sumOfOutTotals 4 = .ok (.iload_n 2, 1) := by decide +kernel
theorem dX2_sumOfOutTotals_5 : decode cX2_sumOfOutTotals 5 = .ok (.iconst 5, 1) := by decide +kernel
theorem dX2_sumOfOutTotals_6 : decode cX2_sumOfOutTotals 6 = .ok (.if_icmp .ge 18, 3) := by decide +kernel
theorem dX2_sumOfOutTotals_9 : decode cX2_sumOfOutTotals 9 = .ok (.iload_n 1, 1) := by decide +kernel
theorem dX2_sumOfOutTotals_10 : decode cX2_sumOfOutTotals 10 = .ok (.aload_n 0, 1) := by decide +kernel
theorem dX2_sumOfOutTotals_11 : decode cX2_sumOfOutTotals 11 = .ok (.getfield 15, 3) := by decide +kernel
theorem dX2_sumOfOutTotals_14 : decode cX2_sumOfOutTotals 14 = .ok (.iload_n 2, 1) := by decide +kernel
theorem dX2_sumOfOutTotals_15 : decode cX2_sumOfOutTotals 15 = .ok (.iaload, 1) := by decide +kernel
theorem dX2_sumOfOutTotals_16 : decode cX2_sumOfOutTotals 16 = .ok (.iadd, 1) := by decide +kernel
theorem dX2_sumOfOutTotals_17 : decode cX2_sumOfOutTotals 17 = .ok (.istore_n 1, 1) := by decide +kernel
theorem dX2_sumOfOutTotals_18 : decode cX2_sumOfOutTotals 18 = .ok (.iinc 2 1, 3) := by decide +kernel
theorem dX2_sumOfOutTotals_21 : decode cX2_sumOfOutTotals 21 = .ok (.goto (-17), 3) := by decide +kernel
theorem dX2_sumOfOutTotals_24 : decode cX2_sumOfOutTotals 24 = .ok (.iload_n 1, 1) := by decide +kernel
theorem dX2_sumOfOutTotals_25 : decode cX2_sumOfOutTotals 25 = .ok (.ireturn, 1) := by decide +kernel
theorem dX3_init_0 : decode cX3_init 0 = .ok (.aload_n 0, 1) := by decide +kernel
theorem dX3_init_1 : decode cX3_init 1 = .ok (.invokespecial 3, 3) := by decide +kernel
theorem dX3_init_4 : decode cX3_init 4 = .ok (.aload_n 0, 1) := by decide +kernel
theorem dX3_init_5 : decode cX3_init 5 = .ok (.bipush 12, 2) := by decide +kernel
theorem dX3_init_7 : decode cX3_init 7 = .ok (.newarray .int, 2) := by decide +kernel
theorem dX3_init_9 : decode cX3_init 9 = .ok (.putfield 9, 3) := by decide +kernel
theorem dX3_init_12 : decode cX3_init 12 = .ok (.aload_n 0, 1) := by decide +kernel
theorem dX3_init_13 : decode cX3_init 13 = .ok (.bipush 12, 2) := by decide +kernel
theorem dX3_init_15 : decode cX3_init 15 = .ok (.newarray .int, 2) := by decide +kernel
theorem dX3_init_17 : decode cX3_init 17 = .ok (.putfield 15, 3) := by decide +kernel
theorem dX3_init_20 : decode cX3_init 20 = .ok (.aload_n 0, 1) := by decide +kernel
theorem dX3_init_21 : decode cX3_init 21 = .ok (.bipush 12, 2) := by decide +kernel
theorem dX3_init_23 : decode cX3_init 23 = .ok (.newarray .int, 2) := by decide +kernel
theorem dX3_init_25 : decode cX3_init 25 = .ok (.putfield 18, 3) := by decide +kernel
theorem dX3_init_28 : decode cX3_init 28 = .ok (.aload_n 0, 1) := by decide +kernel
theorem dX3_init_29 : decode cX3_init 29 = .ok (.bipush 25, 2) := by decide +kernel
theorem dX3_init_31 : decode cX3_init 31 = .ok (.newarray .int, 2) := by decide +kernel
theorem dX3_init_33 : decode cX3_init 33 = .ok (.putfield 21, 3) := by decide +kernel
theorem dX3_init_36 : decode cX3_init 36 = .ok (.aload_n 0, 1) := by decide +kernel
theorem dX3_init_37 : decode cX3_init 37 = .ok (.bipush 25, 2) := by decide +kernel
theorem dX3_init_39 : decode cX3_init 39 = .ok (.iconst 4, 1) := by decide +kernel
theorem dX3_init_40 : decode cX3_init 40 = .ok (.multianewarray 24 2, 4) := by decide +kernel
theorem dX3_init_44 : decode cX3_init 44 = .ok (.putfield 26, 3) := by decide +kernel
theorem dX3_init_47 : decode cX3_init 47 = .ok (.aload_n 0, 1) := by decide +kernel
theorem dX3_init_48 : decode cX3_init 48 = .ok (.iconst 5, 1) := by decide +kernel
theorem dX3_init_49 : decode cX3_init 49 = .ok (.newarray .int, 2) := by decide +kernel
theorem dX3_init_51 : decode cX3_init 51 = .ok (.putfield 29, 3) := by decide +kernel
theorem dX3_init_54 : decode cX3_init 54 = .ok (.return_, 1) := by decide +kernel
set_option maxRecDepth 20000 in
theorem ggX3_startAnew_J7_fill_53178 : GoodIn wsX3_startAnew wsJ7_fill_53178 := goodIn_r _ [7] (by decide +kernel) (by decide +kernel)
set_option maxRecDepth 20000 in
theorem gX3_startAnew_J7_fill_53178 : GoodIn wsX3_startAnew (va_wsS RX3 39 yJ7_fill_53178 wsJ7_fill_53178) := goodIn_app (goodIn_of _ (by decide +kernel)) ggX3_startAnew_J7_fill_53178
theorem dX3_startAnew_0 : decode cX3_startAnew 0 = .ok (.aload_n 0, 1) := by decide +kernel
theorem dX3_startAnew_1 : decode cX3_startAnew 1 = .ok (.iload_n 1, 1) := by decide +kernel
theorem dX3_startAnew_2 : decode cX3_startAnew 2 = .ok (.putfield 32, 3) := by decide +kernel
theorem dX3_startAnew_5 : decode cX3_startAnew 5 = .ok (.aload_n 0, 1) := by decide +kernel
theorem dX3_startAnew_6 : decode cX3_startAnew 6 = .ok (.iconst 0, 1) := by decide +kernel
theorem dX3_startAnew_7 : decode cX3_startAnew 7 = .ok (.putfield 36, 3) := by decide +kernel
theorem dX3_startAnew_10 : decode cX3_startAnew 10 = .ok (.aload_n 0, 1) := by decide +kernel
theorem dX3_startAnew_11 : decode cX3_startAnew 11 = .ok (.getfield 21, 3) := by decide +kernel
theorem dX3_startAnew_14 : decode cX3_startAnew 14 = .ok (.iconst 0, 1) := by decide +kernel
theorem dX3_startAnew_15 : decode cX3_startAnew 15 = .ok (.invokestatic 39, 3) := by decide +kernel
theorem dX3_startAnew_18 : decode cX3_startAnew 18 = .ok (.return_, 1) := by decide +kernel
theorem dX3_hasNode_0 : decode cX3_hasNode 0 = .ok (.iload_n 1, 1) := by decide +kernel
theorem dX3_hasNode_1 : decode cX3_hasNode 1 = .ok (.ifCond .lt 15, 3) := by decide +kernel
theorem dX3_hasNode_4 : decode cX3_hasNode 4 = .ok (.iload_n 1, 1) := by decide +kernel
theorem dX3_hasNode_5 : decode cX3_hasNode 5 = .ok (.aload_n 0, 1) := by decide +kernel
theorem dX3_hasNode_6 : decode cX3_hasNode 6 = .ok (.getfield 32, 3) := by decide +kernel
theorem dX3_hasNode_9 : decode cX3_hasNode 9 = .ok (.if_icmp .ge 7, 3) := by decide +kernel
theorem dX3_hasNode_12 : decode cX3_hasNode 12 = .ok (.iconst 1, 1) := by decide +kernel
theorem dX3_hasNode_13 : decode cX3_hasNode 13 = .ok (.goto 4, 3) := by decide +kernel
theorem dX3_hasNode_16 : decode cX3_hasNode 16 = .ok (.iconst 0, 1) := by decide +kernel
theorem dX3_hasNode_17 : decode cX3_hasNode 17 = .ok (.ireturn, 1) := by decide +kernel
theorem dX3_hasLink_0 : decode cX3_hasLink 0 = .ok (.iload_n 1, 1) := by decide +kernel
theorem dX3_hasLink_1 : decode cX3_hasLink 1 = .ok (.ifCond .lt 15, 3) := by decide +kernel
theorem dX3_hasLink_4 : decode cX3_hasLink 4 = .ok (.iload_n 1, 1) := by decide +kernel
theorem dX3_hasLink_5 : decode cX3_hasLink 5 = .ok (.aload_n 0, 1) := by decide +kernel
theorem dX3_hasLink_6 : decode cX3_hasLink 6 = .ok (.getfield 36, 3) := by decide +kernel
theorem dX3_hasLink_9 : decode cX3_hasLink 9 = .ok (.if_icmp .ge 7, 3) := by decide +kernel
theorem dX3_hasLink_12 : decode cX3_hasLink 12 = .ok (.iconst 1, 1) := by decide +kernel
theorem dX3_hasLink_13 : decode cX3_hasLink 13 = .ok (.goto 4, 3) := by decide +kernel
theorem dX3_hasLink_16 : decode cX3_hasLink 16 = .ok (.iconst 0, 1) := by decide +kernel
theorem dX3_hasLink_17 : decode cX3_hasLink 17 = .ok (.ireturn, 1) := by decide +kernel
theorem dX3_hasRoute_0 : decode cX3_hasRoute 0 = .ok (.aload_n 0, 1) := by decide +kernel
theorem dX3_hasRoute_1 : decode cX3_hasRoute 1 = .ok (.getfield 21, 3) := by decide +kernel
theorem dX3_hasRoute_4 : decode cX3_hasRoute 4 = .ok (.iload_n 1, 1) := by decide +kernel
theorem dX3_hasRoute_5 : decode cX3_hasRoute 5 = .ok (.iaload, 1) := by decide +kernel
theorem dX3_hasRoute_6 : decode cX3_hasRoute 6 = .ok (.ifCond .le 7, 3) := by decide +kernel
theorem dX3_hasRoute_9 : decode cX3_hasRoute 9 = .ok (.iconst 1, 1) := by decide +kernel
theorem dX3_hasRoute_10 : decode cX3_hasRoute 10 = .ok (.goto 4, 3) := by decide +kernel
theorem dX3_hasRoute_13 : decode cX3_hasRoute 13 = .ok (.iconst 0, 1) := by decide +kernel
theorem dX3_hasRoute_14 : decode cX3_hasRoute 14 = .ok (.ireturn, 1) := by decide +kernel
theorem dX3_routeUses_0 : decode cX3_routeUses 0 = .ok (.iconst 0, 1) := by decide +kernel
theorem dX3_routeUses_1 : decode cX3_routeUses 1 = .ok (.istore_n 3, 1) := by decide +kernel
theorem dX3_routeUses_2 : decode cX3_routeUses 2 = .ok (.iload_n 3, 1) := by decide +kernel
theorem dX3_routeUses_3 : decode cX3_routeUses 3 = .ok (.aload_n 0, 1) := by decide +kernel
theorem dX3_routeUses_4 : decode cX3_routeUses 4 = .ok (.getfield 21, 3) := by decide +kernel
theorem dX3_routeUses_7 : decode cX3_routeUses 7 = .ok (.iload_n 1, 1) := by decide +kernel
theorem dX3_routeUses_8 : decode cX3_routeUses 8 = .ok (.iaload, 1) := by decide +kernel
theorem dX3_routeUses_9 : decode cX3_routeUses 9 = .ok (.if_icmp .ge 23, 3) := by decide +kernel
theorem dX3_routeUses_12 : decode cX3_routeUses 12 = .ok (.aload_n 0, 1) := by decide +kernel
theorem dX3_routeUses_13 : decode cX3_routeUses 13 = .ok (.getfield 26, 3) := by decide +kernel
theorem dX3_routeUses_16 : decode cX3_routeUses 16 = .ok (.iload_n 1, 1) := by decide +kernel
theorem dX3_routeUses_17 : decode cX3_routeUses 17 = .ok (.aaload, 1) := by decide +kernel
theorem dX3_routeUses_18 : decode cX3_routeUses 18 = .ok (.iload_n 3, 1) := by decide +kernel
theorem dX3_routeUses_19 : decode cX3_routeUses 19 = .ok (.iaload, 1) := by decide +kernel
theorem dX3_routeUses_20 : decode cX3_routeUses 20 = .ok (.iload_n 2, 1) := by decide +kernel
theorem dX3_routeUses_21 : decode cX3_routeUses 21 = .ok (.if_icmp .ne 5, 3) := by decide +kernel
theorem dX3_routeUses_24 : decode cX3_routeUses 24 = .ok (.iconst 1, 1) := by decide +kernel
theorem dX3_routeUses_25 : decode cX3_routeUses 25 = .ok (.ireturn, 1) := by decide +kernel
theorem dX3_routeUses_26 : decode cX3_routeUses 26 = .ok (.iinc 3 1, 3) := by decide +kernel
theorem dX3_routeUses_29 : decode cX3_routeUses 29 = .ok (.goto (-27), 3) := by decide +kernel
theorem dX3_routeUses_32 : decode cX3_routeUses 32 = .ok (.iconst 0, 1) := by decide +kernel
theorem dX3_routeUses_33 : decode cX3_routeUses 33 = .ok (.ireturn, 1) := by decide +kernel
set_option maxRecDepth 20000 in
theorem ggX3_loadOf_X3_routeUses : GoodIn wsX3_loadOf wsX3_routeUses := goodIn_r _ [5, 6, 7, 8, 9, 10, 11, 12, 13, 14, 15] (by decide +kernel) (by decide +kernel)
set_option maxRecDepth 20000 in
theorem gX3_loadOf_X3_routeUses : GoodIn wsX3_loadOf (wsV RX3 45 RX3 yX3_routeUses wsX3_routeUses) := goodIn_app (goodIn_of _ (by decide +kernel)) ggX3_loadOf_X3_routeUses
theorem dX3_loadOf_0 : decode cX3_loadOf 0 = .ok (.iconst 0, 1) := by decide +kernel
theorem dX3_loadOf_1 : decode cX3_loadOf 1 = .ok (.istore_n 3, 1) := by decide +kernel
theorem dX3_loadOf_2 : decode cX3_loadOf 2 = .ok (.iconst 0, 1) := by decide +kernel
theorem dX3_loadOf_3 : decode cX3_loadOf 3 = .ok (.istore 4, 2) := by decide +kernel
theorem dX3_loadOf_5 : decode cX3_loadOf 5 = .ok (.iload 4, 2) := by decide +kernel
theorem dX3_loadOf_7 : decode cX3_loadOf 7 = .ok (.bipush 25, 2) := by decide +kernel
theorem dX3_loadOf_9 : decode cX3_loadOf 9 = .ok (.if_icmp .ge 26, 3) := by decide +kernel
theorem dX3_loadOf_12 : decode cX3_loadOf 12 = .ok (.aload_n 0, 1) := by decide +kernel
theorem dX3_loadOf_13 : decode cX3_loadOf 13 = .ok (.iload 4, 2) := by decide +kernel
theorem dX3_loadOf_15 : decode cX3_loadOf 15 = .ok (.iload_n 1, 1) := by decide +kernel
theorem dX3_loadOf_16 : decode cX3_loadOf 16 = .ok (.invokevirtual 45, 3) := by decide +kernel
theorem dX3_loadOf_19 : decode cX3_loadOf 19 = .ok (.ifCond .eq 10, 3) := by decide +kernel
theorem dX3_loadOf_22 : decode cX3_loadOf 22 = .ok (.iload_n 3, 1) := by decide +kernel
theorem dX3_loadOf_23 : decode cX3_loadOf 23 = .ok (.aload_n 2, 1) := by decide +kernel
theorem dX3_loadOf_24 : decode cX3_loadOf 24 = .ok (.iload 4, 2) := by decide +kernel
theorem dX3_loadOf_26 : decode cX3_loadOf 26 = .ok (.iaload, 1) := by decide +kernel
theorem dX3_loadOf_27 : decode cX3_loadOf 27 = .ok (.iadd, 1) := by decide +kernel
theorem dX3_loadOf_28 : decode cX3_loadOf 28 = .ok (.istore_n 3, 1) := by decide +kernel
theorem dX3_loadOf_29 : decode cX3_loadOf 29 = .ok (.iinc 4 1, 3) := by decide +kernel
theorem dX3_loadOf_32 : decode cX3_loadOf 32 = .ok (.goto (-27), 3) := by decide +kernel
theorem dX3_loadOf_35 : decode cX3_loadOf 35 = .ok (.iload_n 3, 1) := by decide +kernel
theorem dX3_loadOf_36 : decode cX3_loadOf 36 = .ok (.ireturn, 1) := by decide +kernel
set_option maxRecDepth 20000 in
theorem ggX3_append_X3_findRoutes : GoodIn wsX3_append wsX3_findRoutes := goodIn_r _ [9, 10, 11, 12, 13, 8, 14, 15, 16, 1, 2, 17, 18, 19, 20, 21, 22, 23, 24, 25, 26, 27, 28, 4, 3, 29, 30, 31, 32, 33, 34, 35, 36, 37, 38, 39, 40, 41, 42, 43, 44, 45, 46, 47, 48, 49] (by decide +kernel) (by decide +kernel)
set_option maxRecDepth 20000 in
theorem gX3_append_X3_findRoutes : GoodIn wsX3_append (wsV RX3 49 RX3 yX3_findRoutes wsX3_findRoutes) := goodIn_app (goodIn_of _ (by decide +kernel)) ggX3_append_X3_findRoutes
theorem dX3_append_0 : decode cX3_append 0 = .ok (.aload_n 0, 1) := by decide +kernel
theorem dX3_append_1 : decode cX3_append 1 = .ok (.getfield 36, 3) := by decide +kernel
theorem dX3_append_4 : decode cX3_append 4 = .ok (.istore 4, 2) := by decide +kernel
theorem dX3_append_6 : decode cX3_append 6 = .ok (.aload_n 0, 1) := by decide +kernel
theorem dX3_append_7 : decode cX3_append 7 = .ok (.getfield 9, 3) := by decide +kernel
theorem dX3_append_10 : decode cX3_append 10 = .ok (.iload 4, 2) := by decide +kernel
theorem dX3_append_12 : decode cX3_append 12 = .ok (.iload_n 1, 1) := by decide +kernel
theorem dX3_append_13 : decode cX3_append 13 = .ok (.iastore, 1) := by decide +kernel
theorem dX3_append_14 : decode cX3_append 14 = .ok (.aload_n 0, 1) := by decide +kernel
theorem dX3_append_15 : decode cX3_append 15 = .ok (.getfield 15, 3) := by decide +kernel
theorem dX3_append_18 : decode cX3_append 18 = .ok (.iload 4, 2) := by decide +kernel
theorem dX3_append_20 : decode cX3_append 20 = .ok (.iload_n 2, 1) := by decide +kernel
theorem dX3_append_21 : decode cX3_append 21 = .ok (.iastore, 1) := by decide +kernel
theorem dX3_append_22 : decode cX3_append 22 = .ok (.aload_n 0, 1) := by decide +kernel
theorem dX3_append_23 : decode cX3_append 23 = .ok (.getfield 18, 3) := by decide +kernel
theorem dX3_append_26 : decode cX3_append 26 = .ok (.iload 4, 2) := by decide +kernel
theorem dX3_append_28 : decode cX3_append 28 = .ok (.iload_n 3, 1) := by decide +kernel
theorem dX3_append_29 : decode cX3_append 29 = .ok (.iastore, 1) := by decide +kernel
theorem dX3_append_30 : decode cX3_append 30 = .ok (.aload_n 0, 1) := by decide +kernel
theorem dX3_append_31 : decode cX3_append 31 = .ok (.dup, 1) := by decide +kernel
theorem dX3_append_32 : decode cX3_append 32 = .ok (.getfield 36, 3) := by decide +kernel
theorem dX3_append_35 : decode cX3_append 35 = .ok (.iconst 1, 1) := by decide +kernel
theorem dX3_append_36 : decode cX3_append 36 = .ok (.iadd, 1) := by decide +kernel
theorem dX3_append_37 : decode cX3_append 37 = .ok (.putfield 36, 3) := by decide +kernel
theorem dX3_append_40 : decode cX3_append 40 = .ok (.aload_n 0, 1) := by decide +kernel
theorem dX3_append_41 : decode cX3_append 41 = .ok (.invokevirtual 49, 3) := by decide +kernel
theorem dX3_append_44 : decode cX3_append 44 = .ok (.iload 4, 2) := by decide +kernel
theorem dX3_append_46 : decode cX3_append 46 = .ok (.ireturn, 1) := by decide +kernel
set_option maxRecDepth 20000 in
theorem ggX3_replaceMetric_X3_findRoutes : GoodIn wsX3_replaceMetric wsX3_findRoutes := goodIn_r _ [6, 7, 8, 9, 10, 5, 11, 12, 13, 14, 15, 16, 17, 18, 19, 20, 21, 22, 23, 24, 25, 26, 27, 1, 28, 29, 30, 31, 32, 33, 34, 35, 36, 37, 38, 39, 40, 41, 42, 43, 44, 45, 46, 47, 48, 49] (by decide +kernel) (by decide +kernel)
set_option maxRecDepth 20000 in
theorem gX3_replaceMetric_X3_findRoutes : GoodIn wsX3_replaceMetric (wsV RX3 49 RX3 yX3_findRoutes wsX3_findRoutes) := goodIn_app (goodIn_of _ (by decide +kernel)) ggX3_replaceMetric_X3_findRoutes
theorem dX3_replaceMetric_0 : decode cX3_replaceMetric 0 = .ok (.aload_n 0, 1) := by decide +kernel
theorem dX3_replaceMetric_1 : decode cX3_replaceMetric 1 = .ok (.getfield 18, 3) := by decide +kernel
theorem dX3_replaceMetric_4 : decode cX3_replaceMetric 4 = .ok (.iload_n 1, 1) := by decide +kernel
theorem dX3_replaceMetric_5 : decode cX3_replaceMetric 5 = .ok (.iaload, 1) := by decide +kernel
theorem dX3_replaceMetric_6 : decode cX3_replaceMetric 6 = .ok (.istore_n 3, 1) := by decide +kernel
theorem dX3_replaceMetric_7 : decode cX3_replaceMetric 7 = .ok (.aload_n 0, 1) := by decide +kernel
theorem dX3_replaceMetric_8 : decode cX3_replaceMetric 8 = .ok (.getfield 18, 3) := by decide +kernel
theorem dX3_replaceMetric_11 : decode cX3_replaceMetric 11 = .ok (.iload_n 1, 1) := by decide +kernel
theorem dX3_replaceMetric_12 : decode cX3_replaceMetric 12 = .ok (.iload_n 2, 1) := by decide +kernel
theorem dX3_replaceMetric_13 : decode cX3_replaceMetric 13 = .ok (.iastore, 1) := by decide +kernel
theorem dX3_replaceMetric_14 : decode cX3_replaceMetric 14 = .ok (.aload_n 0, 1) := by decide +kernel
theorem dX3_replaceMetric_15 : decode cX3_replaceMetric 15 = .ok (.invokevirtual 49, 3) := by decide +kernel
theorem dX3_replaceMetric_18 : decode cX3_replaceMetric 18 = .ok (.iload_n 3, 1) := by decide +kernel
theorem dX3_replaceMetric_19 : decode cX3_replaceMetric 19 = .ok (.ireturn, 1) := by decide +kernel
set_option maxRecDepth 20000 in
theorem ggX3_findRoutes_X3_findCostsTo : GoodIn wsX3_findRoutes wsX3_findCostsTo := goodIn_r _ [6, 7, 8, 9, 10, 11, 12, 13, 14, 15, 16, 17, 18, 19, 20, 21, 5, 22, 23, 24, 38, 39, 40, 41, 42, 43, 44, 45] (by decide +kernel) (by decide +kernel)
set_option maxRecDepth 20000 in
theorem gX3_findRoutes_X3_findCostsTo : GoodIn wsX3_findRoutes (wsV RX3 52 RX3 yX3_findCostsTo wsX3_findCostsTo) := goodIn_app (goodIn_of _ (by decide +kernel)) ggX3_findRoutes_X3_findCostsTo
set_option maxRecDepth 20000 in
theorem ggX3_findRoutes_X3_findRoute : GoodIn wsX3_findRoutes wsX3_findRoute := goodIn_r _ [28, 29, 24, 30, 31, 32, 33, 34, 35, 36, 5, 37, 7, 8, 9, 10, 19, 20, 21, 22, 23, 38, 39, 40, 41, 42, 43, 44, 45] (by decide +kernel) (by decide +kernel)
set_option maxRecDepth 20000 in
theorem gX3_findRoutes_X3_findRoute : GoodIn wsX3_findRoutes (wsV RX3 56 RX3 yX3_findRoute wsX3_findRoute) := goodIn_app (goodIn_of _ (by decide +kernel)) ggX3_findRoutes_X3_findRoute
theorem dX3_findRoutes_0 : decode cX3_findRoutes 0 = .ok (.iconst 0, 1) := by decide +kernel
theorem dX3_findRoutes_1 : decode cX3_findRoutes 1 = .ok (.istore_n 1, 1) := by decide +kernel
theorem dX3_findRoutes_2 : decode cX3_findRoutes 2 = .ok (.iload_n 1, 1) := by decide +kernel
theorem dX3_findRoutes_3 : decode cX3_findRoutes 3 = .ok (.aload_n 0, 1) := by decide +kernel
theorem dX3_findRoutes_4 : decode cX3_findRoutes 4 = .ok (.getfield 32, 3) := by decide +kernel
theorem dX3_findRoutes_7 : decode cX3_findRoutes 7 = .ok (.if_icmp .ge 36, 3) := by decide +kernel
theorem dX3_findRoutes_10 : decode cX3_findRoutes 10 = .ok (.aload_n 0, 1) := by decide +kernel
theorem dX3_findRoutes_11 : decode cX3_findRoutes 11 = .ok (.iload_n 1, 1) := by decide +kernel
theorem dX3_findRoutes_12 : decode cX3_findRoutes 12 = .ok (.invokevirtual 52, 3) := by decide +kernel
theorem dX3_findRoutes_15 : decode cX3_findRoutes 15 = .ok (.iconst 0, 1) := by decide +kernel
theorem dX3_findRoutes_16 : decode cX3_findRoutes 16 = .ok (.istore_n 2, 1) := by decide +kernel
theorem dX3_findRoutes_17 : decode cX3_findRoutes 17 = .ok (.iload_n 2, 1) := by decide +kernel
theorem dX3_findRoutes_18 : decode cX3_findRoutes 18 = .ok (.aload_n 0, 1) := by decide +kernel
theorem dX3_findRoutes_19 : decode cX3_findRoutes 19 = .ok (.getfield 32, 3) := by decide +kernel
theorem dX3_findRoutes_22 : decode cX3_findRoutes 22 = .ok (.if_icmp .ge 15, 3) := by decide +kernel
theorem dX3_findRoutes_25 : decode cX3_findRoutes 25 = .ok (.aload_n 0, 1) := by decide +kernel
theorem dX3_findRoutes_26 : decode cX3_findRoutes 26 = .ok (.iload_n 2, 1) := by decide +kernel
theorem dX3_findRoutes_27 : decode cX3_findRoutes 27 = .ok (.iload_n 1, 1) := by decide +kernel
theorem dX3_findRoutes_28 : decode cX3_findRoutes 28 = .ok (.invokevirtual 56, 3) := by decide +kernel
theorem dX3_findRoutes_31 : decode cX3_findRoutes 31 = .ok (.iinc 2 1, 3) := by decide +kernel
theorem dX3_findRoutes_34 : decode cX3_findRoutes 34 = .ok (.goto (-17), 3) := by decide +kernel
theorem dX3_findRoutes_37 : decode cX3_findRoutes 37 = .ok (.iinc 1 1, 3) := by decide +kernel
theorem dX3_findRoutes_40 : decode cX3_findRoutes 40 = .ok (.goto (-38), 3) := by decide +kernel
theorem dX3_findRoutes_43 : decode cX3_findRoutes 43 = .ok (.return_, 1) := by decide +kernel
set_option maxRecDepth 20000 in
theorem ggX3_findCostsTo_J7_fill_53178 : GoodIn wsX3_findCostsTo wsJ7_fill_53178 := goodIn_r _ [12] (by decide +kernel) (by decide +kernel)
set_option maxRecDepth 20000 in
theorem gX3_findCostsTo_J7_fill_53178 : GoodIn wsX3_findCostsTo (va_wsS RX3 39 yJ7_fill_53178 wsJ7_fill_53178) := goodIn_app (goodIn_of _ (by decide +kernel)) ggX3_findCostsTo_J7_fill_53178
set_option maxRecDepth 20000 in
theorem ggX3_findCostsTo_X3_costOver : GoodIn wsX3_findCostsTo wsX3_costOver := goodIn_r _ [17, 18, 1, 19, 20, 21, 22, 23, 24, 25, 26, 27] (by decide +kernel) (by decide +kernel)
set_option maxRecDepth 20000 in
theorem gX3_findCostsTo_X3_costOver : GoodIn wsX3_findCostsTo (wsV RX3 61 RX3 yX3_costOver wsX3_costOver) := goodIn_app (goodIn_of _ (by decide +kernel)) ggX3_findCostsTo_X3_costOver
theorem dX3_findCostsTo_0 : decode cX3_findCostsTo 0 = .ok (.aload_n 0, 1) := by decide +kernel
theorem dX3_findCostsTo_1 : decode cX3_findCostsTo 1 = .ok (.getfield 29, 3) := by decide +kernel
theorem dX3_findCostsTo_4 : decode cX3_findCostsTo 4 = .ok (.ldc 60, 2) := by decide +kernel
theorem dX3_findCostsTo_6 : decode cX3_findCostsTo 6 = .ok (.invokestatic 39, 3) := by decide +kernel
theorem dX3_findCostsTo_9 : decode cX3_findCostsTo 9 = .ok (.aload_n 0, 1) := by decide +kernel
theorem dX3_findCostsTo_10 : decode cX3_findCostsTo 10 = .ok (.getfield 29, 3) := by decide +kernel
theorem dX3_findCostsTo_13 : decode cX3_findCostsTo 13 = .ok (.iload_n 1, 1) := by decide +kernel
theorem dX3_findCostsTo_14 : decode cX3_findCostsTo 14 = .ok (.iconst 0, 1) := by decide +kernel
theorem dX3_findCostsTo_15 : decode cX3_findCostsTo 15 = .ok (.iastore, 1) := by decide +kernel
theorem dX3_findCostsTo_16 : decode cX3_findCostsTo 16 = .ok (.iconst 0, 1) := by decide +kernel
theorem dX3_findCostsTo_17 : decode cX3_findCostsTo 17 = .ok (.istore_n 2, 1) := by decide +kernel
theorem dX3_findCostsTo_18 : decode cX3_findCostsTo 18 = .ok (.iload_n 2, 1) := by decide +kernel
theorem dX3_findCostsTo_19 : decode cX3_findCostsTo 19 = .ok (.iconst 4, 1) := by decide +kernel
theorem dX3_findCostsTo_20 : decode cX3_findCostsTo 20 = .ok (.if_icmp .ge 55, 3) := by decide +kernel
theorem dX3_findCostsTo_23 : decode cX3_findCostsTo 23 = .ok (.iconst 0, 1) := by decide +kernel
theorem dX3_findCostsTo_24 : decode cX3_findCostsTo 24 = .ok (.istore_n 3, 1) := by decide +kernel
theorem dX3_findCostsTo_25 : decode cX3_findCostsTo 25 = .ok (.iload_n 3, 1) := by decide +kernel
theorem dX3_findCostsTo_26 : decode cX3_findCostsTo 26 = .ok (.aload_n 0, 1) := by decide +kernel
theorem dX3_findCostsTo_27 : decode cX3_findCostsTo 27 = .ok (.getfield 36, 3) := by decide +kernel
theorem dX3_findCostsTo_30 : decode cX3_findCostsTo 30 = .ok (.if_icmp .ge 39, 3) := by decide +kernel
theorem dX3_findCostsTo_33 : decode cX3_findCostsTo 33 = .ok (.aload_n 0, 1) := by decide +kernel
theorem dX3_findCostsTo_34 : decode cX3_findCostsTo 34 = .ok (.getfield 9, 3) := by decide +kernel
theorem dX3_findCostsTo_37 : decode cX3_findCostsTo 37 = .ok (.iload_n 3, 1) := by decide +kernel
theorem dX3_findCostsTo_38 : decode cX3_findCostsTo 38 = .ok (.iaload, 1) := by decide +kernel
theorem dX3_findCostsTo_39 : decode cX3_findCostsTo 39 = .ok (.istore 4, 2) := by decide +kernel
theorem dX3_findCostsTo_41 : decode cX3_findCostsTo 41 = .ok (.aload_n 0, 1) := by decide +kernel
theorem dX3_findCostsTo_42 : decode cX3_findCostsTo 42 = .ok (.getfield 29, 3) := by decide +kernel
theorem dX3_findCostsTo_45 : decode cX3_findCostsTo 45 = .ok (.iload 4, 2) := by decide +kernel
theorem dX3_findCostsTo_47 : decode cX3_findCostsTo 47 = .ok (.aload_n 0, 1) := by decide +kernel
theorem dX3_findCostsTo_48 : decode cX3_findCostsTo 48 = .ok (.getfield 29, 3) := by decide +kernel
theorem dX3_findCostsTo_51 : decode cX3_findCostsTo 51 = .ok (.iload 4, 2) := by decide +kernel
theorem dX3_findCostsTo_53 : decode cX3_findCostsTo 53 = .ok (.iaload, 1) := by decide +kernel
theorem dX3_findCostsTo_54 : decode cX3_findCostsTo 54 = .ok (.aload_n 0, 1) := by decide +kernel
theorem dX3_findCostsTo_55 : decode cX3_findCostsTo 55 = .ok (.iload_n 3, 1) := by decide +kernel
theorem dX3_findCostsTo_56 : decode cX3_findCostsTo 56 = .ok (.invokevirtual 61, 3) := by decide +kernel
theorem dX3_findCostsTo_59 : decode cX3_findCostsTo 59 = .ok (.invokestatic 65, 3) := by decide +kernel
theorem dX3_findCostsTo_62 : decode cX3_findCostsTo 62 = .ok (.iastore, 1) := by decide +kernel
theorem dX3_findCostsTo_63 : decode cX3_findCostsTo 63 = .ok (.iinc 3 1, 3) := by decide +kernel
theorem dX3_findCostsTo_66 : decode cX3_findCostsTo 66 = .ok (.goto (-41), 3) := by decide +kernel
theorem dX3_findCostsTo_69 : decode cX3_findCostsTo 69 = .ok (.iinc 2 1, 3) := by decide +kernel
theorem dX3_findCostsTo_72 : decode cX3_findCostsTo 72 = .ok (.goto (-54), 3) := by decide +kernel
theorem dX3_findCostsTo_75 : decode cX3_findCostsTo 75 = .ok (.return_, 1) := by decide +kernel
theorem dX3_costOver_0 : decode cX3_costOver 0 = .ok (.aload_n 0, 1) := by decide +kernel
theorem dX3_costOver_1 : decode cX3_costOver 1 = .ok (.getfield 18, 3) := by decide +kernel
theorem dX3_costOver_4 : decode cX3_costOver 4 = .ok (.iload_n 1, 1) := by decide +kernel
theorem dX3_costOver_5 : decode cX3_costOver 5 = .ok (.iaload, 1) := by decide +kernel
theorem dX3_costOver_6 : decode cX3_costOver 6 = .ok (.bipush 8, 2) := by decide +kernel
theorem dX3_costOver_8 : decode cX3_costOver 8 = .ok (.imul, 1) := by decide +kernel
theorem dX3_costOver_9 : decode cX3_costOver 9 = .ok (.iconst 1, 1) := by decide +kernel
theorem dX3_costOver_10 : decode cX3_costOver 10 = .ok (.iadd, 1) := by decide +kernel
theorem dX3_costOver_11 : decode cX3_costOver 11 = .ok (.aload_n 0, 1) := by decide +kernel
theorem dX3_costOver_12 : decode cX3_costOver 12 = .ok (.getfield 29, 3) := by decide +kernel
theorem dX3_costOver_15 : decode cX3_costOver 15 = .ok (.aload_n 0, 1) := by decide +kernel
theorem dX3_costOver_16 : decode cX3_costOver 16 = .ok (.getfield 15, 3) := by decide +kernel
theorem dX3_costOver_19 : decode cX3_costOver 19 = .ok (.iload_n 1, 1) := by decide +kernel
theorem dX3_costOver_20 : decode cX3_costOver 20 = .ok (.iaload, 1) := by decide +kernel
theorem dX3_costOver_21 : decode cX3_costOver 21 = .ok (.iaload, 1) := by decide +kernel
theorem dX3_costOver_22 : decode cX3_costOver 22 = .ok (.iadd, 1) := by decide +kernel
theorem dX3_costOver_23 : decode cX3_costOver 23 = .ok (.ireturn, 1) := by decide +kernel
set_option maxRecDepth 20000 in
theorem ggX3_findRoute_X4_slotOf : GoodIn wsX3_findRoute wsX4_slotOf := goodIn_r _ [6] (by decide +kernel) (by decide +kernel)
set_option maxRecDepth 20000 in
theorem gX3_findRoute_X4_slotOf_n71 : GoodIn wsX3_findRoute (wsX4_slotOf) := ggX3_findRoute_X4_slotOf
set_option maxRecDepth 20000 in
theorem ggX3_findRoute_X3_cheapestFrom : GoodIn wsX3_findRoute wsX3_cheapestFrom := goodIn_r _ [11, 12, 13, 14, 15, 16, 17, 18, 10, 19, 20, 2, 21, 22, 23, 24, 25, 26, 27, 28] (by decide +kernel) (by decide +kernel)
set_option maxRecDepth 20000 in
theorem gX3_findRoute_X3_cheapestFrom : GoodIn wsX3_findRoute (wsV RX3 74 RX3 yX3_cheapestFrom wsX3_cheapestFrom) := goodIn_app (goodIn_of _ (by decide +kernel)) ggX3_findRoute_X3_cheapestFrom
theorem dX3_findRoute_0 : decode cX3_findRoute 0 = .ok (.iload_n 1, 1) := by decide +kernel
theorem dX3_findRoute_1 : decode cX3_findRoute 1 = .ok (.iload_n 2, 1) := by decide +kernel
theorem dX3_findRoute_2 : decode cX3_findRoute 2 = .ok (.invokestatic 71, 3) := by decide +kernel
theorem dX3_findRoute_5 : decode cX3_findRoute 5 = .ok (.istore_n 3, 1) := by decide +kernel
theorem dX3_findRoute_6 : decode cX3_findRoute 6 = .ok (.iconst 0, 1) := by decide +kernel
theorem dX3_findRoute_7 : decode cX3_findRoute 7 = .ok (.istore 4, 2) := by decide +kernel
theorem dX3_findRoute_9 : decode cX3_findRoute 9 = .ok (.iload_n 1, 1) := by decide +kernel
theorem dX3_findRoute_10 : decode cX3_findRoute 10 = .ok (.istore 5, 2) := by decide +kernel
theorem dX3_findRoute_12 : decode cX3_findRoute 12 = .ok (.iload 5, 2) := by decide +kernel
theorem dX3_findRoute_14 : decode cX3_findRoute 14 = .ok (.iload_n 2, 1) := by decide +kernel
theorem dX3_findRoute_15 : decode cX3_findRoute 15 = .ok (.if_icmp .eq 52, 3) := by decide +kernel
theorem dX3_findRoute_18 : decode cX3_findRoute 18 = .ok (.iload 4, 2) := by decide +kernel
theorem dX3_findRoute_20 : decode cX3_findRoute 20 = .ok (.iconst 4, 1) := by decide +kernel
theorem dX3_findRoute_21 : decode cX3_findRoute 21 = .ok (.if_icmp .ge 46, 3) := by decide +kernel
theorem dX3_findRoute_24 : decode cX3_findRoute 24 = .ok (.aload_n 0, 1) := by decide +kernel
theorem dX3_findRoute_25 : decode cX3_findRoute 25 = .ok (.iload 5, 2) := by decide +kernel
theorem dX3_findRoute_27 : decode cX3_findRoute 27 = .ok (.invokevirtual 74, 3) := by decide +kernel
theorem dX3_findRoute_30 : decode cX3_findRoute 30 = .ok (.istore 6, 2) := by decide +kernel
theorem dX3_findRoute_32 : decode cX3_findRoute 32 = .ok (.iload 6, 2) := by decide +kernel
theorem dX3_findRoute_34 : decode cX3_findRoute 34 = .ok (.iconst (-1), 1) := by decide +kernel
theorem dX3_findRoute_35 : decode cX3_findRoute 35 = .ok (.if_icmp .ne 6, 3) := by decide +kernel
theorem dX3_findRoute_38 : decode cX3_findRoute 38 = .ok (.goto 29, 3) := by decide +kernel
theorem dX3_findRoute_41 : decode cX3_findRoute 41 = .ok (.aload_n 0, 1) := by decide +kernel
theorem dX3_findRoute_42 : decode cX3_findRoute 42 = .ok (.getfield 26, 3) := by decide +kernel
theorem dX3_findRoute_45 : decode cX3_findRoute 45 = .ok (.iload_n 3, 1) := by decide +kernel
theorem dX3_findRoute_46 : decode cX3_findRoute 46 = .ok (.aaload, 1) := by decide +kernel
theorem dX3_findRoute_47 : decode cX3_findRoute 47 = .ok (.iload 4, 2) := by decide +kernel
theorem dX3_findRoute_49 : decode cX3_findRoute 49 = .ok (.iload 6, 2) := by decide +kernel
theorem dX3_findRoute_51 : decode cX3_findRoute 51 = .ok (.iastore, 1) := by decide +kernel
theorem dX3_findRoute_52 : decode cX3_findRoute 52 = .ok (.iinc 4 1, 3) := by decide +kernel
theorem dX3_findRoute_55 : decode cX3_findRoute 55 = .ok (.aload_n 0, 1) := by decide +kernel
theorem dX3_findRoute_56 : decode cX3_findRoute 56 = .ok (.getfield 15, 3) := by decide +kernel
theorem dX3_findRoute_59 : decode cX3_findRoute 59 = .ok (.iload 6, 2) := by decide +kernel
theorem dX3_findRoute_61 : decode cX3_findRoute 61 = .ok (.iaload, 1) := by decide +kernel
theorem dX3_findRoute_62 : decode cX3_findRoute 62 = .ok (.istore 5, 2) := by decide +kernel
theorem dX3_findRoute_64 : decode cX3_findRoute 64 = .ok (.goto (-52), 3) := by decide +kernel
theorem dX3_findRoute_67 : decode cX3_findRoute 67 = .ok (.aload_n 0, 1) := by decide +kernel
theorem dX3_findRoute_68 : decode cX3_findRoute 68 = .ok (.getfield 21, 3) := by decide +kernel
theorem dX3_findRoute_71 : decode cX3_findRoute 71 = .ok (.iload_n 3, 1) := by decide +kernel
theorem dX3_findRoute_72 : decode cX3_findRoute 72 = .ok (.iload 5, 2) := by decide +kernel
theorem dX3_findRoute_74 : decode cX3_findRoute 74 = .ok (.iload_n 2, 1) := by decide +kernel
theorem dX3_findRoute_75 : decode cX3_findRoute 75 = .ok (.if_icmp .ne 8, 3) := by decide +kernel
theorem dX3_findRoute_78 : decode cX3_findRoute 78 = .ok (.iload 4, 2) := by decide +kernel
theorem dX3_findRoute_80 : decode cX3_findRoute 80 = .ok (.goto 4, 3) := by decide +kernel
theorem dX3_findRoute_83 : decode cX3_findRoute 83 = .ok (.iconst 0, 1) := by decide +kernel
theorem dX3_findRoute_84 : decode cX3_findRoute 84 = .ok (.iastore, 1) := by decide +kernel
theorem dX3_findRoute_85 : decode cX3_findRoute 85 = .ok (.return_, 1) := by decide +kernel
set_option maxRecDepth 20000 in
theorem ggX3_cheapestFrom_X3_costOver : GoodIn wsX3_cheapestFrom wsX3_costOver := goodIn_r _ [9, 10, 1, 11, 12, 13, 14, 15, 16, 17, 18, 19] (by decide +kernel) (by decide +kernel)
set_option maxRecDepth 20000 in
theorem gX3_cheapestFrom_X3_costOver : GoodIn wsX3_cheapestFrom (wsV RX3 61 RX3 yX3_costOver wsX3_costOver) := goodIn_app (goodIn_of _ (by decide +kernel)) ggX3_cheapestFrom_X3_costOver
theorem dX3_cheapestFrom_0 : decode cX3_cheapestFrom 0 = .ok (.aload_n 0, 1) := by decide +kernel
theorem dX3_cheapestFrom_1 : decode cX3_cheapestFrom 1 = .ok (.getfield 29, 3) := by decide +kernel
theorem dX3_cheapestFrom_4 : decode cX3_cheapestFrom 4 = .ok (.iload_n 1, 1) := by decide +kernel
theorem dX3_cheapestFrom_5 : decode cX3_cheapestFrom 5 = .ok (.iaload, 1) := by decide +kernel
theorem dX3_cheapestFrom_6 : decode cX3_cheapestFrom 6 = .ok (.ldc 60, 2) := by decide +kernel
theorem dX3_cheapestFrom_8 : decode cX3_cheapestFrom 8 = .ok (.if_icmp .lt 5, 3) := by decide +kernel
theorem dX3_cheapestFrom_11 : decode cX3_cheapestFrom 11 = .ok (.iconst (-1), 1) := by decide +kernel
theorem dX3_cheapestFrom_12 : decode cX3_cheapestFrom 12 = .ok (.ireturn, 1) := by decide +kernel
theorem dX3_cheapestFrom_13 : decode cX3_cheapestFrom 13 = .ok (.iconst 0, 1) := by decide +kernel
theorem dX3_cheapestFrom_14 : decode cX3_cheapestFrom 14 = .ok (.istore_n 2, 1) := by decide +kernel
theorem dX3_cheapestFrom_15 : decode cX3_cheapestFrom 15 = .ok (.iload_n 2, 1) := by decide +kernel
theorem dX3_cheapestFrom_16 : decode cX3_cheapestFrom 16 = .ok (.aload_n 0, 1) := by decide +kernel
theorem dX3_cheapestFrom_17 : decode cX3_cheapestFrom 17 = .ok (.getfield 36, 3) := by decide +kernel
theorem dX3_cheapestFrom_20 : decode cX3_cheapestFrom 20 = .ok (.if_icmp .ge 35, 3) := by decide +kernel
theorem dX3_cheapestFrom_23 : decode cX3_cheapestFrom 23 = .ok (.aload_n 0, 1) := by decide +kernel
theorem dX3_cheapestFrom_24 : decode cX3_cheapestFrom 24 = .ok (.getfield 9, 3) := by decide +kernel
theorem dX3_cheapestFrom_27 : decode cX3_cheapestFrom 27 = .ok (.iload_n 2, 1) := by decide +kernel
theorem dX3_cheapestFrom_28 : decode cX3_cheapestFrom 28 = .ok (.iaload, 1) := by decide +kernel
theorem dX3_cheapestFrom_29 : decode cX3_cheapestFrom 29 = .ok (.iload_n 1, 1) := by decide +kernel
theorem dX3_cheapestFrom_30 : decode cX3_cheapestFrom 30 = .ok (.if_icmp .ne 19, 3) := by decide +kernel
theorem dX3_cheapestFrom_33 : decode cX3_cheapestFrom 33 = .ok (.aload_n 0, 1) := by decide +kernel
theorem dX3_cheapestFrom_34 : decode cX3_cheapestFrom 34 = .ok (.iload_n 2, 1) := by decide +kernel
theorem dX3_cheapestFrom_35 : decode cX3_cheapestFrom 35 = .ok (.invokevirtual 61, 3) := by decide +kernel
theorem dX3_cheapestFrom_38 : decode cX3_cheapestFrom 38 = .ok (.aload_n 0, 1) := by decide +kernel
theorem dX3_cheapestFrom_39 : decode cX3_cheapestFrom 39 = .ok (.getfield 29, 3) := by decide +kernel
theorem dX3_cheapestFrom_42 : decode cX3_cheapestFrom 42 = .ok (.iload_n 1, 1) := by decide +kernel
theorem dX3_cheapestFrom_43 : decode cX3_cheapestFrom 43 = .ok (.iaload, 1) := by decide +kernel
theorem dX3_cheapestFrom_44 : decode cX3_cheapestFrom 44 = .ok (.if_icmp .ne 5, 3) := by decide +kernel
theorem dX3_cheapestFrom_47 : decode cX3_cheapestFrom 47 = .ok (.iload_n 2, 1) := by decide +kernel
theorem dX3_cheapestFrom_48 : decode cX3_cheapestFrom 48 = .ok (.ireturn, 1) := by decide +kernel
theorem dX3_cheapestFrom_49 : decode cX3_cheapestFrom 49 = .ok (.iinc 2 1, 3) := by decide +kernel
theorem dX3_cheapestFrom_52 : decode cX3_cheapestFrom 52 = .ok (.goto (-37), 3) := by decide +kernel
theorem dX3_cheapestFrom_55 : decode cX3_cheapestFrom 55 = .ok (.iconst (-1), 1) := by decide +kernel
theorem dX3_cheapestFrom_56 : decode cX3_cheapestFrom 56 = .ok (.ireturn, 1) := by decide +kernel
theorem dJ9_abs_067f4_0 : decode cJ9_abs_067f4 0 = .ok (.lload_n 0, 1) := by decide +kernel
theorem dJ9_abs_067f4_1 : decode cJ9_abs_067f4 1 = .ok (.lconst 0, 1) := by decide +kernel
theorem dJ9_abs_067f4_2 : decode cJ9_abs_067f4 2 = .ok (.lcmp, 1) := by decide +kernel
theorem dJ9_abs_067f4_3 : decode cJ9_abs_067f4 3 = .ok (.ifCond .ge 8, 3) := by decide +kernel
theorem dJ9_abs_067f4_6 : decode cJ9_abs_067f4 6 = .ok (.lload_n 0, 1) := by decide +kernel
theorem dJ9_abs_067f4_7 : decode cJ9_abs_067f4 7 = .ok (.lneg, 1) := by decide +kernel
theorem dJ9_abs_067f4_8 : decode cJ9_abs_067f4 8 = .ok (.goto 4, 3) := by decide +kernel
theorem dJ9_abs_067f4_11 : decode cJ9_abs_067f4 11 = .ok (.lload_n 0, 1) := by decide +kernel
theorem dJ9_abs_067f4_12 : decode cJ9_abs_067f4 12 = .ok (.lreturn, 1) := by decide +kernel
theorem dJ9_min_7cf53_0 : decode cJ9_min_7cf53 0 = .ok (.iload_n 0, 1) := by decide +kernel
theorem dJ9_min_7cf53_1 : decode cJ9_min_7cf53 1 = .ok (.iload_n 1, 1) := by decide +kernel
theorem dJ9_min_7cf53_2 : decode cJ9_min_7cf53 2 = .ok (.if_icmp .gt 7, 3) := by decide +kernel
theorem dJ9_min_7cf53_5 : decode cJ9_min_7cf53 5 = .ok (.iload_n 0, 1) := by decide +kernel
theorem dJ9_min_7cf53_6 : decode cJ9_min_7cf53 6 = .ok (.goto 4, 3) := by decide +kernel
theorem dJ9_min_7cf53_9 : decode cJ9_min_7cf53 9 = .ok (.iload_n 1, 1) := by decide +kernel
theorem dJ9_min_7cf53_10 : decode cJ9_min_7cf53 10 = .ok (.ireturn, 1) := by decide +kernel
theorem dJ7_fill_d0a16_0 : decode cJ7_fill_d0a16 0 = .ok (.iconst 0, 1) := by decide +kernel
theorem dJ7_fill_d0a16_1 : decode cJ7_fill_d0a16 1 = .ok (.istore_n 3, 1) := by decide +kernel
theorem dJ7_fill_d0a16_2 : decode cJ7_fill_d0a16 2 = .ok (.aload_n 0, 1) := by decide +kernel
theorem dJ7_fill_d0a16_3 : decode cJ7_fill_d0a16 3 = .ok (.arraylength, 1) := by decide +kernel
theorem dJ7_fill_d0a16_4 : decode cJ7_fill_d0a16 4 = .ok (.istore 4, 2) := by decide +kernel
theorem dJ7_fill_d0a16_6 : decode cJ7_fill_d0a16 6 = .ok (.iload_n 3, 1) := by decide +kernel
theorem dJ7_fill_d0a16_7 : decode cJ7_fill_d0a16 7 = .ok (.iload 4, 2) := by decide +kernel
theorem dJ7_fill_d0a16_9 : decode cJ7_fill_d0a16 9 = .ok (.if_icmp .ge 13, 3) := by decide +kernel
theorem dJ7_fill_d0a16_12 : decode cJ7_fill_d0a16 12 = .ok (.aload_n 0, 1) := by decide +kernel
theorem dJ7_fill_d0a16_13 : decode cJ7_fill_d0a16 13 = .ok (.iload_n 3, 1) := by decide +kernel
theorem dJ7_fill_d0a16_14 : decode cJ7_fill_d0a16 14 = .ok (.lload_n 1, 1) := by decide +kernel
theorem dJ7_fill_d0a16_15 : decode cJ7_fill_d0a16 15 = .ok (.lastore, 1) := by decide +kernel
theorem dJ7_fill_d0a16_16 : decode cJ7_fill_d0a16 16 = .ok (.iinc 3 1, 3) := by decide +kernel
theorem dJ7_fill_d0a16_19 : decode cJ7_fill_d0a16 19 = .ok (.goto (-13), 3) := by decide +kernel
theorem dJ7_fill_d0a16_22 : decode cJ7_fill_d0a16 22 = .ok (.return_, 1) := by decide +kernel
theorem dJ7_fill_53178_0 : decode cJ7_fill_53178 0 = .ok (.iconst 0, 1) := by decide +kernel
theorem dJ7_fill_53178_1 : decode cJ7_fill_53178 1 = .ok (.istore_n 2, 1) := by decide +kernel
theorem dJ7_fill_53178_2 : decode cJ7_fill_53178 2 = .ok (.aload_n 0, 1) := by decide +kernel
theorem dJ7_fill_53178_3 : decode cJ7_fill_53178 3 = .ok (.arraylength, 1) := by decide +kernel
theorem dJ7_fill_53178_4 : decode cJ7_fill_53178 4 = .ok (.istore_n 3, 1) := by decide +kernel
theorem dJ7_fill_53178_5 : decode cJ7_fill_53178 5 = .ok (.iload_n 2, 1) := by decide +kernel
theorem dJ7_fill_53178_6 : decode cJ7_fill_53178 6 = .ok (.iload_n 3, 1) := by decide +kernel
theorem dJ7_fill_53178_7 : decode cJ7_fill_53178 7 = .ok (.if_icmp .ge 13, 3) := by decide +kernel
theorem dJ7_fill_53178_10 : decode cJ7_fill_53178 10 = .ok (.aload_n 0, 1) := by decide +kernel
theorem dJ7_fill_53178_11 : decode cJ7_fill_53178 11 = .ok (.iload_n 2, 1) := by decide +kernel
theorem dJ7_fill_53178_12 : decode cJ7_fill_53178 12 = .ok (.iload_n 1, 1) := by decide +kernel
theorem dJ7_fill_53178_13 : decode cJ7_fill_53178 13 = .ok (.iastore, 1) := by decide +kernel
theorem dJ7_fill_53178_14 : decode cJ7_fill_53178 14 = .ok (.iinc 2 1, 3) := by decide +kernel
theorem dJ7_fill_53178_17 : decode cJ7_fill_53178 17 = .ok (.goto (-12), 3) := by decide +kernel
theorem dJ7_fill_53178_20 : decode cJ7_fill_53178 20 = .ok (.return_, 1) := by decide +kernel
