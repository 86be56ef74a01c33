theorem dX5_common_0 : decode cX5_common 0 = .ok (.lload_n 0, 1) := by decide +kernel
theorem dX5_common_1 : decode cX5_common 1 = .ok (.lconst 0, 1) := by decide +kernel
theorem dX5_common_2 : decode cX5_common 2 = .ok (.lcmp, 1) := by decide +kernel
theorem dX5_common_3 : decode cX5_common 3 = .ok (.ifCond .ge 8, 3) := by decide +kernel
theorem dX5_common_6 : decode cX5_common 6 = .ok (.lload_n 0, 1) := by decide +kernel
theorem dX5_common_7 : decode cX5_common 7 = .ok (.lneg, 1) := by decide +kernel
theorem dX5_common_8 : decode cX5_common 8 = .ok (.goto 4, 3) := by decide +kernel
theorem dX5_common_11 : decode cX5_common 11 = .ok (.lload_n 0, 1) := by decide +kernel
theorem dX5_common_12 : decode cX5_common 12 = .ok (.lstore 4, 2) := by decide +kernel
theorem dX5_common_14 : decode cX5_common 14 = .ok (.lload_n 2, 1) := by decide +kernel
theorem dX5_common_15 : decode cX5_common 15 = .ok (.lconst 0, 1) := by decide +kernel
theorem dX5_common_16 : decode cX5_common 16 = .ok (.lcmp, 1) := by decide +kernel
theorem dX5_common_17 : decode cX5_common 17 = .ok (.ifCond .ge 8, 3) := by decide +kernel
theorem dX5_common_20 : decode cX5_common 20 = .ok (.lload_n 2, 1) := by decide +kernel
theorem dX5_common_21 : decode cX5_common 21 = .ok (.lneg, 1) := by decide +kernel
theorem dX5_common_22 : decode cX5_common 22 = .ok (.goto 4, 3) := by decide +kernel
theorem dX5_common_25 : decode cX5_common 25 = .ok (.lload_n 2, 1) := by decide +kernel
theorem dX5_common_26 : decode cX5_common 26 = .ok (.lstore 6, 2) := by decide +kernel
theorem dX5_common_28 : decode cX5_common 28 = .ok (.lload 6, 2) := by decide +kernel
theorem dX5_common_30 : decode cX5_common 30 = .ok (.lconst 0, 1) := by decide +kernel
theorem dX5_common_31 : decode cX5_common 31 = .ok (.lcmp, 1) := by decide +kernel
theorem dX5_common_32 : decode cX5_common 32 = .ok (.ifCond .eq 21, 3) := by decide +kernel
theorem dX5_common_35 : decode cX5_common 35 = .ok (.lload 4, 2) := by decide +kernel
theorem dX5_common_37 : decode cX5_common 37 = .ok (.lload 6, 2) := by decide +kernel
theorem dX5_common_39 : decode cX5_common 39 = .ok (.lrem, 1) := by decide +kernel
theorem dX5_common_40 : decode cX5_common 40 = .ok (.lstore 8, 2) := by decide +kernel
theorem dX5_common_42 : decode cX5_common 42 = .ok (.lload 6, 2) := by decide +kernel
theorem dX5_common_44 : decode cX5_common 44 = .ok (.lstore 4, 2) := by decide +kernel
theorem dX5_common_46 : decode cX5_common 46 = .ok (.lload 8, 2) := by decide +kernel
theorem dX5_common_48 : decode cX5_common 48 = .ok (.lstore 6, 2) := by decide +kernel
theorem dX5_common_50 : decode cX5_common 50 = .ok (.goto (-22), 3) := by decide +kernel
theorem dX5_common_53 : decode cX5_common 53 = .ok (.lload 4, 2) := by decide +kernel
theorem dX5_common_55 : decode cX5_common 55 = .ok (.lreturn, 1) := by decide +kernel
set_option maxRecDepth 20000 in
theorem ggX5_shortens_X5_common : GoodIn wsX5_shortens wsX5_common := goodIn_r _ [5] (by decide +kernel) (by decide +kernel)
set_option maxRecDepth 20000 in
theorem gX5_shortens_X5_common : GoodIn wsX5_shortens (va_wsS RX5 116 yX5_common wsX5_common) := goodIn_app (goodIn_of _ (by decide +kernel)) ggX5_shortens_X5_common
theorem dX5_shortens_0 : decode cX5_shortens 0 = .ok (.lconst 0, 1) := by decide +kernel
theorem dX5_shortens_1 : decode cX5_shortens 1 = .ok (.lstore_n 2, 1) := by decide +kernel
theorem dX5_shortens_2 : decode cX5_shortens 2 = .ok (.iconst 0, 1) := by decide +kernel
theorem dX5_shortens_3 : decode cX5_shortens 3 = .ok (.istore 4, 2) := by decide +kernel
theorem dX5_shortens_5 : decode cX5_shortens 5 = .ok (.iload 4, 2) := by decide +kernel
theorem dX5_shortens_7 : decode cX5_shortens 7 = .ok (.bipush 26, 2) := by decide +kernel
theorem dX5_shortens_9 : decode cX5_shortens 9 = .ok (.if_icmp .ge 26, 3) := by decide +kernel
theorem dX5_shortens_12 : decode cX5_shortens 12 = .ok (.lload_n 2, 1) := by decide +kernel
theorem dX5_shortens_13 : decode cX5_shortens 13 = .ok (.aload_n 0, 1) := by decide +kernel
theorem dX5_shortens_14 : decode cX5_shortens 14 = .ok (.getfield 48, 3) := by decide +kernel
theorem dX5_shortens_17 : decode cX5_shortens 17 = .ok (.bipush 26, 2) := by decide +kernel
theorem dX5_shortens_19 : decode cX5_shortens 19 = .ok (.iload_n 1, 1) := by decide +kernel
theorem dX5_shortens_20 : decode cX5_shortens 20 = .ok (.imul, 1) := by decide +kernel
theorem dX5_shortens_21 : decode cX5_shortens 21 = .ok (.iload 4, 2) := by decide +kernel
theorem dX5_shortens_23 : decode cX5_shortens 23 = .ok (.iadd, 1) := by decide +kernel
theorem dX5_shortens_24 : decode cX5_shortens 24 = .ok (.laload, 1) := by decide +kernel
theorem dX5_shortens_25 : decode cX5_shortens 25 = .ok (.invokestatic 116, 3) := by decide +kernel
theorem dX5_shortens_28 : decode cX5_shortens 28 = .ok (.lstore_n 2, 1) := by decide +kernel
theorem dX5_shortens_29 : decode cX5_shortens 29 = .ok (.iinc 4 1, 3) := by decide +kernel
theorem dX5_shortens_32 : decode cX5_shortens 32 = .ok (.goto (-27), 3) := by decide +kernel
theorem dX5_shortens_35 : decode cX5_shortens 35 = .ok (.iconst 0, 1) := by decide +kernel
theorem dX5_shortens_36 : decode cX5_shortens 36 = .ok (.istore 4, 2) := by decide +kernel
theorem dX5_shortens_38 : decode cX5_shortens 38 = .ok (.iload 4, 2) := by decide +kernel
theorem dX5_shortens_40 : decode cX5_shortens 40 = .ok (.bipush 26, 2) := by decide +kernel
theorem dX5_shortens_42 : decode cX5_shortens 42 = .ok (.if_icmp .ge 31, 3) := by decide +kernel
theorem dX5_shortens_45 : decode cX5_shortens 45 = .ok (.lload_n 2, 1) := by decide +kernel
theorem dX5_shortens_46 : decode cX5_shortens 46 = .ok (.lconst 1, 1) := by decide +kernel
theorem dX5_shortens_47 : decode cX5_shortens 47 = .ok (.lcmp, 1) := by decide +kernel
theorem dX5_shortens_48 : decode cX5_shortens 48 = .ok (.ifCond .le 25, 3) := by decide +kernel
theorem dX5_shortens_51 : decode cX5_shortens 51 = .ok (.aload_n 0, 1) := by decide +kernel
theorem dX5_shortens_52 : decode cX5_shortens 52 = .ok (.getfield 48, 3) := by decide +kernel
theorem dX5_shortens_55 : decode cX5_shortens 55 = .ok (.bipush 26, 2) := by decide +kernel
theorem dX5_shortens_57 : decode cX5_shortens 57 = .ok (.iload_n 1, 1) := by decide +kernel
theorem dX5_shortens_58 : decode cX5_shortens 58 = .ok (.imul, 1) := by decide +kernel
theorem dX5_shortens_59 : decode cX5_shortens 59 = .ok (.iload 4, 2) := by decide +kernel
theorem dX5_shortens_61 : decode cX5_shortens 61 = .ok (.iadd, 1) := by decide +kernel
theorem dX5_shortens_62 : decode cX5_shortens 62 = .ok (.dup2, 1) := by decide +kernel
theorem dX5_shortens_63 : decode cX5_shortens 63 = .ok (.laload, 1) := by decide +kernel
theorem dX5_shortens_64 : decode cX5_shortens 64 = .ok (.lload_n 2, 1) := by decide +kernel
theorem dX5_shortens_65 : decode cX5_shortens 65 = .ok (.ldiv, 1) := by decide +kernel
theorem dX5_shortens_66 : decode cX5_shortens 66 = .ok (.lastore, 1) := by decide +kernel
theorem dX5_shortens_67 : decode cX5_shortens 67 = .ok (.iinc 4 1, 3) := by decide +kernel
theorem dX5_shortens_70 : decode cX5_shortens 70 = .ok (.goto (-32), 3) := by decide +kernel
theorem dX5_shortens_73 : decode cX5_shortens 73 = .ok (.return_, 1) := by decide +kernel
theorem dX5_exchanges_0 : decode cX5_exchanges 0 = .ok (.iconst 0, 1) := by decide +kernel
theorem dX5_exchanges_1 : decode cX5_exchanges 1 = .ok (.istore_n 3, 1) := by decide +kernel
theorem dX5_exchanges_2 : decode cX5_exchanges 2 = .ok (.iload_n 3, 1) := by decide +kernel
theorem dX5_exchanges_3 : decode cX5_exchanges 3 = .ok (.bipush 26, 2) := by decide +kernel
theorem dX5_exchanges_5 : decode cX5_exchanges 5 = .ok (.if_icmp .ge 57, 3) := by decide +kernel
theorem dX5_exchanges_8 : decode cX5_exchanges 8 = .ok (.aload_n 0, 1) := by decide +kernel
theorem dX5_exchanges_9 : decode cX5_exchanges 9 = .ok (.getfield 48, 3) := by decide +kernel
theorem dX5_exchanges_12 : decode cX5_exchanges 12 = .ok (.bipush 26, 2) := by decide +kernel
theorem dX5_exchanges_14 : decode cX5_exchanges 14 = .ok (.iload_n 1, 1) := by decide +kernel
theorem dX5_exchanges_15 : decode cX5_exchanges 15 = .ok (.imul, 1) := by decide +kernel
theorem dX5_exchanges_16 : decode cX5_exchanges 16 = .ok (.iload_n 3, 1) := by decide +kernel
theorem dX5_exchanges_17 : decode cX5_exchanges 17 = .ok (.iadd, 1) := by decide +kernel
theorem dX5_exchanges_18 : decode cX5_exchanges 18 = .ok (.laload, 1) := by decide +kernel
theorem dX5_exchanges_19 : decode cX5_exchanges 19 = .ok (.lstore 4, 2) := by decide +kernel
theorem dX5_exchanges_21 : decode cX5_exchanges 21 = .ok (.aload_n 0, 1) := by decide +kernel
theorem dX5_exchanges_22 : decode cX5_exchanges 22 = .ok (.getfield 48, 3) := by decide +kernel
theorem dX5_exchanges_25 : decode cX5_exchanges 25 = .ok (.bipush 26, 2) := by decide +kernel
theorem dX5_exchanges_27 : decode cX5_exchanges 27 = .ok (.iload_n 1, 1) := by decide +kernel
theorem dX5_exchanges_28 : decode cX5_exchanges 28 = .ok (.imul, 1) := by decide +kernel
theorem dX5_exchanges_29 : decode cX5_exchanges 29 = .ok (.iload_n 3, 1) := by decide +kernel
theorem dX5_exchanges_30 : decode cX5_exchanges 30 = .ok (.iadd, 1) := by decide +kernel
theorem dX5_exchanges_31 : decode cX5_exchanges 31 = .ok (.aload_n 0, 1) := by decide +kernel
theorem dX5_exchanges_32 : decode cX5_exchanges 32 = .ok (.getfield 48, 3) := by decide +kernel
theorem dX5_exchanges_35 : decode cX5_exchanges 35 = .ok (.bipush 26, 2) := by decide +kernel
theorem dX5_exchanges_37 : decode cX5_exchanges 37 = .ok (.iload_n 2, 1) := by decide +kernel
theorem dX5_exchanges_38 : decode cX5_exchanges 38 = .ok (.imul, 1) := by decide +kernel
theorem dX5_exchanges_39 : decode cX5_exchanges 39 = .ok (.iload_n 3, 1) := by decide +kernel
theorem dX5_exchanges_40 : decode cX5_exchanges 40 = .ok (.iadd, 1) := by decide +kernel
theorem dX5_exchanges_41 : decode cX5_exchanges 41 = .ok (.laload, 1) := by decide +kernel
theorem dX5_exchanges_42 : decode cX5_exchanges 42 = .ok (.lastore, 1) := by decide +kernel
theorem dX5_exchanges_43 : decode cX5_exchanges 43 = .ok (.aload_n 0, 1) := by decide +kernel
theorem dX5_exchanges_44 : decode cX5_exchanges 44 = .ok (.getfield 48, 3) := by decide +kernel
theorem dX5_exchanges_47 : decode cX5_exchanges 47 = .ok (.bipush 26, 2) := by decide +kernel
theorem dX5_exchanges_49 : decode cX5_exchanges 49 = .ok (.iload_n 2, 1) := by decide +kernel
theorem dX5_exchanges_50 : decode cX5_exchanges 50 = .ok (.imul, 1) := by decide +kernel
theorem dX5_exchanges_51 : decode cX5_exchanges 51 = .ok (.iload_n 3, 1) := by decide +kernel
theorem dX5_exchanges_52 : decode cX5_exchanges 52 = .ok (.iadd, 1) := by decide +kernel
theorem dX5_exchanges_53 : decode cX5_exchanges 53 = .ok (.lload 4, 2) := by decide +kernel
theorem dX5_exchanges_55 : decode cX5_exchanges 55 = .ok (.lastore, 1) := by decide +kernel
theorem dX5_exchanges_56 : decode cX5_exchanges 56 = .ok (.iinc 3 1, 3) := by decide +kernel
theorem dX5_exchanges_59 : decode cX5_exchanges 59 = .ok (.goto (-57), 3) := by decide +kernel
theorem dX5_exchanges_62 : decode cX5_exchanges 62 = .ok (.return_, 1) := by decide +kernel
set_option maxRecDepth 20000 in
theorem ggX5_clears_X5_shortens : GoodIn wsX5_clears wsX5_shortens := goodIn_r _ [6, 1, 7, 8, 5, 9, 10, 11, 12, 13, 14, 15, 16, 17, 18, 19, 20, 21, 22, 23, 24, 25, 26, 27, 28, 29] (by decide +kernel) (by decide +kernel)
set_option maxRecDepth 20000 in
theorem gX5_clears_X5_shortens : GoodIn wsX5_clears (wsV RX5 120 RX5 yX5_shortens wsX5_shortens) := goodIn_app (goodIn_of _ (by decide +kernel)) ggX5_clears_X5_shortens
theorem dX5_clears_0 : decode cX5_clears 0 = .ok (.aload_n 0, 1) := by decide +kernel
theorem dX5_clears_1 : decode cX5_clears 1 = .ok (.getfield 48, 3) := by decide +kernel
theorem dX5_clears_4 : decode cX5_clears 4 = .ok (.bipush 26, 2) := by decide +kernel
theorem dX5_clears_6 : decode cX5_clears 6 = .ok (.iload_n 1, 1) := by decide +kernel
theorem dX5_clears_7 : decode cX5_clears 7 = .ok (.imul, 1) := by decide +kernel
theorem dX5_clears_8 : decode cX5_clears 8 = .ok (.iload_n 2, 1) := by decide +kernel
theorem dX5_clears_9 : decode cX5_clears 9 = .ok (.iadd, 1) := by decide +kernel
theorem dX5_clears_10 : decode cX5_clears 10 = .ok (.laload, 1) := by decide +kernel
theorem dX5_clears_11 : decode cX5_clears 11 = .ok (.lstore 4, 2) := by decide +kernel
theorem dX5_clears_13 : decode cX5_clears 13 = .ok (.aload_n 0, 1) := by decide +kernel
theorem dX5_clears_14 : decode cX5_clears 14 = .ok (.getfield 48, 3) := by decide +kernel
theorem dX5_clears_17 : decode cX5_clears 17 = .ok (.bipush 26, 2) := by decide +kernel
theorem dX5_clears_19 : decode cX5_clears 19 = .ok (.iload_n 3, 1) := by decide +kernel
theorem dX5_clears_20 : decode cX5_clears 20 = .ok (.imul, 1) := by decide +kernel
theorem dX5_clears_21 : decode cX5_clears 21 = .ok (.iload_n 2, 1) := by decide +kernel
theorem dX5_clears_22 : decode cX5_clears 22 = .ok (.iadd, 1) := by decide +kernel
theorem dX5_clears_23 : decode cX5_clears 23 = .ok (.laload, 1) := by decide +kernel
theorem dX5_clears_24 : decode cX5_clears 24 = .ok (.lstore 6, 2) := by decide +kernel
theorem dX5_clears_26 : decode cX5_clears 26 = .ok (.iconst 0, 1) := by decide +kernel
theorem dX5_clears_27 : decode cX5_clears 27 = .ok (.istore 8, 2) := by decide +kernel
theorem dX5_clears_29 : decode cX5_clears 29 = .ok (.iload 8, 2) := by decide +kernel
theorem dX5_clears_31 : decode cX5_clears 31 = .ok (.bipush 26, 2) := by decide +kernel
theorem dX5_clears_33 : decode cX5_clears 33 = .ok (.if_icmp .ge 59, 3) := by decide +kernel
theorem dX5_clears_36 : decode cX5_clears 36 = .ok (.lload 6, 2) := by decide +kernel
theorem dX5_clears_38 : decode cX5_clears 38 = .ok (.lconst 0, 1) := by decide +kernel
theorem dX5_clears_39 : decode cX5_clears 39 = .ok (.lcmp, 1) := by decide +kernel
theorem dX5_clears_40 : decode cX5_clears 40 = .ok (.ifCond .eq 52, 3) := by decide +kernel
theorem dX5_clears_43 : decode cX5_clears 43 = .ok (.aload_n 0, 1) := by decide +kernel
theorem dX5_clears_44 : decode cX5_clears 44 = .ok (.getfield 48, 3) := by decide +kernel
theorem dX5_clears_47 : decode cX5_clears 47 = .ok (.bipush 26, 2) := by decide +kernel
theorem dX5_clears_49 : decode cX5_clears 49 = .ok (.iload_n 3, 1) := by decide +kernel
theorem dX5_clears_50 : decode cX5_clears 50 = .ok (.imul, 1) := by decide +kernel
theorem dX5_clears_51 : decode cX5_clears 51 = .ok (.iload 8, 2) := by decide +kernel
theorem dX5_clears_53 : decode cX5_clears 53 = .ok (.iadd, 1) := by decide +kernel
theorem dX5_clears_54 : decode cX5_clears 54 = .ok (.aload_n 0, 1) := by decide +kernel
theorem dX5_clears_55 : decode cX5_clears 55 = .ok (.getfield 48, 3) := by decide +kernel
theorem dX5_clears_58 : decode cX5_clears 58 = .ok (.bipush 26, 2) := by decide +kernel
theorem dX5_clears_60 : decode cX5_clears 60 = .ok (.iload_n 3, 1) := by decide +kernel
theorem dX5_clears_61 : decode cX5_clears 61 = .ok (.imul, 1) := by decide +kernel
theorem dX5_clears_62 : decode cX5_clears 62 = .ok (.iload 8, 2) := by decide +kernel
theorem dX5_clears_64 : decode cX5_clears 64 = .ok (.iadd, 1) := by decide +kernel
theorem dX5_clears_65 : decode cX5_clears 65 = .ok (.laload, 1) := by decide +kernel
theorem dX5_clears_66 : decode cX5_clears 66 = .ok (.lload 4, 2) := by decide +kernel
theorem dX5_clears_68 : decode cX5_clears 68 = .ok (.lmul, 1) := by decide +kernel
theorem dX5_clears_69 : decode cX5_clears 69 = .ok (.aload_n 0, 1) := by decide +kernel
theorem dX5_clears_70 : decode cX5_clears 70 = .ok (.getfield 48, 3) := by decide +kernel
theorem dX5_clears_73 : decode cX5_clears 73 = .ok (.bipush 26, 2) := by decide +kernel
theorem dX5_clears_75 : decode cX5_clears 75 = .ok (.iload_n 1, 1) := by decide +kernel
theorem dX5_clears_76 : decode cX5_clears 76 = .ok (.imul, 1) := by decide +kernel
theorem dX5_clears_77 : decode cX5_clears 77 = .ok (.iload 8, 2) := by decide +kernel
theorem dX5_clears_79 : decode cX5_clears 79 = .ok (.iadd, 1) := by decide +kernel
theorem dX5_clears_80 : decode cX5_clears 80 = .ok (.laload, 1) := by decide +kernel
theorem dX5_clears_81 : decode cX5_clears 81 = .ok (.lload 6, 2) := by decide +kernel
theorem dX5_clears_83 : decode cX5_clears 83 = .ok (.lmul, 1) := by decide +kernel
theorem dX5_clears_84 : decode cX5_clears 84 = .ok (.lsub, 1) := by decide +kernel
theorem dX5_clears_85 : decode cX5_clears 85 = .ok (.lastore, 1) := by decide +kernel
theorem dX5_clears_86 : decode cX5_clears 86 = .ok (.iinc 8 1, 3) := by decide +kernel
theorem dX5_clears_89 : decode cX5_clears 89 = .ok (.goto (-60), 3) := by decide +kernel
theorem dX5_clears_92 : decode cX5_clears 92 = .ok (.aload_n 0, 1) := by decide +kernel
theorem dX5_clears_93 : decode cX5_clears 93 = .ok (.iload_n 3, 1) := by decide +kernel
theorem dX5_clears_94 : decode cX5_clears 94 = .ok (.invokevirtual 120, 3) := by decide +kernel
theorem dX5_clears_97 : decode cX5_clears 97 = .ok (.return_, 1) := by decide +kernel
set_option maxRecDepth 20000 in
theorem ggX5_reduces_X5_laysOut : GoodIn wsX5_reduces wsX5_laysOut := goodIn_r _ [9, 10, 4, 11, 2, 12, 3, 13, 14, 15, 16, 8, 17, 18, 19, 20, 21, 22, 38, 39, 40, 41, 42, 43, 44, 45, 46, 47, 48, 49, 50, 51, 52, 53, 54, 55, 56, 57] (by decide +kernel) (by decide +kernel)
set_option maxRecDepth 20000 in
theorem gX5_reduces_X5_laysOut : GoodIn wsX5_reduces (wsV RX5 124 RX5 yX5_laysOut wsX5_laysOut) := goodIn_app (goodIn_of _ (by decide +kernel)) ggX5_reduces_X5_laysOut
set_option maxRecDepth 20000 in
theorem ggX5_reduces_X5_exchanges : GoodIn wsX5_reduces wsX5_exchanges := goodIn_r _ [26, 3, 38, 39, 40, 41, 42, 43, 44, 45, 46, 47, 48, 49, 50, 51, 52, 53, 54, 55, 56, 57] (by decide +kernel) (by decide +kernel)
set_option maxRecDepth 20000 in
theorem gX5_reduces_X5_exchanges : GoodIn wsX5_reduces (wsV RX5 130 RX5 yX5_exchanges wsX5_exchanges) := goodIn_app (goodIn_of _ (by decide +kernel)) ggX5_reduces_X5_exchanges
set_option maxRecDepth 20000 in
theorem ggX5_reduces_X5_clears : GoodIn wsX5_reduces wsX5_clears := goodIn_r _ [30, 3, 31, 32, 33, 8, 34, 35, 36, 37, 38, 39, 40, 41, 42, 43, 44, 45, 46, 47, 48, 49, 50, 51, 52, 53, 54, 55, 56, 57] (by decide +kernel) (by decide +kernel)
set_option maxRecDepth 20000 in
theorem gX5_reduces_X5_clears : GoodIn wsX5_reduces (wsV RX5 134 RX5 yX5_clears wsX5_clears) := goodIn_app (goodIn_of _ (by decide +kernel)) ggX5_reduces_X5_clears
theorem dX5_reduces_0 : decode cX5_reduces 0 = .ok (.aload_n 0, 1) := by decide +kernel
theorem dX5_reduces_1 : decode cX5_reduces 1 = .ok (.iload_n 1, 1) := by decide +kernel
theorem dX5_reduces_2 : decode cX5_reduces 2 = .ok (.invokevirtual 124, 3) := by decide +kernel
theorem dX5_reduces_5 : decode cX5_reduces 5 = .ok (.aload_n 0, 1) := by decide +kernel
theorem dX5_reduces_6 : decode cX5_reduces 6 = .ok (.iconst 0, 1) := by decide +kernel
theorem dX5_reduces_7 : decode cX5_reduces 7 = .ok (.putfield 127, 3) := by decide +kernel
theorem dX5_reduces_10 : decode cX5_reduces 10 = .ok (.iconst 0, 1) := by decide +kernel
theorem dX5_reduces_11 : decode cX5_reduces 11 = .ok (.istore_n 2, 1) := by decide +kernel
theorem dX5_reduces_12 : decode cX5_reduces 12 = .ok (.iload_n 2, 1) := by decide +kernel
theorem dX5_reduces_13 : decode cX5_reduces 13 = .ok (.bipush 25, 2) := by decide +kernel
theorem dX5_reduces_15 : decode cX5_reduces 15 = .ok (.if_icmp .ge 122, 3) := by decide +kernel
theorem dX5_reduces_18 : decode cX5_reduces 18 = .ok (.aload_n 0, 1) := by decide +kernel
theorem dX5_reduces_19 : decode cX5_reduces 19 = .ok (.getfield 127, 3) := by decide +kernel
theorem dX5_reduces_22 : decode cX5_reduces 22 = .ok (.istore_n 3, 1) := by decide +kernel
theorem dX5_reduces_23 : decode cX5_reduces 23 = .ok (.iload_n 3, 1) := by decide +kernel
theorem dX5_reduces_24 : decode cX5_reduces 24 = .ok (.aload_n 0, 1) := by decide +kernel
theorem dX5_reduces_25 : decode cX5_reduces 25 = .ok (.getfield 68, 3) := by decide +kernel
theorem dX5_reduces_28 : decode cX5_reduces 28 = .ok (.if_icmp .ge 25, 3) := by decide +kernel
theorem dX5_reduces_31 : decode cX5_reduces 31 = .ok (.aload_n 0, 1) := by decide +kernel
theorem dX5_reduces_32 : decode cX5_reduces 32 = .ok (.getfield 48, 3) := by decide +kernel
theorem dX5_reduces_35 : decode cX5_reduces 35 = .ok (.bipush 26, 2) := by decide +kernel
theorem dX5_reduces_37 : decode cX5_reduces 37 = .ok (.iload_n 3, 1) := by decide +kernel
theorem dX5_reduces_38 : decode cX5_reduces 38 = .ok (.imul, 1) := by decide +kernel
theorem dX5_reduces_39 : decode cX5_reduces 39 = .ok (.iload_n 2, 1) := by decide +kernel
theorem dX5_reduces_40 : decode cX5_reduces 40 = .ok (.iadd, 1) := by decide +kernel
theorem dX5_reduces_41 : decode cX5_reduces 41 = .ok (.laload, 1) := by decide +kernel
theorem dX5_reduces_42 : decode cX5_reduces 42 = .ok (.lconst 0, 1) := by decide +kernel
theorem dX5_reduces_43 : decode cX5_reduces 43 = .ok (.lcmp, 1) := by decide +kernel
theorem dX5_reduces_44 : decode cX5_reduces 44 = .ok (.ifCond .ne 9, 3) := by decide +kernel
theorem dX5_reduces_47 : decode cX5_reduces 47 = .ok (.iinc 3 1, 3) := by decide +kernel
theorem dX5_reduces_50 : decode cX5_reduces 50 = .ok (.goto (-27), 3) := by decide +kernel
theorem dX5_reduces_53 : decode cX5_reduces 53 = .ok (.iload_n 3, 1) := by decide +kernel
theorem dX5_reduces_54 : decode cX5_reduces 54 = .ok (.aload_n 0, 1) := by decide +kernel
theorem dX5_reduces_55 : decode cX5_reduces 55 = .ok (.getfield 68, 3) := by decide +kernel
theorem dX5_reduces_58 : decode cX5_reduces 58 = .ok (.if_icmp .ne 6, 3) := by decide +kernel
theorem dX5_reduces_61 : decode cX5_reduces 61 = .ok (.goto 70, 3) := by decide +kernel
theorem dX5_reduces_64 : decode cX5_reduces 64 = .ok (.aload_n 0, 1) := by decide +kernel
theorem dX5_reduces_65 : decode cX5_reduces 65 = .ok (.aload_n 0, 1) := by decide +kernel
theorem dX5_reduces_66 : decode cX5_reduces 66 = .ok (.getfield 127, 3) := by decide +kernel
theorem dX5_reduces_69 : decode cX5_reduces 69 = .ok (.iload_n 3, 1) := by decide +kernel
theorem dX5_reduces_70 : decode cX5_reduces 70 = .ok (.invokevirtual 130, 3) := by decide +kernel
theorem dX5_reduces_73 : decode cX5_reduces 73 = .ok (.iconst 0, 1) := by decide +kernel
theorem dX5_reduces_74 : decode cX5_reduces 74 = .ok (.istore 4, 2) := by decide +kernel
theorem dX5_reduces_76 : decode cX5_reduces 76 = .ok (.iload 4, 2) := by decide +kernel
theorem dX5_reduces_78 : decode cX5_reduces 78 = .ok (.aload_n 0, 1) := by decide +kernel
theorem dX5_reduces_79 : decode cX5_reduces 79 = .ok (.getfield 68, 3) := by decide +kernel
theorem dX5_reduces_82 : decode cX5_reduces 82 = .ok (.if_icmp .ge 29, 3) := by decide +kernel
theorem dX5_reduces_85 : decode cX5_reduces 85 = .ok (.iload 4, 2) := by decide +kernel
theorem dX5_reduces_87 : decode cX5_reduces 87 = .ok (.aload_n 0, 1) := by decide +kernel
theorem dX5_reduces_88 : decode cX5_reduces 88 = .ok (.getfield 127, 3) := by decide +kernel
theorem dX5_reduces_91 : decode cX5_reduces 91 = .ok (.if_icmp .eq 14, 3) := by decide +kernel
theorem dX5_reduces_94 : decode cX5_reduces 94 = .ok (.aload_n 0, 1) := by decide +kernel
theorem dX5_reduces_95 : decode cX5_reduces 95 = .ok (.aload_n 0, 1) := by decide +kernel
theorem dX5_reduces_96 : decode cX5_reduces 96 = .ok (.getfield 127, 3) := by decide +kernel
theorem dX5_reduces_99 : decode cX5_reduces 99 = .ok (.iload_n 2, 1) := by decide +kernel
theorem dX5_reduces_100 : decode cX5_reduces 100 = .ok (.iload 4, 2) := by decide +kernel
theorem dX5_reduces_102 : decode cX5_reduces 102 = .ok (.invokevirtual 134, 3) := by decide +kernel
theorem dX5_reduces_105 : decode cX5_reduces 105 = .ok (.iinc 4 1, 3) := by decide +kernel
theorem dX5_reduces_108 : decode cX5_reduces 108 = .ok (.goto (-32), 3) := by decide +kernel
theorem dX5_reduces_111 : decode cX5_reduces 111 = .ok (.aload_n 0, 1) := by decide +kernel
theorem dX5_reduces_112 : decode cX5_reduces 112 = .ok (.getfield 51, 3) := by decide +kernel
theorem dX5_reduces_115 : decode cX5_reduces 115 = .ok (.iload_n 2, 1) := by decide +kernel
theorem dX5_reduces_116 : decode cX5_reduces 116 = .ok (.aload_n 0, 1) := by decide +kernel
theorem dX5_reduces_117 : decode cX5_reduces 117 = .ok (.getfield 127, 3) := by decide +kernel
theorem dX5_reduces_120 : decode cX5_reduces 120 = .ok (.iastore, 1) := by decide +kernel
theorem dX5_reduces_121 : decode cX5_reduces 121 = .ok (.aload_n 0, 1) := by decide +kernel
theorem dX5_reduces_122 : decode cX5_reduces 122 = .ok (.dup, 1) := by decide +kernel
theorem dX5_reduces_123 : decode cX5_reduces 123 = .ok (.getfield 127, 3) := by decide +kernel
theorem dX5_reduces_126 : decode cX5_reduces 126 = .ok (.iconst 1, 1) := by decide +kernel
theorem dX5_reduces_127 : decode cX5_reduces 127 = .ok (.iadd, 1) := by decide +kernel
theorem dX5_reduces_128 : decode cX5_reduces 128 = .ok (.putfield 127, 3) := by decide +kernel
theorem dX5_reduces_131 : decode cX5_reduces 131 = .ok (.iinc 2 1, 3) := by decide +kernel
theorem dX5_reduces_134 : decode cX5_reduces 134 = .ok (.goto (-122), 3) := by decide +kernel
theorem dX5_reduces_137 : decode cX5_reduces 137 = .ok (.return_, 1) := by decide +kernel
theorem dX5_agrees_0 : decode cX5_agrees 0 = .ok (.aload_n 0, 1) := by decide +kernel
theorem dX5_agrees_1 : decode cX5_agrees 1 = .ok (.getfield 127, 3) := by decide +kernel
theorem dX5_agrees_4 : decode cX5_agrees 4 = .ok (.istore_n 1, 1) := by decide +kernel
theorem dX5_agrees_5 : decode cX5_agrees 5 = .ok (.iload_n 1, 1) := by decide +kernel
theorem dX5_agrees_6 : decode cX5_agrees 6 = .ok (.aload_n 0, 1) := by decide +kernel
theorem dX5_agrees_7 : decode cX5_agrees 7 = .ok (.getfield 68, 3) := by decide +kernel
theorem dX5_agrees_10 : decode cX5_agrees 10 = .ok (.if_icmp .ge 28, 3) := by decide +kernel
theorem dX5_agrees_13 : decode cX5_agrees 13 = .ok (.aload_n 0, 1) := by decide +kernel
theorem dX5_agrees_14 : decode cX5_agrees 14 = .ok (.getfield 48, 3) := by decide +kernel
theorem dX5_agrees_17 : decode cX5_agrees 17 = .ok (.bipush 26, 2) := by decide +kernel
theorem dX5_agrees_19 : decode cX5_agrees 19 = .ok (.iload_n 1, 1) := by decide +kernel
theorem dX5_agrees_20 : decode cX5_agrees 20 = .ok (.imul, 1) := by decide +kernel
theorem dX5_agrees_21 : decode cX5_agrees 21 = .ok (.bipush 25, 2) := by decide +kernel
theorem dX5_agrees_23 : decode cX5_agrees 23 = .ok (.iadd, 1) := by decide +kernel
theorem dX5_agrees_24 : decode cX5_agrees 24 = .ok (.laload, 1) := by decide +kernel
theorem dX5_agrees_25 : decode cX5_agrees 25 = .ok (.lconst 0, 1) := by decide +kernel
theorem dX5_agrees_26 : decode cX5_agrees 26 = .ok (.lcmp, 1) := by decide +kernel
theorem dX5_agrees_27 : decode cX5_agrees 27 = .ok (.ifCond .eq 5, 3) := by decide +kernel
theorem dX5_agrees_30 : decode cX5_agrees 30 = .ok (.iconst 0, 1) := by decide +kernel
theorem dX5_agrees_31 : decode cX5_agrees 31 = .ok (.ireturn, 1) := by decide +kernel
theorem dX5_agrees_32 : decode cX5_agrees 32 = .ok (.iinc 1 1, 3) := by decide +kernel
theorem dX5_agrees_35 : decode cX5_agrees 35 = .ok (.goto (-30), 3) := by decide +kernel
theorem dX5_agrees_38 : decode cX5_agrees 38 = .ok (.iconst 1, 1) := by decide +kernel
theorem dX5_agrees_39 : decode cX5_agrees 39 = .ok (.ireturn, 1) := by decide +kernel
set_option maxRecDepth 20000 in
theorem ggX5_isSure_X5_hasRoute : GoodIn wsX5_isSure wsX5_hasRoute := goodIn_r _ [8, 9, 10, 11, 12, 13, 14, 15, 16, 17, 18, 19, 20, 21, 22, 23, 24, 25, 26, 27, 28, 29] (by decide +kernel) (by decide +kernel)
set_option maxRecDepth 20000 in
theorem gX5_isSure_X5_hasRoute : GoodIn wsX5_isSure (wsV RX5 99 RX5 yX5_hasRoute wsX5_hasRoute) := goodIn_app (goodIn_of _ (by decide +kernel)) ggX5_isSure_X5_hasRoute
theorem dX5_isSure_0 : decode cX5_isSure 0 = .ok (.aload_n 0, 1) := by decide +kernel
theorem dX5_isSure_1 : decode cX5_isSure 1 = .ok (.iload_n 1, 1) := by decide +kernel
theorem dX5_isSure_2 : decode cX5_isSure 2 = .ok (.invokevirtual 99, 3) := by decide +kernel
theorem dX5_isSure_5 : decode cX5_isSure 5 = .ok (.ifCond .ne 5, 3) := by decide +kernel
theorem dX5_isSure_8 : decode cX5_isSure 8 = .ok (.iconst 0, 1) := by decide +kernel
theorem dX5_isSure_9 : decode cX5_isSure 9 = .ok (.ireturn, 1) := by decide +kernel
theorem dX5_isSure_10 : decode cX5_isSure 10 = .ok (.aload_n 0, 1) := by decide +kernel
theorem dX5_isSure_11 : decode cX5_isSure 11 = .ok (.getfield 31, 3) := by decide +kernel
theorem dX5_isSure_14 : decode cX5_isSure 14 = .ok (.iload_n 1, 1) := by decide +kernel
theorem dX5_isSure_15 : decode cX5_isSure 15 = .ok (.baload, 1) := by decide +kernel
theorem dX5_isSure_16 : decode cX5_isSure 16 = .ok (.ifCond .ne 8, 3) := by decide +kernel
theorem dX5_isSure_19 : decode cX5_isSure 19 = .ok (.iload_n 1, 1) := by decide +kernel
theorem dX5_isSure_20 : decode cX5_isSure 20 = .ok (.iload_n 2, 1) := by decide +kernel
theorem dX5_isSure_21 : decode cX5_isSure 21 = .ok (.if_icmp .ne 5, 3) := by decide +kernel
theorem dX5_isSure_24 : decode cX5_isSure 24 = .ok (.iconst 1, 1) := by decide +kernel
theorem dX5_isSure_25 : decode cX5_isSure 25 = .ok (.ireturn, 1) := by decide +kernel
theorem dX5_isSure_26 : decode cX5_isSure 26 = .ok (.aload_n 0, 1) := by decide +kernel
theorem dX5_isSure_27 : decode cX5_isSure 27 = .ok (.getfield 51, 3) := by decide +kernel
theorem dX5_isSure_30 : decode cX5_isSure 30 = .ok (.iload_n 1, 1) := by decide +kernel
theorem dX5_isSure_31 : decode cX5_isSure 31 = .ok (.iaload, 1) := by decide +kernel
theorem dX5_isSure_32 : decode cX5_isSure 32 = .ok (.istore_n 3, 1) := by decide +kernel
theorem dX5_isSure_33 : decode cX5_isSure 33 = .ok (.iload_n 3, 1) := by decide +kernel
theorem dX5_isSure_34 : decode cX5_isSure 34 = .ok (.bipush (-7), 2) := by decide +kernel
theorem dX5_isSure_36 : decode cX5_isSure 36 = .ok (.if_icmp .ne 5, 3) := by decide +kernel
theorem dX5_isSure_39 : decode cX5_isSure 39 = .ok (.iconst 0, 1) := by decide +kernel
theorem dX5_isSure_40 : decode cX5_isSure 40 = .ok (.ireturn, 1) := by decide +kernel
theorem dX5_isSure_41 : decode cX5_isSure 41 = .ok (.iconst 0, 1) := by decide +kernel
theorem dX5_isSure_42 : decode cX5_isSure 42 = .ok (.istore 4, 2) := by decide +kernel
theorem dX5_isSure_44 : decode cX5_isSure 44 = .ok (.iload 4, 2) := by decide +kernel
theorem dX5_isSure_46 : decode cX5_isSure 46 = .ok (.bipush 25, 2) := by decide +kernel
theorem dX5_isSure_48 : decode cX5_isSure 48 = .ok (.if_icmp .ge 34, 3) := by decide +kernel
theorem dX5_isSure_51 : decode cX5_isSure 51 = .ok (.iload 4, 2) := by decide +kernel
theorem dX5_isSure_53 : decode cX5_isSure 53 = .ok (.iload_n 1, 1) := by decide +kernel
theorem dX5_isSure_54 : decode cX5_isSure 54 = .ok (.if_icmp .eq 22, 3) := by decide +kernel
theorem dX5_isSure_57 : decode cX5_isSure 57 = .ok (.aload_n 0, 1) := by decide +kernel
theorem dX5_isSure_58 : decode cX5_isSure 58 = .ok (.getfield 48, 3) := by decide +kernel
theorem dX5_isSure_61 : decode cX5_isSure 61 = .ok (.bipush 26, 2) := by decide +kernel
theorem dX5_isSure_63 : decode cX5_isSure 63 = .ok (.iload_n 3, 1) := by decide +kernel
theorem dX5_isSure_64 : decode cX5_isSure 64 = .ok (.imul, 1) := by decide +kernel
theorem dX5_isSure_65 : decode cX5_isSure 65 = .ok (.iload 4, 2) := by decide +kernel
theorem dX5_isSure_67 : decode cX5_isSure 67 = .ok (.iadd, 1) := by decide +kernel
theorem dX5_isSure_68 : decode cX5_isSure 68 = .ok (.laload, 1) := by decide +kernel
theorem dX5_isSure_69 : decode cX5_isSure 69 = .ok (.lconst 0, 1) := by decide +kernel
theorem dX5_isSure_70 : decode cX5_isSure 70 = .ok (.lcmp, 1) := by decide +kernel
theorem dX5_isSure_71 : decode cX5_isSure 71 = .ok (.ifCond .eq 5, 3) := by decide +kernel
theorem dX5_isSure_74 : decode cX5_isSure 74 = .ok (.iconst 0, 1) := by decide +kernel
theorem dX5_isSure_75 : decode cX5_isSure 75 = .ok (.ireturn, 1) := by decide +kernel
theorem dX5_isSure_76 : decode cX5_isSure 76 = .ok (.iinc 4 1, 3) := by decide +kernel
theorem dX5_isSure_79 : decode cX5_isSure 79 = .ok (.goto (-35), 3) := by decide +kernel
theorem dX5_isSure_82 : decode cX5_isSure 82 = .ok (.iconst 1, 1) := by decide +kernel
theorem dX5_isSure_83 : decode cX5_isSure 83 = .ok (.ireturn, 1) := by decide +kernel
set_option maxRecDepth 20000 in
theorem ggX5_sureCount_X5_reduces : GoodIn wsX5_sureCount wsX5_reduces := goodIn_r _ [5, 6, 7, 8, 9, 10, 11, 12, 4, 13, 14, 15, 16, 17, 18, 19, 20, 21, 22, 23, 24, 25, 26, 27, 28, 29, 30, 31, 32, 33, 34, 35, 36, 37, 38, 39, 40, 41, 46, 47, 48, 49, 50, 51, 52, 53, 54, 55, 56, 57, 58, 59, 60, 61, 62, 63, 64, 65] (by decide +kernel) (by decide +kernel)
set_option maxRecDepth 20000 in
theorem gX5_sureCount_X5_reduces : GoodIn wsX5_sureCount (wsV RX5 138 RX5 yX5_reduces wsX5_reduces) := goodIn_app (goodIn_of _ (by decide +kernel)) ggX5_sureCount_X5_reduces
set_option maxRecDepth 20000 in
theorem ggX5_sureCount_X5_isSure : GoodIn wsX5_sureCount wsX5_isSure := goodIn_r _ [45, 15, 9, 8, 18, 19, 20, 4, 21, 22, 46, 47, 48, 49, 50, 51, 52, 53, 54, 55, 56, 57, 58, 59, 60, 61, 62, 63, 64, 65] (by decide +kernel) (by decide +kernel)
set_option maxRecDepth 20000 in
theorem gX5_sureCount_X5_isSure : GoodIn wsX5_sureCount (wsV RX5 141 RX5 yX5_isSure wsX5_isSure) := goodIn_app (goodIn_of _ (by decide +kernel)) ggX5_sureCount_X5_isSure
theorem dX5_sureCount_0 : decode cX5_sureCount 0 = .ok (.aload_n 0, 1) := by decide +kernel
theorem dX5_sureCount_1 : decode cX5_sureCount 1 = .ok (.iload_n 1, 1) := by decide +kernel
theorem dX5_sureCount_2 : decode cX5_sureCount 2 = .ok (.invokevirtual 138, 3) := by decide +kernel
theorem dX5_sureCount_5 : decode cX5_sureCount 5 = .ok (.iconst 0, 1) := by decide +kernel
theorem dX5_sureCount_6 : decode cX5_sureCount 6 = .ok (.istore_n 2, 1) := by decide +kernel
theorem dX5_sureCount_7 : decode cX5_sureCount 7 = .ok (.iconst 0, 1) := by decide +kernel
theorem dX5_sureCount_8 : decode cX5_sureCount 8 = .ok (.istore_n 3, 1) := by decide +kernel
theorem dX5_sureCount_9 : decode cX5_sureCount 9 = .ok (.iload_n 3, 1) := by decide +kernel
theorem dX5_sureCount_10 : decode cX5_sureCount 10 = .ok (.bipush 25, 2) := by decide +kernel
theorem dX5_sureCount_12 : decode cX5_sureCount 12 = .ok (.if_icmp .ge 26, 3) := by decide +kernel
theorem dX5_sureCount_15 : decode cX5_sureCount 15 = .ok (.iload_n 2, 1) := by decide +kernel
theorem dX5_sureCount_16 : decode cX5_sureCount 16 = .ok (.aload_n 0, 1) := by decide +kernel
theorem dX5_sureCount_17 : decode cX5_sureCount 17 = .ok (.iload_n 3, 1) := by decide +kernel
theorem dX5_sureCount_18 : decode cX5_sureCount 18 = .ok (.iload_n 1, 1) := by decide +kernel
theorem dX5_sureCount_19 : decode cX5_sureCount 19 = .ok (.invokevirtual 141, 3) := by decide +kernel
theorem dX5_sureCount_22 : decode cX5_sureCount 22 = .ok (.ifCond .eq 7, 3) := by decide +kernel
theorem dX5_sureCount_25 : decode cX5_sureCount 25 = .ok (.iconst 1, 1) := by decide +kernel
theorem dX5_sureCount_26 : decode cX5_sureCount 26 = .ok (.goto 4, 3) := by decide +kernel
theorem dX5_sureCount_29 : decode cX5_sureCount 29 = .ok (.iconst 0, 1) := by decide +kernel
theorem dX5_sureCount_30 : decode cX5_sureCount 30 = .ok (.iadd, 1) := by decide +kernel
theorem dX5_sureCount_31 : decode cX5_sureCount 31 = .ok (.istore_n 2, 1) := by decide +kernel
theorem dX5_sureCount_32 : decode cX5_sureCount 32 = .ok (.iinc 3 1, 3) := by decide +kernel
theorem dX5_sureCount_35 : decode cX5_sureCount 35 = .ok (.goto (-26), 3) := by decide +kernel
theorem dX5_sureCount_38 : decode cX5_sureCount 38 = .ok (.iload_n 2, 1) := by decide +kernel
theorem dX5_sureCount_39 : decode cX5_sureCount 39 = .ok (.ireturn, 1) := by decide +kernel
set_option maxRecDepth 20000 in
theorem ggX5_rank_X5_findRoutes : GoodIn wsX5_rank wsX5_findRoutes := goodIn_r _ [7, 8, 9, 10, 11, 12, 13, 14, 15, 16, 17, 6, 18, 19, 20, 21, 22, 23, 24, 25, 26, 27, 28, 29, 30, 31, 68, 69, 70, 71, 72, 73, 74, 75, 76, 77, 78, 79, 80, 81, 82, 83, 84, 85, 86, 87] (by decide +kernel) (by decide +kernel)
set_option maxRecDepth 20000 in
theorem gX5_rank_X5_findRoutes : GoodIn wsX5_rank (wsV RX5 96 RX5 yX5_findRoutes wsX5_findRoutes) := goodIn_app (goodIn_of _ (by decide +kernel)) ggX5_rank_X5_findRoutes
set_option maxRecDepth 20000 in
theorem ggX5_rank_X5_reduces : GoodIn wsX5_rank wsX5_reduces := goodIn_r _ [35, 2, 10, 36, 37, 38, 39, 40, 6, 41, 1, 42, 43, 44, 45, 46, 47, 48, 14, 49, 50, 51, 52, 53, 54, 55, 56, 57, 58, 59, 60, 61, 62, 63, 64, 65, 66, 67, 68, 69, 70, 71, 72, 73, 74, 75, 76, 77, 78, 79, 80, 81, 82, 83, 84, 85, 86, 87] (by decide +kernel) (by decide +kernel)
set_option maxRecDepth 20000 in
theorem gX5_rank_X5_reduces : GoodIn wsX5_rank (wsV RX5 138 RX5 yX5_reduces wsX5_reduces) := goodIn_app (goodIn_of _ (by decide +kernel)) ggX5_rank_X5_reduces
theorem dX5_rank_0 : decode cX5_rank 0 = .ok (.aload_n 0, 1) := by decide +kernel
theorem dX5_rank_1 : decode cX5_rank 1 = .ok (.invokevirtual 96, 3) := by decide +kernel
theorem dX5_rank_4 : decode cX5_rank 4 = .ok (.aload_n 0, 1) := by decide +kernel
theorem dX5_rank_5 : decode cX5_rank 5 = .ok (.bipush (-7), 2) := by decide +kernel
theorem dX5_rank_7 : decode cX5_rank 7 = .ok (.invokevirtual 138, 3) := by decide +kernel
theorem dX5_rank_10 : decode cX5_rank 10 = .ok (.aload_n 0, 1) := by decide +kernel
theorem dX5_rank_11 : decode cX5_rank 11 = .ok (.getfield 113, 3) := by decide +kernel
theorem dX5_rank_14 : decode cX5_rank 14 = .ok (.aload_n 0, 1) := by decide +kernel
theorem dX5_rank_15 : decode cX5_rank 15 = .ok (.getfield 127, 3) := by decide +kernel
theorem dX5_rank_18 : decode cX5_rank 18 = .ok (.iadd, 1) := by decide +kernel
theorem dX5_rank_19 : decode cX5_rank 19 = .ok (.ireturn, 1) := by decide +kernel
set_option maxRecDepth 20000 in
theorem ggX5_isConsistent_X5_findRoutes : GoodIn wsX5_isConsistent wsX5_findRoutes := goodIn_r _ [5, 6, 7, 8, 9, 10, 11, 12, 13, 14, 15, 4, 16, 17, 18, 19, 20, 21, 22, 23, 24, 25, 26, 27, 28, 29, 72, 73, 74, 75, 76, 77, 78, 79, 80, 81, 82, 83, 84, 85, 86, 87, 88, 89, 90, 91] (by decide +kernel) (by decide +kernel)
set_option maxRecDepth 20000 in
theorem gX5_isConsistent_X5_findRoutes : GoodIn wsX5_isConsistent (wsV RX5 96 RX5 yX5_findRoutes wsX5_findRoutes) := goodIn_app (goodIn_of _ (by decide +kernel)) ggX5_isConsistent_X5_findRoutes
set_option maxRecDepth 20000 in
theorem ggX5_isConsistent_X5_reduces : GoodIn wsX5_isConsistent wsX5_reduces := goodIn_r _ [33, 34, 8, 35, 36, 37, 38, 39, 4, 40, 41, 42, 43, 44, 45, 46, 47, 48, 12, 49, 50, 51, 52, 53, 54, 55, 56, 57, 58, 59, 60, 61, 62, 63, 64, 65, 66, 67, 72, 73, 74, 75, 76, 77, 78, 79, 80, 81, 82, 83, 84, 85, 86, 87, 88, 89, 90, 91] (by decide +kernel) (by decide +kernel)
set_option maxRecDepth 20000 in
theorem gX5_isConsistent_X5_reduces : GoodIn wsX5_isConsistent (wsV RX5 138 RX5 yX5_reduces wsX5_reduces) := goodIn_app (goodIn_of _ (by decide +kernel)) ggX5_isConsistent_X5_reduces
set_option maxRecDepth 20000 in
theorem ggX5_isConsistent_X5_agrees : GoodIn wsX5_isConsistent wsX5_agrees := goodIn_r _ [71, 34, 8, 35, 72, 73, 74, 75, 76, 77, 78, 79, 80, 81, 82, 83, 84, 85, 86, 87, 88, 89, 90, 91] (by decide +kernel) (by decide +kernel)
set_option maxRecDepth 20000 in
theorem gX5_isConsistent_X5_agrees : GoodIn wsX5_isConsistent (wsV RX5 144 RX5 yX5_agrees wsX5_agrees) := goodIn_app (goodIn_of _ (by decide +kernel)) ggX5_isConsistent_X5_agrees
theorem dX5_isConsistent_0 : decode cX5_isConsistent 0 = .ok (.aload_n 0, 1) := by decide +kernel
theorem dX5_isConsistent_1 : decode cX5_isConsistent 1 = .ok (.invokevirtual 96, 3) := by decide +kernel
theorem dX5_isConsistent_4 : decode cX5_isConsistent 4 = .ok (.aload_n 0, 1) := by decide +kernel
theorem dX5_isConsistent_5 : decode cX5_isConsistent 5 = .ok (.bipush (-7), 2) := by decide +kernel
theorem dX5_isConsistent_7 : decode cX5_isConsistent 7 = .ok (.invokevirtual 138, 3) := by decide +kernel
theorem dX5_isConsistent_10 : decode cX5_isConsistent 10 = .ok (.aload_n 0, 1) := by decide +kernel
theorem dX5_isConsistent_11 : decode cX5_isConsistent 11 = .ok (.invokevirtual 144, 3) := by decide +kernel
theorem dX5_isConsistent_14 : decode cX5_isConsistent 14 = .ok (.ifCond .eq 7, 3) := by decide +kernel
theorem dX5_isConsistent_17 : decode cX5_isConsistent 17 = .ok (.iconst 1, 1) := by decide +kernel
theorem dX5_isConsistent_18 : decode cX5_isConsistent 18 = .ok (.goto 4, 3) := by decide +kernel
theorem dX5_isConsistent_21 : decode cX5_isConsistent 21 = .ok (.iconst 0, 1) := by decide +kernel
theorem dX5_isConsistent_22 : decode cX5_isConsistent 22 = .ok (.ireturn, 1) := by decide +kernel
set_option maxRecDepth 20000 in
theorem ggX5_isIdentifiable_X5_refusedRoute : GoodIn wsX5_isIdentifiable wsX5_refusedRoute := goodIn_r _ [5, 6, 7, 8, 4, 9, 10, 11, 12, 13, 14, 15, 16, 17, 18, 19, 20, 21, 22, 23, 24, 25, 26, 27, 28, 29, 30, 31, 32, 33, 34, 35, 36, 37, 38, 39, 40, 41, 42, 43, 44, 45, 46, 47, 48, 87, 88, 89, 90, 91, 92, 93, 94, 95, 96, 97, 98, 99, 100, 101, 102, 103, 104, 105, 106] (by decide +kernel) (by decide +kernel)
set_option maxRecDepth 20000 in
theorem gX5_isIdentifiable_X5_refusedRoute : GoodIn wsX5_isIdentifiable (wsV RX5 102 RX5 yX5_refusedRoute wsX5_refusedRoute) := goodIn_app (goodIn_of _ (by decide +kernel)) ggX5_isIdentifiable_X5_refusedRoute
set_option maxRecDepth 20000 in
theorem ggX5_isIdentifiable_X5_reduces : GoodIn wsX5_isIdentifiable wsX5_reduces := goodIn_r _ [52, 53, 24, 54, 55, 56, 57, 58, 4, 59, 60, 61, 62, 63, 45, 46, 47, 48, 27, 64, 65, 66, 67, 68, 69, 70, 71, 72, 73, 74, 75, 76, 77, 78, 79, 80, 81, 82, 87, 88, 89, 90, 91, 92, 93, 94, 95, 96, 97, 98, 99, 100, 101, 102, 103, 104, 105, 106] (by decide +kernel) (by decide +kernel)
set_option maxRecDepth 20000 in
theorem gX5_isIdentifiable_X5_reduces : GoodIn wsX5_isIdentifiable (wsV RX5 138 RX5 yX5_reduces wsX5_reduces) := goodIn_app (goodIn_of _ (by decide +kernel)) ggX5_isIdentifiable_X5_reduces
set_option maxRecDepth 20000 in
theorem ggX5_isIdentifiable_X5_isSure : GoodIn wsX5_isIdentifiable wsX5_isSure := goodIn_r _ [86, 61, 55, 54, 45, 46, 47, 4, 48, 27, 87, 88, 89, 90, 91, 92, 93, 94, 95, 96, 97, 98, 99, 100, 101, 102, 103, 104, 105, 106] (by decide +kernel) (by decide +kernel)
set_option maxRecDepth 20000 in
theorem gX5_isIdentifiable_X5_isSure : GoodIn wsX5_isIdentifiable (wsV RX5 141 RX5 yX5_isSure wsX5_isSure) := goodIn_app (goodIn_of _ (by decide +kernel)) ggX5_isIdentifiable_X5_isSure
theorem dX5_isIdentifiable_0 : decode cX5_isIdentifiable 0 = .ok (.aload_n 0, 1) := by decide +kernel
theorem dX5_isIdentifiable_1 : decode cX5_isIdentifiable 1 = .ok (.iload_n 1, 1) := by decide +kernel
theorem dX5_isIdentifiable_2 : decode cX5_isIdentifiable 2 = .ok (.iload_n 2, 1) := by decide +kernel
theorem dX5_isIdentifiable_3 : decode cX5_isIdentifiable 3 = .ok (.invokevirtual 102, 3) := by decide +kernel
theorem dX5_isIdentifiable_6 : decode cX5_isIdentifiable 6 = .ok (.istore_n 3, 1) := by decide +kernel
theorem dX5_isIdentifiable_7 : decode cX5_isIdentifiable 7 = .ok (.iload_n 3, 1) := by decide +kernel
theorem dX5_isIdentifiable_8 : decode cX5_isIdentifiable 8 = .ok (.ifCond .eq 5, 3) := by decide +kernel
theorem dX5_isIdentifiable_11 : decode cX5_isIdentifiable 11 = .ok (.iload_n 3, 1) := by decide +kernel
theorem dX5_isIdentifiable_12 : decode cX5_isIdentifiable 12 = .ok (.ireturn, 1) := by decide +kernel
theorem dX5_isIdentifiable_13 : decode cX5_isIdentifiable 13 = .ok (.aload_n 0, 1) := by decide +kernel
theorem dX5_isIdentifiable_14 : decode cX5_isIdentifiable 14 = .ok (.bipush (-7), 2) := by decide +kernel
theorem dX5_isIdentifiable_16 : decode cX5_isIdentifiable 16 = .ok (.invokevirtual 138, 3) := by decide +kernel
theorem dX5_isIdentifiable_19 : decode cX5_isIdentifiable 19 = .ok (.aload_n 0, 1) := by decide +kernel
theorem dX5_isIdentifiable_20 : decode cX5_isIdentifiable 20 = .ok (.iconst 5, 1) := by decide +kernel
theorem dX5_isIdentifiable_21 : decode cX5_isIdentifiable 21 = .ok (.iload_n 1, 1) := by decide +kernel
theorem dX5_isIdentifiable_22 : decode cX5_isIdentifiable 22 = .ok (.imul, 1) := by decide +kernel
theorem dX5_isIdentifiable_23 : decode cX5_isIdentifiable 23 = .ok (.iload_n 2, 1) := by decide +kernel
theorem dX5_isIdentifiable_24 : decode cX5_isIdentifiable 24 = .ok (.iadd, 1) := by decide +kernel
theorem dX5_isIdentifiable_25 : decode cX5_isIdentifiable 25 = .ok (.bipush (-7), 2) := by decide +kernel
theorem dX5_isIdentifiable_27 : decode cX5_isIdentifiable 27 = .ok (.invokevirtual 141, 3) := by decide +kernel
theorem dX5_isIdentifiable_30 : decode cX5_isIdentifiable 30 = .ok (.ifCond .eq 7, 3) := by decide +kernel
theorem dX5_isIdentifiable_33 : decode cX5_isIdentifiable 33 = .ok (.iconst 1, 1) := by decide +kernel
theorem dX5_isIdentifiable_34 : decode cX5_isIdentifiable 34 = .ok (.goto 4, 3) := by decide +kernel
theorem dX5_isIdentifiable_37 : decode cX5_isIdentifiable 37 = .ok (.iconst 0, 1) := by decide +kernel
theorem dX5_isIdentifiable_38 : decode cX5_isIdentifiable 38 = .ok (.ireturn, 1) := by decide +kernel
set_option maxRecDepth 20000 in
theorem ggX5_identifiableCount_X5_findRoutes : GoodIn wsX5_identifiableCount wsX5_findRoutes := goodIn_r _ [5, 6, 7, 8, 9, 10, 11, 12, 13, 14, 15, 4, 16, 17, 18, 19, 20, 21, 22, 23, 24, 25, 26, 27, 28, 29, 76, 77, 78, 79, 80, 81, 82, 83, 84, 85, 86, 87, 88, 89, 90, 91, 92, 93, 94, 95] (by decide +kernel) (by decide +kernel)
set_option maxRecDepth 20000 in
theorem gX5_identifiableCount_X5_findRoutes : GoodIn wsX5_identifiableCount (wsV RX5 96 RX5 yX5_findRoutes wsX5_findRoutes) := goodIn_app (goodIn_of _ (by decide +kernel)) ggX5_identifiableCount_X5_findRoutes
set_option maxRecDepth 20000 in
theorem ggX5_identifiableCount_X5_sureCount : GoodIn wsX5_identifiableCount wsX5_sureCount := goodIn_r _ [33, 34, 35, 36, 4, 37, 38, 8, 39, 40, 41, 42, 43, 44, 45, 46, 47, 48, 49, 50, 51, 52, 12, 53, 54, 55, 56, 57, 58, 59, 60, 61, 62, 63, 64, 65, 66, 67, 68, 69, 70, 71, 72, 73, 74, 75, 76, 77, 78, 79, 80, 81, 82, 83, 84, 85, 86, 87, 88, 89, 90, 91, 92, 93, 94, 95] (by decide +kernel) (by decide +kernel)
set_option maxRecDepth 20000 in
theorem gX5_identifiableCount_X5_sureCount : GoodIn wsX5_identifiableCount (wsV RX5 148 RX5 yX5_sureCount wsX5_sureCount) := goodIn_app (goodIn_of _ (by decide +kernel)) ggX5_identifiableCount_X5_sureCount
theorem dX5_identifiableCount_0 : decode cX5_identifiableCount 0 = .ok (.aload_n 0, 1) := by decide +kernel
theorem dX5_identifiableCount_1 : decode cX5_identifiableCount 1 = .ok (.invokevirtual 96, 3) := by decide +kernel
theorem dX5_identifiableCount_4 : decode cX5_identifiableCount 4 = .ok (.aload_n 0, 1) := by decide +kernel
theorem dX5_identifiableCount_5 : decode cX5_identifiableCount 5 = .ok (.bipush (-7), 2) := by decide +kernel
theorem dX5_identifiableCount_7 : decode cX5_identifiableCount 7 = .ok (.invokevirtual 148, 3) := by decide +kernel
theorem dX5_identifiableCount_10 : decode cX5_identifiableCount 10 = .ok (.ireturn, 1) := by decide +kernel
set_option maxRecDepth 20000 in
theorem ggX5_identified_X5_refusedRoute : GoodIn wsX5_identified wsX5_refusedRoute := goodIn_r _ [11, 12, 13, 14, 10, 15, 16, 17, 18, 19, 20, 21, 22, 23, 24, 25, 26, 27, 28, 29, 30, 31, 32, 33, 34, 35, 36, 37, 38, 39, 40, 41, 42, 43, 44, 45, 46, 47, 48, 49, 50, 51, 52, 53, 54, 93, 94, 95, 96, 97, 98, 99, 100, 101, 102, 103, 104, 105, 106, 107, 108, 109, 110, 111, 112] (by decide +kernel) (by decide +kernel)
set_option maxRecDepth 20000 in
theorem gX5_identified_X5_refusedRoute : GoodIn wsX5_identified (wsV RX5 102 RX5 yX5_refusedRoute wsX5_refusedRoute) := goodIn_app (goodIn_of _ (by decide +kernel)) ggX5_identified_X5_refusedRoute
set_option maxRecDepth 20000 in
theorem ggX5_identified_X5_reduces : GoodIn wsX5_identified wsX5_reduces := goodIn_r _ [58, 59, 30, 4, 5, 60, 61, 62, 10, 63, 64, 2, 65, 3, 51, 52, 53, 54, 33, 66, 67, 68, 69, 70, 71, 72, 73, 74, 75, 76, 77, 78, 79, 80, 81, 82, 83, 84, 93, 94, 95, 96, 97, 98, 99, 100, 101, 102, 103, 104, 105, 106, 107, 108, 109, 110, 111, 112] (by decide +kernel) (by decide +kernel)
set_option maxRecDepth 20000 in
theorem gX5_identified_X5_reduces : GoodIn wsX5_identified (wsV RX5 138 RX5 yX5_reduces wsX5_reduces) := goodIn_app (goodIn_of _ (by decide +kernel)) ggX5_identified_X5_reduces
set_option maxRecDepth 20000 in
theorem ggX5_identified_X5_isSure : GoodIn wsX5_identified wsX5_isSure := goodIn_r _ [88, 2, 5, 4, 51, 52, 53, 10, 54, 33, 93, 94, 95, 96, 97, 98, 99, 100, 101, 102, 103, 104, 105, 106, 107, 108, 109, 110, 111, 112] (by decide +kernel) (by decide +kernel)
set_option maxRecDepth 20000 in
theorem gX5_identified_X5_isSure : GoodIn wsX5_identified (wsV RX5 141 RX5 yX5_isSure wsX5_isSure) := goodIn_app (goodIn_of _ (by decide +kernel)) ggX5_identified_X5_isSure
set_option maxRecDepth 20000 in
theorem ggX5_identified_X5_agrees : GoodIn wsX5_identified wsX5_agrees := goodIn_r _ [92, 59, 30, 4, 93, 94, 95, 96, 97, 98, 99, 100, 101, 102, 103, 104, 105, 106, 107, 108, 109, 110, 111, 112] (by decide +kernel) (by decide +kernel)
set_option maxRecDepth 20000 in
theorem gX5_identified_X5_agrees : GoodIn wsX5_identified (wsV RX5 144 RX5 yX5_agrees wsX5_agrees) := goodIn_app (goodIn_of _ (by decide +kernel)) ggX5_identified_X5_agrees
set_option maxRecDepth 20000 in
theorem ggX5_identified_X5_common : GoodIn wsX5_identified wsX5_common := goodIn_r _ [84] (by decide +kernel) (by decide +kernel)
set_option maxRecDepth 20000 in
theorem gX5_identified_X5_common : GoodIn wsX5_identified (va_wsS RX5 116 yX5_common wsX5_common) := goodIn_app (goodIn_of _ (by decide +kernel)) ggX5_identified_X5_common
theorem dX5_identified_0 : decode cX5_identified 0 = .ok (.aload_n 0, 1) := by decide +kernel
theorem dX5_identified_1 : decode cX5_identified 1 = .ok (.iload_n 1, 1) := by decide +kernel
theorem dX5_identified_2 : decode cX5_identified 2 = .ok (.iload_n 2, 1) := by decide +kernel
theorem dX5_identified_3 : decode cX5_identified 3 = .ok (.invokevirtual 102, 3) := by decide +kernel
theorem dX5_identified_6 : decode cX5_identified 6 = .ok (.ifCond .eq 7, 3) := by decide +kernel
theorem dX5_identified_9 : decode cX5_identified 9 = .ok (.ldc2_w 151, 3) := by decide +kernel
theorem dX5_identified_12 : decode cX5_identified 12 = .ok (.lreturn, 1) := by decide +kernel
theorem dX5_identified_13 : decode cX5_identified 13 = .ok (.iconst 5, 1) := by decide +kernel
theorem dX5_identified_14 : decode cX5_identified 14 = .ok (.iload_n 1, 1) := by decide +kernel
theorem dX5_identified_15 : decode cX5_identified 15 = .ok (.imul, 1) := by decide +kernel
theorem dX5_identified_16 : decode cX5_identified 16 = .ok (.iload_n 2, 1) := by decide +kernel
theorem dX5_identified_17 : decode cX5_identified 17 = .ok (.iadd, 1) := by decide +kernel
theorem dX5_identified_18 : decode cX5_identified 18 = .ok (.istore 4, 2) := by decide +kernel
theorem dX5_identified_20 : decode cX5_identified 20 = .ok (.aload_n 0, 1) := by decide +kernel
theorem dX5_identified_21 : decode cX5_identified 21 = .ok (.bipush (-7), 2) := by decide +kernel
theorem dX5_identified_23 : decode cX5_identified 23 = .ok (.invokevirtual 138, 3) := by decide +kernel
theorem dX5_identified_26 : decode cX5_identified 26 = .ok (.aload_n 0, 1) := by decide +kernel
theorem dX5_identified_27 : decode cX5_identified 27 = .ok (.iload 4, 2) := by decide +kernel
theorem dX5_identified_29 : decode cX5_identified 29 = .ok (.bipush (-7), 2) := by decide +kernel
theorem dX5_identified_31 : decode cX5_identified 31 = .ok (.invokevirtual 141, 3) := by decide +kernel
theorem dX5_identified_34 : decode cX5_identified 34 = .ok (.ifCond .eq 10, 3) := by decide +kernel
theorem dX5_identified_37 : decode cX5_identified 37 = .ok (.aload_n 0, 1) := by decide +kernel
theorem dX5_identified_38 : decode cX5_identified 38 = .ok (.invokevirtual 144, 3) := by decide +kernel
theorem dX5_identified_41 : decode cX5_identified 41 = .ok (.ifCond .ne 7, 3) := by decide +kernel
theorem dX5_identified_44 : decode cX5_identified 44 = .ok (.ldc2_w 151, 3) := by decide +kernel
theorem dX5_identified_47 : decode cX5_identified 47 = .ok (.lreturn, 1) := by decide +kernel
theorem dX5_identified_48 : decode cX5_identified 48 = .ok (.aload_n 0, 1) := by decide +kernel
theorem dX5_identified_49 : decode cX5_identified 49 = .ok (.getfield 31, 3) := by decide +kernel
theorem dX5_identified_52 : decode cX5_identified 52 = .ok (.iload 4, 2) := by decide +kernel
theorem dX5_identified_54 : decode cX5_identified 54 = .ok (.baload, 1) := by decide +kernel
theorem dX5_identified_55 : decode cX5_identified 55 = .ok (.ifCond .eq 20, 3) := by decide +kernel
theorem dX5_identified_58 : decode cX5_identified 58 = .ok (.iload_n 3, 1) := by decide +kernel
theorem dX5_identified_59 : decode cX5_identified 59 = .ok (.ifCond .ne 14, 3) := by decide +kernel
theorem dX5_identified_62 : decode cX5_identified 62 = .ok (.aload_n 0, 1) := by decide +kernel
theorem dX5_identified_63 : decode cX5_identified 63 = .ok (.getfield 35, 3) := by decide +kernel
theorem dX5_identified_66 : decode cX5_identified 66 = .ok (.iload 4, 2) := by decide +kernel
theorem dX5_identified_68 : decode cX5_identified 68 = .ok (.iaload, 1) := by decide +kernel
theorem dX5_identified_69 : decode cX5_identified 69 = .ok (.i2l, 1) := by decide +kernel
theorem dX5_identified_70 : decode cX5_identified 70 = .ok (.goto 4, 3) := by decide +kernel
theorem dX5_identified_73 : decode cX5_identified 73 = .ok (.lconst 1, 1) := by decide +kernel
theorem dX5_identified_74 : decode cX5_identified 74 = .ok (.lreturn, 1) := by decide +kernel
theorem dX5_identified_75 : decode cX5_identified 75 = .ok (.aload_n 0, 1) := by decide +kernel
theorem dX5_identified_76 : decode cX5_identified 76 = .ok (.getfield 48, 3) := by decide +kernel
theorem dX5_identified_79 : decode cX5_identified 79 = .ok (.bipush 26, 2) := by decide +kernel
theorem dX5_identified_81 : decode cX5_identified 81 = .ok (.aload_n 0, 1) := by decide +kernel
theorem dX5_identified_82 : decode cX5_identified 82 = .ok (.getfield 51, 3) := by decide +kernel
theorem dX5_identified_85 : decode cX5_identified 85 = .ok (.iload 4, 2) := by decide +kernel
theorem dX5_identified_87 : decode cX5_identified 87 = .ok (.iaload, 1) := by decide +kernel
theorem dX5_identified_88 : decode cX5_identified 88 = .ok (.imul, 1) := by decide +kernel
theorem dX5_identified_89 : decode cX5_identified 89 = .ok (.iload 4, 2) := by decide +kernel
theorem dX5_identified_91 : decode cX5_identified 91 = .ok (.iadd, 1) := by decide +kernel
theorem dX5_identified_92 : decode cX5_identified 92 = .ok (.laload, 1) := by decide +kernel
theorem dX5_identified_93 : decode cX5_identified 93 = .ok (.lstore 5, 2) := by decide +kernel
theorem dX5_identified_95 : decode cX5_identified 95 = .ok (.aload_n 0, 1) := by decide +kernel
theorem dX5_identified_96 : decode cX5_identified 96 = .ok (.getfield 48, 3) := by decide +kernel
theorem dX5_identified_99 : decode cX5_identified 99 = .ok (.bipush 26, 2) := by decide +kernel
theorem dX5_identified_101 : decode cX5_identified 101 = .ok (.aload_n 0, 1) := by decide +kernel
theorem dX5_identified_102 : decode cX5_identified 102 = .ok (.getfield 51, 3) := by decide +kernel
theorem dX5_identified_105 : decode cX5_identified 105 = .ok (.iload 4, 2) := by decide +kernel
theorem dX5_identified_107 : decode cX5_identified 107 = .ok (.iaload, 1) := by decide +kernel
theorem dX5_identified_108 : decode cX5_identified 108 = .ok (.imul, 1) := by decide +kernel
theorem dX5_identified_109 : decode cX5_identified 109 = .ok (.bipush 25, 2) := by decide +kernel
theorem dX5_identified_111 : decode cX5_identified 111 = .ok (.iadd, 1) := by decide +kernel
theorem dX5_identified_112 : decode cX5_identified 112 = .ok (.laload, 1) := by decide +kernel
theorem dX5_identified_113 : decode cX5_identified 113 = .ok (.lstore 7, 2) := by decide +kernel
theorem dX5_identified_115 : decode cX5_identified 115 = .ok (.lload 5, 2) := by decide +kernel
theorem dX5_identified_117 : decode cX5_identified 117 = .ok (.lload 7, 2) := by decide +kernel
theorem dX5_identified_119 : decode cX5_identified 119 = .ok (.invokestatic 116, 3) := by decide +kernel
theorem dX5_identified_122 : decode cX5_identified 122 = .ok (.lstore 9, 2) := by decide +kernel
theorem dX5_identified_124 : decode cX5_identified 124 = .ok (.lload 5, 2) := by decide +kernel
theorem dX5_identified_126 : decode cX5_identified 126 = .ok (.lconst 0, 1) := by decide +kernel
theorem dX5_identified_127 : decode cX5_identified 127 = .ok (.lcmp, 1) := by decide +kernel
theorem dX5_identified_128 : decode cX5_identified 128 = .ok (.ifCond .ge 9, 3) := by decide +kernel
theorem dX5_identified_131 : decode cX5_identified 131 = .ok (.ldc2_w 153, 3) := by decide +kernel
theorem dX5_identified_134 : decode cX5_identified 134 = .ok (.goto 4, 3) := by decide +kernel
theorem dX5_identified_137 : decode cX5_identified 137 = .ok (.lconst 1, 1) := by decide +kernel
theorem dX5_identified_138 : decode cX5_identified 138 = .ok (.lstore 11, 2) := by decide +kernel
theorem dX5_identified_140 : decode cX5_identified 140 = .ok (.lload 11, 2) := by decide +kernel
theorem dX5_identified_142 : decode cX5_identified 142 = .ok (.iload_n 3, 1) := by decide +kernel
theorem dX5_identified_143 : decode cX5_identified 143 = .ok (.ifCond .ne 8, 3) := by decide +kernel
theorem dX5_identified_146 : decode cX5_identified 146 = .ok (.lload 7, 2) := by decide +kernel
theorem dX5_identified_148 : decode cX5_identified 148 = .ok (.goto 5, 3) := by decide +kernel
theorem dX5_identified_151 : decode cX5_identified 151 = .ok (.lload 5, 2) := by decide +kernel
theorem dX5_identified_153 : decode cX5_identified 153 = .ok (.lmul, 1) := by decide +kernel
theorem dX5_identified_154 : decode cX5_identified 154 = .ok (.lload 9, 2) := by decide +kernel
theorem dX5_identified_156 : decode cX5_identified 156 = .ok (.ldiv, 1) := by decide +kernel
theorem dX5_identified_157 : decode cX5_identified 157 = .ok (.lreturn, 1) := by decide +kernel
set_option maxRecDepth 20000 in
theorem ggX5_identifiedNumerator_X5_identified : GoodIn wsX5_identifiedNumerator wsX5_identified := goodIn_r _ [5, 6, 7, 8, 9, 10, 11, 12, 13, 14, 4, 15, 16, 17, 18, 19, 20, 21, 22, 23, 24, 25, 26, 27, 28, 29, 30, 31, 32, 33, 34, 35, 36, 37, 38, 39, 40, 41, 42, 43, 44, 45, 46, 47, 48, 49, 50, 51, 52, 53, 54, 55, 56, 57, 58, 59, 60, 61, 62, 63, 64, 65, 66, 67, 68, 69, 70, 71, 72, 73, 74, 75, 76, 77, 78, 79, 80, 81, 82, 83, 84, 85, 86, 87, 88, 89, 90, 91, 92, 93, 94, 95, 96, 97, 98, 99, 100, 101, 102, 103, 104, 105, 106, 107, 108, 109, 110, 111, 112, 113, 114, 115, 116] (by decide +kernel) (by decide +kernel)
set_option maxRecDepth 20000 in
theorem gX5_identifiedNumerator_X5_identified : GoodIn wsX5_identifiedNumerator (wsV RX5 155 RX5 yX5_identified wsX5_identified) := goodIn_app (goodIn_of _ (by decide +kernel)) ggX5_identifiedNumerator_X5_identified
theorem dX5_identifiedNumerator_0 : decode cX5_identifiedNumerator 0 = .ok (.aload_n 0, 1) := by decide +kernel
theorem dX5_identifiedNumerator_1 : decode cX5_identifiedNumerator 1 = .ok (.iload_n 1, 1) := by decide +kernel
theorem dX5_identifiedNumerator_2 : decode cX5_identifiedNumerator 2 = .ok (.iload_n 2, 1) := by decide +kernel
theorem dX5_identifiedNumerator_3 : decode cX5_identifiedNumerator 3 = .ok (.iconst 0, 1) := by decide +kernel
theorem dX5_identifiedNumerator_4 : decode cX5_identifiedNumerator 4 = .ok (.invokevirtual 155, 3) := by decide +kernel
theorem dX5_identifiedNumerator_7 : decode cX5_identifiedNumerator 7 = .ok (.lreturn, 1) := by decide +kernel
set_option maxRecDepth 20000 in
theorem ggX5_identifiedDenominator_X5_identified : GoodIn wsX5_identifiedDenominator wsX5_identified := goodIn_r _ [5, 6, 7, 8, 9, 10, 11, 12, 13, 14, 4, 15, 16, 17, 18, 19, 20, 21, 22, 23, 24, 25, 26, 27, 28, 29, 30, 31, 32, 33, 34, 35, 36, 37, 38, 39, 40, 41, 42, 43, 44, 45, 46, 47, 48, 49, 50, 51, 52, 53, 54, 55, 56, 57, 58, 59, 60, 61, 62, 63, 64, 65, 66, 67, 68, 69, 70, 71, 72, 73, 74, 75, 76, 77, 78, 79, 80, 81, 82, 83, 84, 85, 86, 87, 88, 89, 90, 91, 92, 93, 94, 95, 96, 97, 98, 99, 100, 101, 102, 103, 104, 105, 106, 107, 108, 109, 110, 111, 112, 113, 114, 115, 116] (by decide +kernel) (by decide +kernel)
set_option maxRecDepth 20000 in
theorem gX5_identifiedDenominator_X5_identified : GoodIn wsX5_identifiedDenominator (wsV RX5 155 RX5 yX5_identified wsX5_identified) := goodIn_app (goodIn_of _ (by decide +kernel)) ggX5_identifiedDenominator_X5_identified
theorem dX5_identifiedDenominator_0 : decode cX5_identifiedDenominator 0 = .ok (.aload_n 0, 1) := by decide +kernel
theorem dX5_identifiedDenominator_1 : decode cX5_identifiedDenominator 1 = .ok (.iload_n 1, 1) := by decide +kernel
theorem dX5_identifiedDenominator_2 : decode cX5_identifiedDenominator 2 = .ok (.iload_n 2, 1) := by decide +kernel
theorem dX5_identifiedDenominator_3 : decode cX5_identifiedDenominator 3 = .ok (.iconst 1, 1) := by decide +kernel
theorem dX5_identifiedDenominator_4 : decode cX5_identifiedDenominator 4 = .ok (.invokevirtual 155, 3) := by decide +kernel
theorem dX5_identifiedDenominator_7 : decode cX5_identifiedDenominator 7 = .ok (.lreturn, 1) := by decide +kernel
set_option maxRecDepth 20000 in
theorem ggX5_bestPair_X5_findRoutes : GoodIn wsX5_bestPair wsX5_findRoutes := goodIn_r _ [6, 7, 8, 9, 10, 11, 12, 13, 14, 15, 16, 5, 17, 18, 19, 20, 21, 22, 23, 24, 25, 26, 27, 28, 29, 30, 77, 78, 79, 80, 81, 82, 83, 84, 85, 86, 87, 88, 89, 90, 91, 92, 93, 94, 95, 96] (by decide +kernel) (by decide +kernel)
set_option maxRecDepth 20000 in
theorem gX5_bestPair_X5_findRoutes : GoodIn wsX5_bestPair (wsV RX5 96 RX5 yX5_findRoutes wsX5_findRoutes) := goodIn_app (goodIn_of _ (by decide +kernel)) ggX5_bestPair_X5_findRoutes
set_option maxRecDepth 20000 in
theorem ggX5_bestPair_X5_reduces : GoodIn wsX5_bestPair wsX5_reduces := goodIn_r _ [34, 35, 9, 36, 37, 38, 39, 40, 5, 41, 42, 43, 44, 45, 46, 47, 48, 49, 13, 50, 51, 52, 53, 54, 55, 56, 57, 58, 59, 60, 61, 62, 63, 64, 65, 66, 67, 68, 77, 78, 79, 80, 81, 82, 83, 84, 85, 86, 87, 88, 89, 90, 91, 92, 93, 94, 95, 96] (by decide +kernel) (by decide +kernel)
set_option maxRecDepth 20000 in
theorem gX5_bestPair_X5_reduces : GoodIn wsX5_bestPair (wsV RX5 138 RX5 yX5_reduces wsX5_reduces) := goodIn_app (goodIn_of _ (by decide +kernel)) ggX5_bestPair_X5_reduces
set_option maxRecDepth 20000 in
theorem ggX5_bestPair_X5_isSure : GoodIn wsX5_bestPair wsX5_isSure := goodIn_r _ [72, 43, 37, 36, 46, 47, 48, 5, 49, 13, 77, 78, 79, 80, 81, 82, 83, 84, 85, 86, 87, 88, 89, 90, 91, 92, 93, 94, 95, 96] (by decide +kernel) (by decide +kernel)
set_option maxRecDepth 20000 in
theorem gX5_bestPair_X5_isSure : GoodIn wsX5_bestPair (wsV RX5 141 RX5 yX5_isSure wsX5_isSure) := goodIn_app (goodIn_of _ (by decide +kernel)) ggX5_bestPair_X5_isSure
set_option maxRecDepth 20000 in
theorem ggX5_bestPair_X5_hasRoute : GoodIn wsX5_bestPair wsX5_hasRoute := goodIn_r _ [49, 13, 77, 78, 79, 80, 81, 82, 83, 84, 85, 86, 87, 88, 89, 90, 91, 92, 93, 94, 95, 96] (by decide +kernel) (by decide +kernel)
set_option maxRecDepth 20000 in
theorem gX5_bestPair_X5_hasRoute : GoodIn wsX5_bestPair (wsV RX5 99 RX5 yX5_hasRoute wsX5_hasRoute) := goodIn_app (goodIn_of _ (by decide +kernel)) ggX5_bestPair_X5_hasRoute
set_option maxRecDepth 20000 in
theorem ggX5_bestPair_X5_sureCount : GoodIn wsX5_bestPair wsX5_sureCount := goodIn_r _ [76, 31, 32, 33, 5, 34, 35, 9, 36, 37, 38, 39, 40, 41, 42, 43, 44, 45, 46, 47, 48, 49, 13, 50, 51, 52, 53, 54, 55, 56, 57, 58, 59, 60, 61, 62, 63, 64, 65, 66, 67, 68, 69, 70, 71, 72, 77, 78, 79, 80, 81, 82, 83, 84, 85, 86, 87, 88, 89, 90, 91, 92, 93, 94, 95, 96] (by decide +kernel) (by decide +kernel)
set_option maxRecDepth 20000 in
theorem gX5_bestPair_X5_sureCount : GoodIn wsX5_bestPair (wsV RX5 148 RX5 yX5_sureCount wsX5_sureCount) := goodIn_app (goodIn_of _ (by decide +kernel)) ggX5_bestPair_X5_sureCount
theorem dX5_bestPair_0 : decode cX5_bestPair 0 = .ok (.aload_n 0, 1) := by decide +kernel
theorem dX5_bestPair_1 : decode cX5_bestPair 1 = .ok (.invokevirtual 96, 3) := by decide +kernel
theorem dX5_bestPair_4 : decode cX5_bestPair 4 = .ok (.aload_n 0, 1) := by decide +kernel
theorem dX5_bestPair_5 : decode cX5_bestPair 5 = .ok (.bipush (-7), 2) := by decide +kernel
theorem dX5_bestPair_7 : decode cX5_bestPair 7 = .ok (.invokevirtual 138, 3) := by decide +kernel
theorem dX5_bestPair_10 : decode cX5_bestPair 10 = .ok (.iconst 0, 1) := by decide +kernel
theorem dX5_bestPair_11 : decode cX5_bestPair 11 = .ok (.istore_n 1, 1) := by decide +kernel
theorem dX5_bestPair_12 : decode cX5_bestPair 12 = .ok (.iload_n 1, 1) := by decide +kernel
theorem dX5_bestPair_13 : decode cX5_bestPair 13 = .ok (.bipush 25, 2) := by decide +kernel
theorem dX5_bestPair_15 : decode cX5_bestPair 15 = .ok (.if_icmp .ge 22, 3) := by decide +kernel
theorem dX5_bestPair_18 : decode cX5_bestPair 18 = .ok (.aload_n 0, 1) := by decide +kernel
theorem dX5_bestPair_19 : decode cX5_bestPair 19 = .ok (.getfield 54, 3) := by decide +kernel
theorem dX5_bestPair_22 : decode cX5_bestPair 22 = .ok (.iload_n 1, 1) := by decide +kernel
theorem dX5_bestPair_23 : decode cX5_bestPair 23 = .ok (.aload_n 0, 1) := by decide +kernel
theorem dX5_bestPair_24 : decode cX5_bestPair 24 = .ok (.iload_n 1, 1) := by decide +kernel
theorem dX5_bestPair_25 : decode cX5_bestPair 25 = .ok (.bipush (-7), 2) := by decide +kernel
theorem dX5_bestPair_27 : decode cX5_bestPair 27 = .ok (.invokevirtual 141, 3) := by decide +kernel
theorem dX5_bestPair_30 : decode cX5_bestPair 30 = .ok (.bastore, 1) := by decide +kernel
theorem dX5_bestPair_31 : decode cX5_bestPair 31 = .ok (.iinc 1 1, 3) := by decide +kernel
theorem dX5_bestPair_34 : decode cX5_bestPair 34 = .ok (.goto (-22), 3) := by decide +kernel
theorem dX5_bestPair_37 : decode cX5_bestPair 37 = .ok (.bipush (-7), 2) := by decide +kernel
theorem dX5_bestPair_39 : decode cX5_bestPair 39 = .ok (.istore_n 1, 1) := by decide +kernel
theorem dX5_bestPair_40 : decode cX5_bestPair 40 = .ok (.iconst 0, 1) := by decide +kernel
theorem dX5_bestPair_41 : decode cX5_bestPair 41 = .ok (.istore_n 2, 1) := by decide +kernel
theorem dX5_bestPair_42 : decode cX5_bestPair 42 = .ok (.iconst 0, 1) := by decide +kernel
theorem dX5_bestPair_43 : decode cX5_bestPair 43 = .ok (.istore_n 3, 1) := by decide +kernel
theorem dX5_bestPair_44 : decode cX5_bestPair 44 = .ok (.iload_n 3, 1) := by decide +kernel
theorem dX5_bestPair_45 : decode cX5_bestPair 45 = .ok (.bipush 25, 2) := by decide +kernel
theorem dX5_bestPair_47 : decode cX5_bestPair 47 = .ok (.if_icmp .ge 58, 3) := by decide +kernel
theorem dX5_bestPair_50 : decode cX5_bestPair 50 = .ok (.aload_n 0, 1) := by decide +kernel
theorem dX5_bestPair_51 : decode cX5_bestPair 51 = .ok (.iload_n 3, 1) := by decide +kernel
theorem dX5_bestPair_52 : decode cX5_bestPair 52 = .ok (.invokevirtual 99, 3) := by decide +kernel
theorem dX5_bestPair_55 : decode cX5_bestPair 55 = .ok (.ifCond .eq 44, 3) := by decide +kernel
theorem dX5_bestPair_58 : decode cX5_bestPair 58 = .ok (.aload_n 0, 1) := by decide +kernel
theorem dX5_bestPair_59 : decode cX5_bestPair 59 = .ok (.getfield 54, 3) := by decide +kernel
theorem dX5_bestPair_62 : decode cX5_bestPair 62 = .ok (.iload_n 3, 1) := by decide +kernel
theorem dX5_bestPair_63 : decode cX5_bestPair 63 = .ok (.baload, 1) := by decide +kernel
theorem dX5_bestPair_64 : decode cX5_bestPair 64 = .ok (.ifCond .ne 35, 3) := by decide +kernel
theorem dX5_bestPair_67 : decode cX5_bestPair 67 = .ok (.aload_n 0, 1) := by decide +kernel
theorem dX5_bestPair_68 : decode cX5_bestPair 68 = .ok (.iload_n 3, 1) := by decide +kernel
theorem dX5_bestPair_69 : decode cX5_bestPair 69 = .ok (.invokevirtual 148, 3) := by decide +kernel
theorem dX5_bestPair_72 : decode cX5_bestPair 72 = .ok (.istore 4, 2) := by decide +kernel
theorem dX5_bestPair_74 : decode cX5_bestPair 74 = .ok (.iload 4, 2) := by decide +kernel
theorem dX5_bestPair_76 : decode cX5_bestPair 76 = .ok (.iload_n 2, 1) := by decide +kernel
theorem dX5_bestPair_77 : decode cX5_bestPair 77 = .ok (.if_icmp .le 7, 3) := by decide +kernel
theorem dX5_bestPair_80 : decode cX5_bestPair 80 = .ok (.iload_n 3, 1) := by decide +kernel
theorem dX5_bestPair_81 : decode cX5_bestPair 81 = .ok (.goto 4, 3) := by decide +kernel
theorem dX5_bestPair_84 : decode cX5_bestPair 84 = .ok (.iload_n 1, 1) := by decide +kernel
theorem dX5_bestPair_85 : decode cX5_bestPair 85 = .ok (.istore_n 1, 1) := by decide +kernel
theorem dX5_bestPair_86 : decode cX5_bestPair 86 = .ok (.iload 4, 2) := by decide +kernel
theorem dX5_bestPair_88 : decode cX5_bestPair 88 = .ok (.iload_n 2, 1) := by decide +kernel
theorem dX5_bestPair_89 : decode cX5_bestPair 89 = .ok (.if_icmp .le 8, 3) := by decide +kernel
theorem dX5_bestPair_92 : decode cX5_bestPair 92 = .ok (.iload 4, 2) := by decide +kernel
theorem dX5_bestPair_94 : decode cX5_bestPair 94 = .ok (.goto 4, 3) := by decide +kernel
theorem dX5_bestPair_97 : decode cX5_bestPair 97 = .ok (.iload_n 2, 1) := by decide +kernel
theorem dX5_bestPair_98 : decode cX5_bestPair 98 = .ok (.istore_n 2, 1) := by decide +kernel
theorem dX5_bestPair_99 : decode cX5_bestPair 99 = .ok (.iinc 3 1, 3) := by decide +kernel
theorem dX5_bestPair_102 : decode cX5_bestPair 102 = .ok (.goto (-58), 3) := by decide +kernel
theorem dX5_bestPair_105 : decode cX5_bestPair 105 = .ok (.iload_n 1, 1) := by decide +kernel
theorem dX5_bestPair_106 : decode cX5_bestPair 106 = .ok (.bipush (-7), 2) := by decide +kernel
theorem dX5_bestPair_108 : decode cX5_bestPair 108 = .ok (.if_icmp .ne 8, 3) := by decide +kernel
theorem dX5_bestPair_111 : decode cX5_bestPair 111 = .ok (.bipush (-7), 2) := by decide +kernel
theorem dX5_bestPair_113 : decode cX5_bestPair 113 = .ok (.goto 13, 3) := by decide +kernel
theorem dX5_bestPair_116 : decode cX5_bestPair 116 = .ok (.bipush 10, 2) := by decide +kernel
theorem dX5_bestPair_118 : decode cX5_bestPair 118 = .ok (.iload_n 1, 1) := by decide +kernel
theorem dX5_bestPair_119 : decode cX5_bestPair 119 = .ok (.iconst 5, 1) := by decide +kernel
theorem dX5_bestPair_120 : decode cX5_bestPair 120 = .ok (.idiv, 1) := by decide +kernel
theorem dX5_bestPair_121 : decode cX5_bestPair 121 = .ok (.imul, 1) := by decide +kernel
theorem dX5_bestPair_122 : decode cX5_bestPair 122 = .ok (.iload_n 1, 1) := by decide +kernel
theorem dX5_bestPair_123 : decode cX5_bestPair 123 = .ok (.iconst 5, 1) := by decide +kernel
theorem dX5_bestPair_124 : decode cX5_bestPair 124 = .ok (.irem, 1) := by decide +kernel
theorem dX5_bestPair_125 : decode cX5_bestPair 125 = .ok (.iadd, 1) := by decide +kernel
theorem dX5_bestPair_126 : decode cX5_bestPair 126 = .ok (.ireturn, 1) := by decide +kernel
set_option maxRecDepth 20000 in
theorem ggX5_applyGravity_X5_findRoutes : GoodIn wsX5_applyGravity wsX5_findRoutes := goodIn_r _ [10, 11, 12, 13, 1, 14, 15, 16, 17, 18, 19, 9, 20, 21, 22, 23, 24, 25, 26, 27, 28, 29, 30, 31, 32, 33, 38, 39, 40, 41, 42, 43, 44, 45, 46, 47, 48, 49, 50, 51, 52, 53, 54, 55, 56, 57] (by decide +kernel) (by decide +kernel)
set_option maxRecDepth 20000 in
theorem gX5_applyGravity_X5_findRoutes : GoodIn wsX5_applyGravity (wsV RX5 96 RX5 yX5_findRoutes wsX5_findRoutes) := goodIn_app (goodIn_of _ (by decide +kernel)) ggX5_applyGravity_X5_findRoutes
set_option maxRecDepth 20000 in
theorem ggX5_applyGravity_X5_hasRoute : GoodIn wsX5_applyGravity wsX5_hasRoute := goodIn_r _ [37, 16, 38, 39, 40, 41, 42, 43, 44, 45, 46, 47, 48, 49, 50, 51, 52, 53, 54, 55, 56, 57] (by decide +kernel) (by decide +kernel)
set_option maxRecDepth 20000 in
theorem gX5_applyGravity_X5_hasRoute : GoodIn wsX5_applyGravity (wsV RX5 99 RX5 yX5_hasRoute wsX5_hasRoute) := goodIn_app (goodIn_of _ (by decide +kernel)) ggX5_applyGravity_X5_hasRoute
theorem dX5_applyGravity_0 : decode cX5_applyGravity 0 = .ok (.aload_n 0, 1) := by decide +kernel
theorem dX5_applyGravity_1 : decode cX5_applyGravity 1 = .ok (.invokevirtual 96, 3) := by decide +kernel
theorem dX5_applyGravity_4 : decode cX5_applyGravity 4 = .ok (.lconst 0, 1) := by decide +kernel
theorem dX5_applyGravity_5 : decode cX5_applyGravity 5 = .ok (.lstore_n 1, 1) := by decide +kernel
theorem dX5_applyGravity_6 : decode cX5_applyGravity 6 = .ok (.iconst 0, 1) := by decide +kernel
theorem dX5_applyGravity_7 : decode cX5_applyGravity 7 = .ok (.istore_n 3, 1) := by decide +kernel
theorem dX5_applyGravity_8 : decode cX5_applyGravity 8 = .ok (.iconst 0, 1) := by decide +kernel
theorem dX5_applyGravity_9 : decode cX5_applyGravity 9 = .ok (.istore 4, 2) := by decide +kernel
theorem dX5_applyGravity_11 : decode cX5_applyGravity 11 = .ok (.iload 4, 2) := by decide +kernel
theorem dX5_applyGravity_13 : decode cX5_applyGravity 13 = .ok (.aload_n 0, 1) := by decide +kernel
theorem dX5_applyGravity_14 : decode cX5_applyGravity 14 = .ok (.getfield 60, 3) := by decide +kernel
theorem dX5_applyGravity_17 : decode cX5_applyGravity 17 = .ok (.if_icmp .ge 20, 3) := by decide +kernel
theorem dX5_applyGravity_20 : decode cX5_applyGravity 20 = .ok (.lload_n 1, 1) := by decide +kernel
theorem dX5_applyGravity_21 : decode cX5_applyGravity 21 = .ok (.aload_n 0, 1) := by decide +kernel
theorem dX5_applyGravity_22 : decode cX5_applyGravity 22 = .ok (.getfield 25, 3) := by decide +kernel
theorem dX5_applyGravity_25 : decode cX5_applyGravity 25 = .ok (.iload 4, 2) := by decide +kernel
theorem dX5_applyGravity_27 : decode cX5_applyGravity 27 = .ok (.iaload, 1) := by decide +kernel
theorem dX5_applyGravity_28 : decode cX5_applyGravity 28 = .ok (.i2l, 1) := by decide +kernel
theorem dX5_applyGravity_29 : decode cX5_applyGravity 29 = .ok (.ladd, 1) := by decide +kernel
theorem dX5_applyGravity_30 : decode cX5_applyGravity 30 = .ok (.lstore_n 1, 1) := by decide +kernel
theorem dX5_applyGravity_31 : decode cX5_applyGravity 31 = .ok (.iinc 4 1, 3) := by decide +kernel
theorem dX5_applyGravity_34 : decode cX5_applyGravity 34 = .ok (.goto (-23), 3) := by decide +kernel
theorem dX5_applyGravity_37 : decode cX5_applyGravity 37 = .ok (.iconst 0, 1) := by decide +kernel
theorem dX5_applyGravity_38 : decode cX5_applyGravity 38 = .ok (.istore 4, 2) := by decide +kernel
theorem dX5_applyGravity_40 : decode cX5_applyGravity 40 = .ok (.iload 4, 2) := by decide +kernel
theorem dX5_applyGravity_42 : decode cX5_applyGravity 42 = .ok (.bipush 25, 2) := by decide +kernel
theorem dX5_applyGravity_44 : decode cX5_applyGravity 44 = .ok (.if_icmp .ge 82, 3) := by decide +kernel
theorem dX5_applyGravity_47 : decode cX5_applyGravity 47 = .ok (.aload_n 0, 1) := by decide +kernel
theorem dX5_applyGravity_48 : decode cX5_applyGravity 48 = .ok (.getfield 38, 3) := by decide +kernel
theorem dX5_applyGravity_51 : decode cX5_applyGravity 51 = .ok (.iload 4, 2) := by decide +kernel
theorem dX5_applyGravity_53 : decode cX5_applyGravity 53 = .ok (.aload_n 0, 1) := by decide +kernel
theorem dX5_applyGravity_54 : decode cX5_applyGravity 54 = .ok (.iload 4, 2) := by decide +kernel
theorem dX5_applyGravity_56 : decode cX5_applyGravity 56 = .ok (.invokevirtual 99, 3) := by decide +kernel
theorem dX5_applyGravity_59 : decode cX5_applyGravity 59 = .ok (.ifCond .eq 39, 3) := by decide +kernel
theorem dX5_applyGravity_62 : decode cX5_applyGravity 62 = .ok (.lload_n 1, 1) := by decide +kernel
theorem dX5_applyGravity_63 : decode cX5_applyGravity 63 = .ok (.lconst 0, 1) := by decide +kernel
theorem dX5_applyGravity_64 : decode cX5_applyGravity 64 = .ok (.lcmp, 1) := by decide +kernel
theorem dX5_applyGravity_65 : decode cX5_applyGravity 65 = .ok (.ifCond .le 33, 3) := by decide +kernel
theorem dX5_applyGravity_68 : decode cX5_applyGravity 68 = .ok (.aload_n 0, 1) := by decide +kernel
theorem dX5_applyGravity_69 : decode cX5_applyGravity 69 = .ok (.getfield 25, 3) := by decide +kernel
theorem dX5_applyGravity_72 : decode cX5_applyGravity 72 = .ok (.iload 4, 2) := by decide +kernel
theorem dX5_applyGravity_74 : decode cX5_applyGravity 74 = .ok (.iconst 5, 1) := by decide +kernel
theorem dX5_applyGravity_75 : decode cX5_applyGravity 75 = .ok (.idiv, 1) := by decide +kernel
theorem dX5_applyGravity_76 : decode cX5_applyGravity 76 = .ok (.iaload, 1) := by decide +kernel
theorem dX5_applyGravity_77 : decode cX5_applyGravity 77 = .ok (.i2l, 1) := by decide +kernel
theorem dX5_applyGravity_78 : decode cX5_applyGravity 78 = .ok (.aload_n 0, 1) := by decide +kernel
theorem dX5_applyGravity_79 : decode cX5_applyGravity 79 = .ok (.getfield 28, 3) := by decide +kernel
theorem dX5_applyGravity_82 : decode cX5_applyGravity 82 = .ok (.iload 4, 2) := by decide +kernel
theorem dX5_applyGravity_84 : decode cX5_applyGravity 84 = .ok (.iconst 5, 1) := by decide +kernel
theorem dX5_applyGravity_85 : decode cX5_applyGravity 85 = .ok (.irem, 1) := by decide +kernel
theorem dX5_applyGravity_86 : decode cX5_applyGravity 86 = .ok (.iaload, 1) := by decide +kernel
theorem dX5_applyGravity_87 : decode cX5_applyGravity 87 = .ok (.i2l, 1) := by decide +kernel
theorem dX5_applyGravity_88 : decode cX5_applyGravity 88 = .ok (.lmul, 1) := by decide +kernel
theorem dX5_applyGravity_89 : decode cX5_applyGravity 89 = .ok (.ldc2_w 159, 3) := by decide +kernel
theorem dX5_applyGravity_92 : decode cX5_applyGravity 92 = .ok (.lmul, 1) := by decide +kernel
theorem dX5_applyGravity_93 : decode cX5_applyGravity 93 = .ok (.lload_n 1, 1) := by decide +kernel
theorem dX5_applyGravity_94 : decode cX5_applyGravity 94 = .ok (.ldiv, 1) := by decide +kernel
theorem dX5_applyGravity_95 : decode cX5_applyGravity 95 = .ok (.goto 4, 3) := by decide +kernel
theorem dX5_applyGravity_98 : decode cX5_applyGravity 98 = .ok (.lconst 0, 1) := by decide +kernel
theorem dX5_applyGravity_99 : decode cX5_applyGravity 99 = .ok (.lastore, 1) := by decide +kernel
theorem dX5_applyGravity_100 : decode cX5_applyGravity 100 = .ok (.iload_n 3, 1) := by decide +kernel
theorem dX5_applyGravity_101 : decode cX5_applyGravity 101 = .ok (.aload_n 0, 1) := by decide +kernel
theorem dX5_applyGravity_102 : decode cX5_applyGravity 102 = .ok (.getfield 38, 3) := by decide +kernel
theorem dX5_applyGravity_105 : decode cX5_applyGravity 105 = .ok (.iload 4, 2) := by decide +kernel
theorem dX5_applyGravity_107 : decode cX5_applyGravity 107 = .ok (.laload, 1) := by decide +kernel
theorem dX5_applyGravity_108 : decode cX5_applyGravity 108 = .ok (.lconst 0, 1) := by decide +kernel
theorem dX5_applyGravity_109 : decode cX5_applyGravity 109 = .ok (.lcmp, 1) := by decide +kernel
theorem dX5_applyGravity_110 : decode cX5_applyGravity 110 = .ok (.ifCond .le 7, 3) := by decide +kernel
theorem dX5_applyGravity_113 : decode cX5_applyGravity 113 = .ok (.iconst 1, 1) := by decide +kernel
theorem dX5_applyGravity_114 : decode cX5_applyGravity 114 = .ok (.goto 4, 3) := by decide +kernel
theorem dX5_applyGravity_117 : decode cX5_applyGravity 117 = .ok (.iconst 0, 1) := by decide +kernel
theorem dX5_applyGravity_118 : decode cX5_applyGravity 118 = .ok (.iadd, 1) := by decide +kernel
theorem dX5_applyGravity_119 : decode cX5_applyGravity 119 = .ok (.istore_n 3, 1) := by decide +kernel
theorem dX5_applyGravity_120 : decode cX5_applyGravity 120 = .ok (.iinc 4 1, 3) := by decide +kernel
theorem dX5_applyGravity_123 : decode cX5_applyGravity 123 = .ok (.goto (-83), 3) := by decide +kernel
theorem dX5_applyGravity_126 : decode cX5_applyGravity 126 = .ok (.iload_n 3, 1) := by decide +kernel
theorem dX5_applyGravity_127 : decode cX5_applyGravity 127 = .ok (.ireturn, 1) := by decide +kernel
set_option maxRecDepth 20000 in
theorem ggX5_keeps_X5_findRoutes : GoodIn wsX5_keeps wsX5_findRoutes := goodIn_r _ [7, 8, 9, 10, 11, 12, 13, 14, 15, 16, 17, 6, 18, 19, 20, 21, 22, 23, 24, 25, 26, 27, 28, 29, 30, 31, 36, 37, 38, 39, 40, 41, 42, 43, 44, 45, 46, 47, 48, 49, 50, 51, 52, 53, 54, 55] (by decide +kernel) (by decide +kernel)
set_option maxRecDepth 20000 in
theorem gX5_keeps_X5_findRoutes : GoodIn wsX5_keeps (wsV RX5 96 RX5 yX5_findRoutes wsX5_findRoutes) := goodIn_app (goodIn_of _ (by decide +kernel)) ggX5_keeps_X5_findRoutes
set_option maxRecDepth 20000 in
theorem ggX5_keeps_X5_hasRoute : GoodIn wsX5_keeps wsX5_hasRoute := goodIn_r _ [35, 14, 36, 37, 38, 39, 40, 41, 42, 43, 44, 45, 46, 47, 48, 49, 50, 51, 52, 53, 54, 55] (by decide +kernel) (by decide +kernel)
set_option maxRecDepth 20000 in
theorem gX5_keeps_X5_hasRoute : GoodIn wsX5_keeps (wsV RX5 99 RX5 yX5_hasRoute wsX5_hasRoute) := goodIn_app (goodIn_of _ (by decide +kernel)) ggX5_keeps_X5_hasRoute
theorem dX5_keeps_0 : decode cX5_keeps 0 = .ok (.aload_n 0, 1) := by decide +kernel
theorem dX5_keeps_1 : decode cX5_keeps 1 = .ok (.invokevirtual 96, 3) := by decide +kernel
theorem dX5_keeps_4 : decode cX5_keeps 4 = .ok (.iconst 0, 1) := by decide +kernel
theorem dX5_keeps_5 : decode cX5_keeps 5 = .ok (.istore_n 1, 1) := by decide +kernel
theorem dX5_keeps_6 : decode cX5_keeps 6 = .ok (.iload_n 1, 1) := by decide +kernel
theorem dX5_keeps_7 : decode cX5_keeps 7 = .ok (.bipush 25, 2) := by decide +kernel
theorem dX5_keeps_9 : decode cX5_keeps 9 = .ok (.if_icmp .ge 45, 3) := by decide +kernel
theorem dX5_keeps_12 : decode cX5_keeps 12 = .ok (.aload_n 0, 1) := by decide +kernel
theorem dX5_keeps_13 : decode cX5_keeps 13 = .ok (.getfield 57, 3) := by decide +kernel
theorem dX5_keeps_16 : decode cX5_keeps 16 = .ok (.iload_n 1, 1) := by decide +kernel
theorem dX5_keeps_17 : decode cX5_keeps 17 = .ok (.aload_n 0, 1) := by decide +kernel
theorem dX5_keeps_18 : decode cX5_keeps 18 = .ok (.getfield 38, 3) := by decide +kernel
theorem dX5_keeps_21 : decode cX5_keeps 21 = .ok (.iload_n 1, 1) := by decide +kernel
theorem dX5_keeps_22 : decode cX5_keeps 22 = .ok (.laload, 1) := by decide +kernel
theorem dX5_keeps_23 : decode cX5_keeps 23 = .ok (.lastore, 1) := by decide +kernel
theorem dX5_keeps_24 : decode cX5_keeps 24 = .ok (.aload_n 0, 1) := by decide +kernel
theorem dX5_keeps_25 : decode cX5_keeps 25 = .ok (.getfield 38, 3) := by decide +kernel
theorem dX5_keeps_28 : decode cX5_keeps 28 = .ok (.iload_n 1, 1) := by decide +kernel
theorem dX5_keeps_29 : decode cX5_keeps 29 = .ok (.aload_n 0, 1) := by decide +kernel
theorem dX5_keeps_30 : decode cX5_keeps 30 = .ok (.iload_n 1, 1) := by decide +kernel
theorem dX5_keeps_31 : decode cX5_keeps 31 = .ok (.invokevirtual 99, 3) := by decide +kernel
theorem dX5_keeps_34 : decode cX5_keeps 34 = .ok (.ifCond .eq 12, 3) := by decide +kernel
theorem dX5_keeps_37 : decode cX5_keeps 37 = .ok (.aload_n 0, 1) := by decide +kernel
theorem dX5_keeps_38 : decode cX5_keeps 38 = .ok (.getfield 38, 3) := by decide +kernel
theorem dX5_keeps_41 : decode cX5_keeps 41 = .ok (.iload_n 1, 1) := by decide +kernel
theorem dX5_keeps_42 : decode cX5_keeps 42 = .ok (.laload, 1) := by decide +kernel
theorem dX5_keeps_43 : decode cX5_keeps 43 = .ok (.goto 4, 3) := by decide +kernel
theorem dX5_keeps_46 : decode cX5_keeps 46 = .ok (.lconst 0, 1) := by decide +kernel
theorem dX5_keeps_47 : decode cX5_keeps 47 = .ok (.lastore, 1) := by decide +kernel
theorem dX5_keeps_48 : decode cX5_keeps 48 = .ok (.iinc 1 1, 3) := by decide +kernel
theorem dX5_keeps_51 : decode cX5_keeps 51 = .ok (.goto (-45), 3) := by decide +kernel
theorem dX5_keeps_54 : decode cX5_keeps 54 = .ok (.return_, 1) := by decide +kernel
theorem dX5_changed_0 : decode cX5_changed 0 = .ok (.iconst 0, 1) := by decide +kernel
theorem dX5_changed_1 : decode cX5_changed 1 = .ok (.istore_n 1, 1) := by decide +kernel
theorem dX5_changed_2 : decode cX5_changed 2 = .ok (.iconst 0, 1) := by decide +kernel
theorem dX5_changed_3 : decode cX5_changed 3 = .ok (.istore_n 2, 1) := by decide +kernel
theorem dX5_changed_4 : decode cX5_changed 4 = .ok (.iload_n 2, 1) := by decide +kernel
theorem dX5_changed_5 : decode cX5_changed 5 = .ok (.bipush 25, 2) := by decide +kernel
theorem dX5_changed_7 : decode cX5_changed 7 = .ok (.if_icmp .ge 33, 3) := by decide +kernel
theorem dX5_changed_10 : decode cX5_changed 10 = .ok (.iload_n 1, 1) := by decide +kernel
theorem dX5_changed_11 : decode cX5_changed 11 = .ok (.aload_n 0, 1) := by decide +kernel
theorem dX5_changed_12 : decode cX5_changed 12 = .ok (.getfield 38, 3) := by decide +kernel
theorem dX5_changed_15 : decode cX5_changed 15 = .ok (.iload_n 2, 1) := by decide +kernel
theorem dX5_changed_16 : decode cX5_changed 16 = .ok (.laload, 1) := by decide +kernel
theorem dX5_changed_17 : decode cX5_changed 17 = .ok (.aload_n 0, 1) := by decide +kernel
theorem dX5_changed_18 : decode cX5_changed 18 = .ok (.getfield 57, 3) := by decide +kernel
theorem dX5_changed_21 : decode cX5_changed 21 = .ok (.iload_n 2, 1) := by decide +kernel
theorem dX5_changed_22 : decode cX5_changed 22 = .ok (.laload, 1) := by decide +kernel
theorem dX5_changed_23 : decode cX5_changed 23 = .ok (.lcmp, 1) := by decide +kernel
theorem dX5_changed_24 : decode cX5_changed 24 = .ok (.ifCond .ne 7, 3) := by decide +kernel
theorem dX5_changed_27 : decode cX5_changed 27 = .ok (.iconst 0, 1) := by decide +kernel
theorem dX5_changed_28 : decode cX5_changed 28 = .ok (.goto 4, 3) := by decide +kernel
theorem dX5_changed_31 : decode cX5_changed 31 = .ok (.iconst 1, 1) := by decide +kernel
theorem dX5_changed_32 : decode cX5_changed 32 = .ok (.iadd, 1) := by decide +kernel
theorem dX5_changed_33 : decode cX5_changed 33 = .ok (.istore_n 1, 1) := by decide +kernel
theorem dX5_changed_34 : decode cX5_changed 34 = .ok (.iinc 2 1, 3) := by decide +kernel
theorem dX5_changed_37 : decode cX5_changed 37 = .ok (.goto (-33), 3) := by decide +kernel
theorem dX5_changed_40 : decode cX5_changed 40 = .ok (.iload_n 1, 1) := by decide +kernel
theorem dX5_changed_41 : decode cX5_changed 41 = .ok (.ireturn, 1) := by decide +kernel
set_option maxRecDepth 20000 in
theorem ggX5_isOf_X5_uses : GoodIn wsX5_isOf wsX5_uses := goodIn_r _ [5, 6, 7, 8, 9, 10, 11, 12, 13, 14, 15, 16, 17, 18, 19, 20, 21, 22, 23, 24, 25, 26] (by decide +kernel) (by decide +kernel)
set_option maxRecDepth 20000 in
theorem gX5_isOf_X5_uses : GoodIn wsX5_isOf (wsV RX5 105 RX5 yX5_uses wsX5_uses) := goodIn_app (goodIn_of _ (by decide +kernel)) ggX5_isOf_X5_uses
theorem dX5_isOf_0 : decode cX5_isOf 0 = .ok (.iload_n 2, 1) := by decide +kernel
theorem dX5_isOf_1 : decode cX5_isOf 1 = .ok (.ifCond .ne 18, 3) := by decide +kernel
theorem dX5_isOf_4 : decode cX5_isOf 4 = .ok (.iload_n 1, 1) := by decide +kernel
theorem dX5_isOf_5 : decode cX5_isOf 5 = .ok (.iconst 5, 1) := by decide +kernel
theorem dX5_isOf_6 : decode cX5_isOf 6 = .ok (.idiv, 1) := by decide +kernel
theorem dX5_isOf_7 : decode cX5_isOf 7 = .ok (.iload_n 3, 1) := by decide +kernel
theorem dX5_isOf_8 : decode cX5_isOf 8 = .ok (.if_icmp .ne 7, 3) := by decide +kernel
theorem dX5_isOf_11 : decode cX5_isOf 11 = .ok (.iconst 1, 1) := by decide +kernel
theorem dX5_isOf_12 : decode cX5_isOf 12 = .ok (.goto 33, 3) := by decide +kernel
theorem dX5_isOf_15 : decode cX5_isOf 15 = .ok (.iconst 0, 1) := by decide +kernel
theorem dX5_isOf_16 : decode cX5_isOf 16 = .ok (.goto 29, 3) := by decide +kernel
theorem dX5_isOf_19 : decode cX5_isOf 19 = .ok (.iload_n 2, 1) := by decide +kernel
theorem dX5_isOf_20 : decode cX5_isOf 20 = .ok (.iconst 1, 1) := by decide +kernel
theorem dX5_isOf_21 : decode cX5_isOf 21 = .ok (.if_icmp .ne 18, 3) := by decide +kernel
theorem dX5_isOf_24 : decode cX5_isOf 24 = .ok (.iload_n 1, 1) := by decide +kernel
theorem dX5_isOf_25 : decode cX5_isOf 25 = .ok (.iconst 5, 1) := by decide +kernel
theorem dX5_isOf_26 : decode cX5_isOf 26 = .ok (.irem, 1) := by decide +kernel
theorem dX5_isOf_27 : decode cX5_isOf 27 = .ok (.iload_n 3, 1) := by decide +kernel
theorem dX5_isOf_28 : decode cX5_isOf 28 = .ok (.if_icmp .ne 7, 3) := by decide +kernel
theorem dX5_isOf_31 : decode cX5_isOf 31 = .ok (.iconst 1, 1) := by decide +kernel
theorem dX5_isOf_32 : decode cX5_isOf 32 = .ok (.goto 13, 3) := by decide +kernel
theorem dX5_isOf_35 : decode cX5_isOf 35 = .ok (.iconst 0, 1) := by decide +kernel
theorem dX5_isOf_36 : decode cX5_isOf 36 = .ok (.goto 9, 3) := by decide +kernel
theorem dX5_isOf_39 : decode cX5_isOf 39 = .ok (.aload_n 0, 1) := by decide +kernel
theorem dX5_isOf_40 : decode cX5_isOf 40 = .ok (.iload_n 1, 1) := by decide +kernel
theorem dX5_isOf_41 : decode cX5_isOf 41 = .ok (.iload_n 3, 1) := by decide +kernel
theorem dX5_isOf_42 : decode cX5_isOf 42 = .ok (.invokevirtual 105, 3) := by decide +kernel
theorem dX5_isOf_45 : decode cX5_isOf 45 = .ok (.ireturn, 1) := by decide +kernel
set_option maxRecDepth 20000 in
theorem ggX5_sumOf_X5_isOf : GoodIn wsX5_sumOf wsX5_isOf := goodIn_r _ [6, 7, 8, 9, 5, 10, 11, 12, 13, 14, 15, 16, 17, 18, 19, 20, 21, 22, 23, 24, 25, 26, 27, 28, 29, 30, 31] (by decide +kernel) (by decide +kernel)
set_option maxRecDepth 20000 in
theorem gX5_sumOf_X5_isOf : GoodIn wsX5_sumOf (wsV RX5 161 RX5 yX5_isOf wsX5_isOf) := goodIn_app (goodIn_of _ (by decide +kernel)) ggX5_sumOf_X5_isOf
theorem dX5_sumOf_0 : decode cX5_sumOf 0 = .ok (.lconst 0, 1) := by decide +kernel
theorem dX5_sumOf_1 : decode cX5_sumOf 1 = .ok (.lstore_n 3, 1) := by decide +kernel
theorem dX5_sumOf_2 : decode cX5_sumOf 2 = .ok (.iconst 0, 1) := by decide +kernel
theorem dX5_sumOf_3 : decode cX5_sumOf 3 = .ok (.istore 5, 2) := by decide +kernel
theorem dX5_sumOf_5 : decode cX5_sumOf 5 = .ok (.iload 5, 2) := by decide +kernel
theorem dX5_sumOf_7 : decode cX5_sumOf 7 = .ok (.bipush 25, 2) := by decide +kernel
theorem dX5_sumOf_9 : decode cX5_sumOf 9 = .ok (.if_icmp .ge 34, 3) := by decide +kernel
theorem dX5_sumOf_12 : decode cX5_sumOf 12 = .ok (.lload_n 3, 1) := by decide +kernel
theorem dX5_sumOf_13 : decode cX5_sumOf 13 = .ok (.aload_n 0, 1) := by decide +kernel
theorem dX5_sumOf_14 : decode cX5_sumOf 14 = .ok (.iload 5, 2) := by decide +kernel
theorem dX5_sumOf_16 : decode cX5_sumOf 16 = .ok (.iload_n 1, 1) := by decide +kernel
theorem dX5_sumOf_17 : decode cX5_sumOf 17 = .ok (.iload_n 2, 1) := by decide +kernel
theorem dX5_sumOf_18 : decode cX5_sumOf 18 = .ok (.invokevirtual 161, 3) := by decide +kernel
theorem dX5_sumOf_21 : decode cX5_sumOf 21 = .ok (.ifCond .eq 13, 3) := by decide +kernel
theorem dX5_sumOf_24 : decode cX5_sumOf 24 = .ok (.aload_n 0, 1) := by decide +kernel
theorem dX5_sumOf_25 : decode cX5_sumOf 25 = .ok (.getfield 38, 3) := by decide +kernel
theorem dX5_sumOf_28 : decode cX5_sumOf 28 = .ok (.iload 5, 2) := by decide +kernel
theorem dX5_sumOf_30 : decode cX5_sumOf 30 = .ok (.laload, 1) := by decide +kernel
theorem dX5_sumOf_31 : decode cX5_sumOf 31 = .ok (.goto 4, 3) := by decide +kernel
theorem dX5_sumOf_34 : decode cX5_sumOf 34 = .ok (.lconst 0, 1) := by decide +kernel
theorem dX5_sumOf_35 : decode cX5_sumOf 35 = .ok (.ladd, 1) := by decide +kernel
theorem dX5_sumOf_36 : decode cX5_sumOf 36 = .ok (.lstore_n 3, 1) := by decide +kernel
theorem dX5_sumOf_37 : decode cX5_sumOf 37 = .ok (.iinc 5 1, 3) := by decide +kernel
theorem dX5_sumOf_40 : decode cX5_sumOf 40 = .ok (.goto (-35), 3) := by decide +kernel
theorem dX5_sumOf_43 : decode cX5_sumOf 43 = .ok (.lload_n 3, 1) := by decide +kernel
theorem dX5_sumOf_44 : decode cX5_sumOf 44 = .ok (.lreturn, 1) := by decide +kernel
set_option maxRecDepth 20000 in
theorem ggX5_fits_X5_sumOf : GoodIn wsX5_fits wsX5_sumOf := goodIn_r _ [7, 1, 8, 9, 10, 6, 11, 12, 13, 14, 15, 16, 17, 18, 19, 20, 21, 22, 23, 24, 25, 26, 27, 28, 29, 30, 31, 32, 33, 34, 35, 36] (by decide +kernel) (by decide +kernel)
set_option maxRecDepth 20000 in
theorem gX5_fits_X5_sumOf : GoodIn wsX5_fits (wsV RX5 164 RX5 yX5_sumOf wsX5_sumOf) := goodIn_app (goodIn_of _ (by decide +kernel)) ggX5_fits_X5_sumOf
set_option maxRecDepth 20000 in
theorem ggX5_fits_X5_isOf : GoodIn wsX5_fits wsX5_isOf := goodIn_r _ [11, 12, 13, 14, 6, 15, 16, 17, 18, 19, 20, 21, 22, 23, 24, 25, 26, 27, 28, 29, 30, 31, 32, 33, 34, 35, 36] (by decide +kernel) (by decide +kernel)
set_option maxRecDepth 20000 in
theorem gX5_fits_X5_isOf : GoodIn wsX5_fits (wsV RX5 161 RX5 yX5_isOf wsX5_isOf) := goodIn_app (goodIn_of _ (by decide +kernel)) ggX5_fits_X5_isOf
theorem dX5_fits_0 : decode cX5_fits 0 = .ok (.aload_n 0, 1) := by decide +kernel
theorem dX5_fits_1 : decode cX5_fits 1 = .ok (.iload_n 1, 1) := by decide +kernel
theorem dX5_fits_2 : decode cX5_fits 2 = .ok (.iload_n 2, 1) := by decide +kernel
theorem dX5_fits_3 : decode cX5_fits 3 = .ok (.invokevirtual 164, 3) := by decide +kernel
theorem dX5_fits_6 : decode cX5_fits 6 = .ok (.lstore 4, 2) := by decide +kernel
theorem dX5_fits_8 : decode cX5_fits 8 = .ok (.iconst 0, 1) := by decide +kernel
theorem dX5_fits_9 : decode cX5_fits 9 = .ok (.istore 6, 2) := by decide +kernel
theorem dX5_fits_11 : decode cX5_fits 11 = .ok (.iload 6, 2) := by decide +kernel
theorem dX5_fits_13 : decode cX5_fits 13 = .ok (.bipush 25, 2) := by decide +kernel
theorem dX5_fits_15 : decode cX5_fits 15 = .ok (.if_icmp .ge 61, 3) := by decide +kernel
theorem dX5_fits_18 : decode cX5_fits 18 = .ok (.lload 4, 2) := by decide +kernel
theorem dX5_fits_20 : decode cX5_fits 20 = .ok (.lconst 0, 1) := by decide +kernel
theorem dX5_fits_21 : decode cX5_fits 21 = .ok (.lcmp, 1) := by decide +kernel
theorem dX5_fits_22 : decode cX5_fits 22 = .ok (.ifCond .le 54, 3) := by decide +kernel
theorem dX5_fits_25 : decode cX5_fits 25 = .ok (.aload_n 0, 1) := by decide +kernel
theorem dX5_fits_26 : decode cX5_fits 26 = .ok (.getfield 38, 3) := by decide +kernel
theorem dX5_fits_29 : decode cX5_fits 29 = .ok (.iload 6, 2) := by decide +kernel
theorem dX5_fits_31 : decode cX5_fits 31 = .ok (.aload_n 0, 1) := by decide +kernel
theorem dX5_fits_32 : decode cX5_fits 32 = .ok (.iload 6, 2) := by decide +kernel
theorem dX5_fits_34 : decode cX5_fits 34 = .ok (.iload_n 1, 1) := by decide +kernel
theorem dX5_fits_35 : decode cX5_fits 35 = .ok (.iload_n 2, 1) := by decide +kernel
theorem dX5_fits_36 : decode cX5_fits 36 = .ok (.invokevirtual 161, 3) := by decide +kernel
theorem dX5_fits_39 : decode cX5_fits 39 = .ok (.ifCond .eq 23, 3) := by decide +kernel
theorem dX5_fits_42 : decode cX5_fits 42 = .ok (.aload_n 0, 1) := by decide +kernel
theorem dX5_fits_43 : decode cX5_fits 43 = .ok (.getfield 38, 3) := by decide +kernel
theorem dX5_fits_46 : decode cX5_fits 46 = .ok (.iload 6, 2) := by decide +kernel
theorem dX5_fits_48 : decode cX5_fits 48 = .ok (.laload, 1) := by decide +kernel
theorem dX5_fits_49 : decode cX5_fits 49 = .ok (.iload_n 3, 1) := by decide +kernel
theorem dX5_fits_50 : decode cX5_fits 50 = .ok (.i2l, 1) := by decide +kernel
theorem dX5_fits_51 : decode cX5_fits 51 = .ok (.lmul, 1) := by decide +kernel
theorem dX5_fits_52 : decode cX5_fits 52 = .ok (.ldc2_w 159, 3) := by decide +kernel
theorem dX5_fits_55 : decode cX5_fits 55 = .ok (.lmul, 1) := by decide +kernel
theorem dX5_fits_56 : decode cX5_fits 56 = .ok (.lload 4, 2) := by decide +kernel
theorem dX5_fits_58 : decode cX5_fits 58 = .ok (.ldiv, 1) := by decide +kernel
theorem dX5_fits_59 : decode cX5_fits 59 = .ok (.goto 10, 3) := by decide +kernel
theorem dX5_fits_62 : decode cX5_fits 62 = .ok (.aload_n 0, 1) := by decide +kernel
theorem dX5_fits_63 : decode cX5_fits 63 = .ok (.getfield 38, 3) := by decide +kernel
theorem dX5_fits_66 : decode cX5_fits 66 = .ok (.iload 6, 2) := by decide +kernel
theorem dX5_fits_68 : decode cX5_fits 68 = .ok (.laload, 1) := by decide +kernel
theorem dX5_fits_69 : decode cX5_fits 69 = .ok (.lastore, 1) := by decide +kernel
theorem dX5_fits_70 : decode cX5_fits 70 = .ok (.iinc 6 1, 3) := by decide +kernel
theorem dX5_fits_73 : decode cX5_fits 73 = .ok (.goto (-62), 3) := by decide +kernel
theorem dX5_fits_76 : decode cX5_fits 76 = .ok (.return_, 1) := by decide +kernel
set_option maxRecDepth 20000 in
theorem ggX5_fitTotals_X5_within : GoodIn wsX5_fitTotals wsX5_within := goodIn_r _ [7] (by decide +kernel) (by decide +kernel)
set_option maxRecDepth 20000 in
theorem gX5_fitTotals_X5_within : GoodIn wsX5_fitTotals (va_wsS RX5 64 yX5_within wsX5_within) := goodIn_app (goodIn_of _ (by decide +kernel)) ggX5_fitTotals_X5_within
set_option maxRecDepth 20000 in
theorem ggX5_fitTotals_X5_keeps : GoodIn wsX5_fitTotals wsX5_keeps := goodIn_r _ [11, 12, 13, 14, 15, 16, 6, 17, 18, 19, 20, 1, 21, 22, 23, 24, 25, 26, 27, 28, 29, 30, 31, 32, 33, 34, 35, 36, 37, 38, 39, 40, 41, 42, 43, 44, 66, 67, 68, 69, 70, 71, 72, 73, 74, 75, 76, 77, 78, 79, 80, 81, 82, 83, 84, 85] (by decide +kernel) (by decide +kernel)
set_option maxRecDepth 20000 in
theorem gX5_fitTotals_X5_keeps : GoodIn wsX5_fitTotals (wsV RX5 168 RX5 yX5_keeps wsX5_keeps) := goodIn_app (goodIn_of _ (by decide +kernel)) ggX5_fitTotals_X5_keeps
set_option maxRecDepth 20000 in
theorem ggX5_fitTotals_X5_fits : GoodIn wsX5_fitTotals wsX5_fits := goodIn_r _ [48, 13, 49, 50, 51, 52, 6, 53, 54, 55, 56, 57, 58, 59, 60, 61, 23, 66, 67, 68, 69, 70, 71, 72, 73, 74, 75, 76, 77, 78, 79, 80, 81, 82, 83, 84, 85] (by decide +kernel) (by decide +kernel)
set_option maxRecDepth 20000 in
theorem gX5_fitTotals_X5_fits : GoodIn wsX5_fitTotals (wsV RX5 171 RX5 yX5_fits wsX5_fits) := goodIn_app (goodIn_of _ (by decide +kernel)) ggX5_fitTotals_X5_fits
set_option maxRecDepth 20000 in
theorem ggX5_fitTotals_X5_changed : GoodIn wsX5_fitTotals wsX5_changed := goodIn_r _ [65, 13, 12, 66, 67, 68, 69, 70, 71, 72, 73, 74, 75, 76, 77, 78, 79, 80, 81, 82, 83, 84, 85] (by decide +kernel) (by decide +kernel)
set_option maxRecDepth 20000 in
theorem gX5_fitTotals_X5_changed : GoodIn wsX5_fitTotals (wsV RX5 174 RX5 yX5_changed wsX5_changed) := goodIn_app (goodIn_of _ (by decide +kernel)) ggX5_fitTotals_X5_changed
theorem dX5_fitTotals_0 : decode cX5_fitTotals 0 = .ok (.iload_n 1, 1) := by decide +kernel
theorem dX5_fitTotals_1 : decode cX5_fitTotals 1 = .ok (.iconst 1, 1) := by decide +kernel
theorem dX5_fitTotals_2 : decode cX5_fitTotals 2 = .ok (.bipush 50, 2) := by decide +kernel
theorem dX5_fitTotals_4 : decode cX5_fitTotals 4 = .ok (.invokestatic 64, 3) := by decide +kernel
theorem dX5_fitTotals_7 : decode cX5_fitTotals 7 = .ok (.ifCond .ne 6, 3) := by decide +kernel
theorem dX5_fitTotals_10 : decode cX5_fitTotals 10 = .ok (.bipush (-4), 2) := by decide +kernel
theorem dX5_fitTotals_12 : decode cX5_fitTotals 12 = .ok (.ireturn, 1) := by decide +kernel
theorem dX5_fitTotals_13 : decode cX5_fitTotals 13 = .ok (.aload_n 0, 1) := by decide +kernel
theorem dX5_fitTotals_14 : decode cX5_fitTotals 14 = .ok (.invokevirtual 168, 3) := by decide +kernel
theorem dX5_fitTotals_17 : decode cX5_fitTotals 17 = .ok (.iconst 0, 1) := by decide +kernel
theorem dX5_fitTotals_18 : decode cX5_fitTotals 18 = .ok (.istore_n 2, 1) := by decide +kernel
theorem dX5_fitTotals_19 : decode cX5_fitTotals 19 = .ok (.iload_n 2, 1) := by decide +kernel
theorem dX5_fitTotals_20 : decode cX5_fitTotals 20 = .ok (.iload_n 1, 1) := by decide +kernel
theorem dX5_fitTotals_21 : decode cX5_fitTotals 21 = .ok (.if_icmp .ge 65, 3) := by decide +kernel
theorem dX5_fitTotals_24 : decode cX5_fitTotals 24 = .ok (.iconst 0, 1) := by decide +kernel
theorem dX5_fitTotals_25 : decode cX5_fitTotals 25 = .ok (.istore_n 3, 1) := by decide +kernel
theorem dX5_fitTotals_26 : decode cX5_fitTotals 26 = .ok (.iload_n 3, 1) := by decide +kernel
theorem dX5_fitTotals_27 : decode cX5_fitTotals 27 = .ok (.aload_n 0, 1) := by decide +kernel
theorem dX5_fitTotals_28 : decode cX5_fitTotals 28 = .ok (.getfield 60, 3) := by decide +kernel
theorem dX5_fitTotals_31 : decode cX5_fitTotals 31 = .ok (.if_icmp .ge 21, 3) := by decide +kernel
theorem dX5_fitTotals_34 : decode cX5_fitTotals 34 = .ok (.aload_n 0, 1) := by decide +kernel
theorem dX5_fitTotals_35 : decode cX5_fitTotals 35 = .ok (.iconst 0, 1) := by decide +kernel
theorem dX5_fitTotals_36 : decode cX5_fitTotals 36 = .ok (.iload_n 3, 1) := by decide +kernel
theorem dX5_fitTotals_37 : decode cX5_fitTotals 37 = .ok (.aload_n 0, 1) := by decide +kernel
theorem dX5_fitTotals_38 : decode cX5_fitTotals 38 = .ok (.getfield 25, 3) := by decide +kernel
theorem dX5_fitTotals_41 : decode cX5_fitTotals 41 = .ok (.iload_n 3, 1) := by decide +kernel
theorem dX5_fitTotals_42 : decode cX5_fitTotals 42 = .ok (.iaload, 1) := by decide +kernel
theorem dX5_fitTotals_43 : decode cX5_fitTotals 43 = .ok (.invokevirtual 171, 3) := by decide +kernel
theorem dX5_fitTotals_46 : decode cX5_fitTotals 46 = .ok (.iinc 3 1, 3) := by decide +kernel
theorem dX5_fitTotals_49 : decode cX5_fitTotals 49 = .ok (.goto (-23), 3) := by decide +kernel
theorem dX5_fitTotals_52 : decode cX5_fitTotals 52 = .ok (.iconst 0, 1) := by decide +kernel
theorem dX5_fitTotals_53 : decode cX5_fitTotals 53 = .ok (.istore_n 3, 1) := by decide +kernel
theorem dX5_fitTotals_54 : decode cX5_fitTotals 54 = .ok (.iload_n 3, 1) := by decide +kernel
theorem dX5_fitTotals_55 : decode cX5_fitTotals 55 = .ok (.aload_n 0, 1) := by decide +kernel
theorem dX5_fitTotals_56 : decode cX5_fitTotals 56 = .ok (.getfield 60, 3) := by decide +kernel
theorem dX5_fitTotals_59 : decode cX5_fitTotals 59 = .ok (.if_icmp .ge 21, 3) := by decide +kernel
theorem dX5_fitTotals_62 : decode cX5_fitTotals 62 = .ok (.aload_n 0, 1) := by decide +kernel
theorem dX5_fitTotals_63 : decode cX5_fitTotals 63 = .ok (.iconst 1, 1) := by decide +kernel
theorem dX5_fitTotals_64 : decode cX5_fitTotals 64 = .ok (.iload_n 3, 1) := by decide +kernel
theorem dX5_fitTotals_65 : decode cX5_fitTotals 65 = .ok (.aload_n 0, 1) := by decide +kernel
theorem dX5_fitTotals_66 : decode cX5_fitTotals 66 = .ok (.getfield 28, 3) := by decide +kernel
theorem dX5_fitTotals_69 : decode cX5_fitTotals 69 = .ok (.iload_n 3, 1) := by decide +kernel
theorem dX5_fitTotals_70 : decode cX5_fitTotals 70 = .ok (.iaload, 1) := by decide +kernel
theorem dX5_fitTotals_71 : decode cX5_fitTotals 71 = .ok (.invokevirtual 171, 3) := by decide +kernel
theorem dX5_fitTotals_74 : decode cX5_fitTotals 74 = .ok (.iinc 3 1, 3) := by decide +kernel
theorem dX5_fitTotals_77 : decode cX5_fitTotals 77 = .ok (.goto (-23), 3) := by decide +kernel
theorem dX5_fitTotals_80 : decode cX5_fitTotals 80 = .ok (.iinc 2 1, 3) := by decide +kernel
theorem dX5_fitTotals_83 : decode cX5_fitTotals 83 = .ok (.goto (-64), 3) := by decide +kernel
theorem dX5_fitTotals_86 : decode cX5_fitTotals 86 = .ok (.aload_n 0, 1) := by decide +kernel
theorem dX5_fitTotals_87 : decode cX5_fitTotals 87 = .ok (.invokevirtual 174, 3) := by decide +kernel
theorem dX5_fitTotals_90 : decode cX5_fitTotals 90 = .ok (.ireturn, 1) := by decide +kernel
set_option maxRecDepth 20000 in
theorem ggX5_fitLinks_X5_within : GoodIn wsX5_fitLinks wsX5_within := goodIn_r _ [6] (by decide +kernel) (by decide +kernel)
set_option maxRecDepth 20000 in
theorem gX5_fitLinks_X5_within : GoodIn wsX5_fitLinks (va_wsS RX5 64 yX5_within wsX5_within) := goodIn_app (goodIn_of _ (by decide +kernel)) ggX5_fitLinks_X5_within
set_option maxRecDepth 20000 in
theorem ggX5_fitLinks_X5_keeps : GoodIn wsX5_fitLinks wsX5_keeps := goodIn_r _ [10, 11, 12, 13, 14, 15, 5, 16, 17, 18, 1, 19, 20, 21, 22, 23, 24, 25, 26, 27, 28, 29, 30, 31, 32, 33, 34, 35, 36, 37, 38, 39, 40, 41, 42, 43, 65, 66, 67, 68, 69, 70, 71, 72, 73, 74, 75, 76, 77, 78, 79, 80, 81, 82, 83, 84] (by decide +kernel) (by decide +kernel)
set_option maxRecDepth 20000 in
theorem gX5_fitLinks_X5_keeps : GoodIn wsX5_fitLinks (wsV RX5 168 RX5 yX5_keeps wsX5_keeps) := goodIn_app (goodIn_of _ (by decide +kernel)) ggX5_fitLinks_X5_keeps
set_option maxRecDepth 20000 in
theorem ggX5_fitLinks_X5_fits : GoodIn wsX5_fitLinks wsX5_fits := goodIn_r _ [47, 12, 48, 49, 50, 51, 5, 52, 53, 54, 55, 56, 57, 58, 59, 60, 22, 65, 66, 67, 68, 69, 70, 71, 72, 73, 74, 75, 76, 77, 78, 79, 80, 81, 82, 83, 84] (by decide +kernel) (by decide +kernel)
set_option maxRecDepth 20000 in
theorem gX5_fitLinks_X5_fits : GoodIn wsX5_fitLinks (wsV RX5 171 RX5 yX5_fits wsX5_fits) := goodIn_app (goodIn_of _ (by decide +kernel)) ggX5_fitLinks_X5_fits
set_option maxRecDepth 20000 in
theorem ggX5_fitLinks_X5_changed : GoodIn wsX5_fitLinks wsX5_changed := goodIn_r _ [64, 12, 11, 65, 66, 67, 68, 69, 70, 71, 72, 73, 74, 75, 76, 77, 78, 79, 80, 81, 82, 83, 84] (by decide +kernel) (by decide +kernel)
set_option maxRecDepth 20000 in
theorem gX5_fitLinks_X5_changed : GoodIn wsX5_fitLinks (wsV RX5 174 RX5 yX5_changed wsX5_changed) := goodIn_app (goodIn_of _ (by decide +kernel)) ggX5_fitLinks_X5_changed
theorem dX5_fitLinks_0 : decode cX5_fitLinks 0 = .ok (.iload_n 1, 1) := by decide +kernel
theorem dX5_fitLinks_1 : decode cX5_fitLinks 1 = .ok (.iconst 1, 1) := by decide +kernel
theorem dX5_fitLinks_2 : decode cX5_fitLinks 2 = .ok (.bipush 50, 2) := by decide +kernel
theorem dX5_fitLinks_4 : decode cX5_fitLinks 4 = .ok (.invokestatic 64, 3) := by decide +kernel
theorem dX5_fitLinks_7 : decode cX5_fitLinks 7 = .ok (.ifCond .ne 6, 3) := by decide +kernel
theorem dX5_fitLinks_10 : decode cX5_fitLinks 10 = .ok (.bipush (-4), 2) := by decide +kernel
theorem dX5_fitLinks_12 : decode cX5_fitLinks 12 = .ok (.ireturn, 1) := by decide +kernel
theorem dX5_fitLinks_13 : decode cX5_fitLinks 13 = .ok (.aload_n 0, 1) := by decide +kernel
theorem dX5_fitLinks_14 : decode cX5_fitLinks 14 = .ok (.invokevirtual 168, 3) := by decide +kernel
theorem dX5_fitLinks_17 : decode cX5_fitLinks 17 = .ok (.iconst 0, 1) := by decide +kernel
theorem dX5_fitLinks_18 : decode cX5_fitLinks 18 = .ok (.istore_n 2, 1) := by decide +kernel
theorem dX5_fitLinks_19 : decode cX5_fitLinks 19 = .ok (.iload_n 2, 1) := by decide +kernel
theorem dX5_fitLinks_20 : decode cX5_fitLinks 20 = .ok (.iload_n 1, 1) := by decide +kernel
theorem dX5_fitLinks_21 : decode cX5_fitLinks 21 = .ok (.if_icmp .ge 37, 3) := by decide +kernel
theorem dX5_fitLinks_24 : decode cX5_fitLinks 24 = .ok (.iconst 0, 1) := by decide +kernel
theorem dX5_fitLinks_25 : decode cX5_fitLinks 25 = .ok (.istore_n 3, 1) := by decide +kernel
theorem dX5_fitLinks_26 : decode cX5_fitLinks 26 = .ok (.iload_n 3, 1) := by decide +kernel
theorem dX5_fitLinks_27 : decode cX5_fitLinks 27 = .ok (.aload_n 0, 1) := by decide +kernel
theorem dX5_fitLinks_28 : decode cX5_fitLinks 28 = .ok (.getfield 68, 3) := by decide +kernel
theorem dX5_fitLinks_31 : decode cX5_fitLinks 31 = .ok (.if_icmp .ge 21, 3) := by decide +kernel
theorem dX5_fitLinks_34 : decode cX5_fitLinks 34 = .ok (.aload_n 0, 1) := by decide +kernel
theorem dX5_fitLinks_35 : decode cX5_fitLinks 35 = .ok (.iconst 2, 1) := by decide +kernel
theorem dX5_fitLinks_36 : decode cX5_fitLinks 36 = .ok (.iload_n 3, 1) := by decide +kernel
theorem dX5_fitLinks_37 : decode cX5_fitLinks 37 = .ok (.aload_n 0, 1) := by decide +kernel
theorem dX5_fitLinks_38 : decode cX5_fitLinks 38 = .ok (.getfield 22, 3) := by decide +kernel
theorem dX5_fitLinks_41 : decode cX5_fitLinks 41 = .ok (.iload_n 3, 1) := by decide +kernel
theorem dX5_fitLinks_42 : decode cX5_fitLinks 42 = .ok (.iaload, 1) := by decide +kernel
theorem dX5_fitLinks_43 : decode cX5_fitLinks 43 = .ok (.invokevirtual 171, 3) := by decide +kernel
theorem dX5_fitLinks_46 : decode cX5_fitLinks 46 = .ok (.iinc 3 1, 3) := by decide +kernel
theorem dX5_fitLinks_49 : decode cX5_fitLinks 49 = .ok (.goto (-23), 3) := by decide +kernel
theorem dX5_fitLinks_52 : decode cX5_fitLinks 52 = .ok (.iinc 2 1, 3) := by decide +kernel
theorem dX5_fitLinks_55 : decode cX5_fitLinks 55 = .ok (.goto (-36), 3) := by decide +kernel
theorem dX5_fitLinks_58 : decode cX5_fitLinks 58 = .ok (.aload_n 0, 1) := by decide +kernel
theorem dX5_fitLinks_59 : decode cX5_fitLinks 59 = .ok (.invokevirtual 174, 3) := by decide +kernel
theorem dX5_fitLinks_62 : decode cX5_fitLinks 62 = .ok (.ireturn, 1) := by decide +kernel
set_option maxRecDepth 20000 in
theorem ggX5_estimate_X5_refused : GoodIn wsX5_estimate wsX5_refused := goodIn_r _ [7, 8, 9, 10, 6, 11, 12, 13, 14, 15, 16, 17, 18, 19, 20, 21, 22, 23, 24, 25, 26, 27, 28, 29, 30, 31, 32, 33, 34, 35] (by decide +kernel) (by decide +kernel)
set_option maxRecDepth 20000 in
theorem gX5_estimate_X5_refused : GoodIn wsX5_estimate (wsV RX5 75 RX5 yX5_refused wsX5_refused) := goodIn_app (goodIn_of _ (by decide +kernel)) ggX5_estimate_X5_refused
theorem dX5_estimate_0 : decode cX5_estimate 0 = .ok (.aload_n 0, 1) := by decide +kernel
theorem dX5_estimate_1 : decode cX5_estimate 1 = .ok (.iload_n 1, 1) := by decide +kernel
theorem dX5_estimate_2 : decode cX5_estimate 2 = .ok (.iload_n 2, 1) := by decide +kernel
theorem dX5_estimate_3 : decode cX5_estimate 3 = .ok (.invokevirtual 75, 3) := by decide +kernel
theorem dX5_estimate_6 : decode cX5_estimate 6 = .ok (.ifCond .eq 9, 3) := by decide +kernel
theorem dX5_estimate_9 : decode cX5_estimate 9 = .ok (.ldc2_w 151, 3) := by decide +kernel
theorem dX5_estimate_12 : decode cX5_estimate 12 = .ok (.goto 13, 3) := by decide +kernel
theorem dX5_estimate_15 : decode cX5_estimate 15 = .ok (.aload_n 0, 1) := by decide +kernel
theorem dX5_estimate_16 : decode cX5_estimate 16 = .ok (.getfield 38, 3) := by decide +kernel
theorem dX5_estimate_19 : decode cX5_estimate 19 = .ok (.iconst 5, 1) := by decide +kernel
theorem dX5_estimate_20 : decode cX5_estimate 20 = .ok (.iload_n 1, 1) := by decide +kernel
theorem dX5_estimate_21 : decode cX5_estimate 21 = .ok (.imul, 1) := by decide +kernel
theorem dX5_estimate_22 : decode cX5_estimate 22 = .ok (.iload_n 2, 1) := by decide +kernel
theorem dX5_estimate_23 : decode cX5_estimate 23 = .ok (.iadd, 1) := by decide +kernel
theorem dX5_estimate_24 : decode cX5_estimate 24 = .ok (.laload, 1) := by decide +kernel
theorem dX5_estimate_25 : decode cX5_estimate 25 = .ok (.lreturn, 1) := by decide +kernel
set_option maxRecDepth 20000 in
theorem ggX5_residual_X5_isLink : GoodIn wsX5_residual wsX5_isLink := goodIn_r _ [8, 9, 10, 11, 7, 12, 53, 54, 55, 56, 57, 58, 59, 60, 61, 62, 63, 64, 65, 66, 67, 68, 69, 70, 71, 72] (by decide +kernel) (by decide +kernel)
set_option maxRecDepth 20000 in
theorem gX5_residual_X5_isLink : GoodIn wsX5_residual (wsV RX5 79 RX5 yX5_isLink wsX5_isLink) := goodIn_app (goodIn_of _ (by decide +kernel)) ggX5_residual_X5_isLink
set_option maxRecDepth 20000 in
theorem ggX5_residual_X5_findRoutes : GoodIn wsX5_residual wsX5_findRoutes := goodIn_r _ [16, 17, 18, 9, 19, 20, 21, 22, 23, 24, 25, 7, 26, 27, 28, 29, 30, 31, 32, 33, 34, 35, 36, 37, 38, 39, 53, 54, 55, 56, 57, 58, 59, 60, 61, 62, 63, 64, 65, 66, 67, 68, 69, 70, 71, 72] (by decide +kernel) (by decide +kernel)
set_option maxRecDepth 20000 in
theorem gX5_residual_X5_findRoutes : GoodIn wsX5_residual (wsV RX5 96 RX5 yX5_findRoutes wsX5_findRoutes) := goodIn_app (goodIn_of _ (by decide +kernel)) ggX5_residual_X5_findRoutes
set_option maxRecDepth 20000 in
theorem ggX5_residual_X5_sumOf : GoodIn wsX5_residual wsX5_sumOf := goodIn_r _ [43, 44, 45, 46, 47, 7, 48, 49, 50, 51, 52, 22, 53, 54, 55, 56, 57, 58, 59, 60, 61, 62, 63, 64, 65, 66, 67, 68, 69, 70, 71, 72] (by decide +kernel) (by decide +kernel)
set_option maxRecDepth 20000 in
theorem gX5_residual_X5_sumOf : GoodIn wsX5_residual (wsV RX5 164 RX5 yX5_sumOf wsX5_sumOf) := goodIn_app (goodIn_of _ (by decide +kernel)) ggX5_residual_X5_sumOf
theorem dX5_residual_0 : decode cX5_residual 0 = .ok (.aload_n 0, 1) := by decide +kernel
theorem dX5_residual_1 : decode cX5_residual 1 = .ok (.iload_n 1, 1) := by decide +kernel
theorem dX5_residual_2 : decode cX5_residual 2 = .ok (.invokevirtual 79, 3) := by decide +kernel
theorem dX5_residual_5 : decode cX5_residual 5 = .ok (.ifCond .ne 7, 3) := by decide +kernel
theorem dX5_residual_8 : decode cX5_residual 8 = .ok (.ldc2_w 151, 3) := by decide +kernel
theorem dX5_residual_11 : decode cX5_residual 11 = .ok (.lreturn, 1) := by decide +kernel
theorem dX5_residual_12 : decode cX5_residual 12 = .ok (.aload_n 0, 1) := by decide +kernel
theorem dX5_residual_13 : decode cX5_residual 13 = .ok (.invokevirtual 96, 3) := by decide +kernel
theorem dX5_residual_16 : decode cX5_residual 16 = .ok (.aload_n 0, 1) := by decide +kernel
theorem dX5_residual_17 : decode cX5_residual 17 = .ok (.iconst 2, 1) := by decide +kernel
theorem dX5_residual_18 : decode cX5_residual 18 = .ok (.iload_n 1, 1) := by decide +kernel
theorem dX5_residual_19 : decode cX5_residual 19 = .ok (.invokevirtual 164, 3) := by decide +kernel
theorem dX5_residual_22 : decode cX5_residual 22 = .ok (.ldc2_w 159, 3) := by decide +kernel
theorem dX5_residual_25 : decode cX5_residual 25 = .ok (.aload_n 0, 1) := by decide +kernel
theorem dX5_residual_26 : decode cX5_residual 26 = .ok (.getfield 22, 3) := by decide +kernel
theorem dX5_residual_29 : decode cX5_residual 29 = .ok (.iload_n 1, 1) := by decide +kernel
theorem dX5_residual_30 : decode cX5_residual 30 = .ok (.iaload, 1) := by decide +kernel
theorem dX5_residual_31 : decode cX5_residual 31 = .ok (.i2l, 1) := by decide +kernel
theorem dX5_residual_32 : decode cX5_residual 32 = .ok (.lmul, 1) := by decide +kernel
theorem dX5_residual_33 : decode cX5_residual 33 = .ok (.lsub, 1) := by decide +kernel
theorem dX5_residual_34 : decode cX5_residual 34 = .ok (.lreturn, 1) := by decide +kernel
set_option maxRecDepth 20000 in
theorem ggX5_totalError_X5_findRoutes : GoodIn wsX5_totalError wsX5_findRoutes := goodIn_r _ [8, 9, 10, 11, 12, 13, 14, 15, 16, 17, 18, 7, 19, 20, 21, 22, 23, 24, 25, 26, 27, 28, 29, 30, 31, 32, 37, 38, 39, 40, 41, 42, 43, 44, 45, 46, 47, 48, 49, 50, 51, 52, 53, 54, 55, 56] (by decide +kernel) (by decide +kernel)
set_option maxRecDepth 20000 in
theorem gX5_totalError_X5_findRoutes : GoodIn wsX5_totalError (wsV RX5 96 RX5 yX5_findRoutes wsX5_findRoutes) := goodIn_app (goodIn_of _ (by decide +kernel)) ggX5_totalError_X5_findRoutes
set_option maxRecDepth 20000 in
theorem ggX5_totalError_X5_hasRoute : GoodIn wsX5_totalError wsX5_hasRoute := goodIn_r _ [36, 15, 37, 38, 39, 40, 41, 42, 43, 44, 45, 46, 47, 48, 49, 50, 51, 52, 53, 54, 55, 56] (by decide +kernel) (by decide +kernel)
set_option maxRecDepth 20000 in
theorem gX5_totalError_X5_hasRoute : GoodIn wsX5_totalError (wsV RX5 99 RX5 yX5_hasRoute wsX5_hasRoute) := goodIn_app (goodIn_of _ (by decide +kernel)) ggX5_totalError_X5_hasRoute
theorem dX5_totalError_0 : decode cX5_totalError 0 = .ok (.aload_n 0, 1) := by decide +kernel
theorem dX5_totalError_1 : decode cX5_totalError 1 = .ok (.invokevirtual 96, 3) := by decide +kernel
theorem dX5_totalError_4 : decode cX5_totalError 4 = .ok (.lconst 0, 1) := by decide +kernel
theorem dX5_totalError_5 : decode cX5_totalError 5 = .ok (.lstore_n 1, 1) := by decide +kernel
theorem dX5_totalError_6 : decode cX5_totalError 6 = .ok (.iconst 0, 1) := by decide +kernel
theorem dX5_totalError_7 : decode cX5_totalError 7 = .ok (.istore_n 3, 1) := by decide +kernel
theorem dX5_totalError_8 : decode cX5_totalError 8 = .ok (.iload_n 3, 1) := by decide +kernel
theorem dX5_totalError_9 : decode cX5_totalError 9 = .ok (.bipush 25, 2) := by decide +kernel
theorem dX5_totalError_11 : decode cX5_totalError 11 = .ok (.if_icmp .ge 59, 3) := by decide +kernel
theorem dX5_totalError_14 : decode cX5_totalError 14 = .ok (.aload_n 0, 1) := by decide +kernel
theorem dX5_totalError_15 : decode cX5_totalError 15 = .ok (.getfield 38, 3) := by decide +kernel
theorem dX5_totalError_18 : decode cX5_totalError 18 = .ok (.iload_n 3, 1) := by decide +kernel
theorem dX5_totalError_19 : decode cX5_totalError 19 = .ok (.laload, 1) := by decide +kernel
theorem dX5_totalError_20 : decode cX5_totalError 20 = .ok (.ldc2_w 159, 3) := by decide +kernel
theorem dX5_totalError_23 : decode cX5_totalError 23 = .ok (.aload_n 0, 1) := by decide +kernel
theorem dX5_totalError_24 : decode cX5_totalError 24 = .ok (.getfield 19, 3) := by decide +kernel
theorem dX5_totalError_27 : decode cX5_totalError 27 = .ok (.iload_n 3, 1) := by decide +kernel
theorem dX5_totalError_28 : decode cX5_totalError 28 = .ok (.iaload, 1) := by decide +kernel
theorem dX5_totalError_29 : decode cX5_totalError 29 = .ok (.i2l, 1) := by decide +kernel
theorem dX5_totalError_30 : decode cX5_totalError 30 = .ok (.lmul, 1) := by decide +kernel
theorem dX5_totalError_31 : decode cX5_totalError 31 = .ok (.lsub, 1) := by decide +kernel
theorem dX5_totalError_32 : decode cX5_totalError 32 = .ok (.lstore 4, 2) := by decide +kernel
theorem dX5_totalError_34 : decode cX5_totalError 34 = .ok (.lload_n 1, 1) := by decide +kernel
theorem dX5_totalError_35 : decode cX5_totalError 35 = .ok (.aload_n 0, 1) := by decide +kernel
theorem dX5_totalError_36 : decode cX5_totalError 36 = .ok (.iload_n 3, 1) := by decide +kernel
theorem dX5_totalError_37 : decode cX5_totalError 37 = .ok (.invokevirtual 99, 3) := by decide +kernel
theorem dX5_totalError_40 : decode cX5_totalError 40 = .ok (.ifCond .ne 7, 3) := by decide +kernel
theorem dX5_totalError_43 : decode cX5_totalError 43 = .ok (.lconst 0, 1) := by decide +kernel
theorem dX5_totalError_44 : decode cX5_totalError 44 = .ok (.goto 18, 3) := by decide +kernel
theorem dX5_totalError_47 : decode cX5_totalError 47 = .ok (.lload 4, 2) := by decide +kernel
theorem dX5_totalError_49 : decode cX5_totalError 49 = .ok (.lconst 0, 1) := by decide +kernel
theorem dX5_totalError_50 : decode cX5_totalError 50 = .ok (.lcmp, 1) := by decide +kernel
theorem dX5_totalError_51 : decode cX5_totalError 51 = .ok (.ifCond .ge 9, 3) := by decide +kernel
theorem dX5_totalError_54 : decode cX5_totalError 54 = .ok (.lload 4, 2) := by decide +kernel
theorem dX5_totalError_56 : decode cX5_totalError 56 = .ok (.lneg, 1) := by decide +kernel
theorem dX5_totalError_57 : decode cX5_totalError 57 = .ok (.goto 5, 3) := by decide +kernel
theorem dX5_totalError_60 : decode cX5_totalError 60 = .ok (.lload 4, 2) := by decide +kernel
theorem dX5_totalError_62 : decode cX5_totalError 62 = .ok (.ladd, 1) := by decide +kernel
theorem dX5_totalError_63 : decode cX5_totalError 63 = .ok (.lstore_n 1, 1) := by decide +kernel
theorem dX5_totalError_64 : decode cX5_totalError 64 = .ok (.iinc 3 1, 3) := by decide +kernel
theorem dX5_totalError_67 : decode cX5_totalError 67 = .ok (.goto (-59), 3) := by decide +kernel
theorem dX5_totalError_70 : decode cX5_totalError 70 = .ok (.lload_n 1, 1) := by decide +kernel
theorem dX5_totalError_71 : decode cX5_totalError 71 = .ok (.lreturn, 1) := by decide +kernel
