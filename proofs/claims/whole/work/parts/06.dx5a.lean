theorem dX5_init_0 : decode cX5_init 0 = .ok (.aload_n 0, 1) := by decide +kernel
theorem dX5_init_1 : decode cX5_init 1 = .ok (.invokespecial 1, 3) := by decide +kernel
theorem dX5_init_4 : decode cX5_init 4 = .ok (.aload_n 0, 1) := by decide +kernel
theorem dX5_init_5 : decode cX5_init 5 = .ok (.bipush 12, 2) := by decide +kernel
theorem dX5_init_7 : decode cX5_init 7 = .ok (.newarray .int, 2) := by decide +kernel
theorem dX5_init_9 : decode cX5_init 9 = .ok (.putfield 7, 3) := by decide +kernel
theorem dX5_init_12 : decode cX5_init 12 = .ok (.aload_n 0, 1) := by decide +kernel
theorem dX5_init_13 : decode cX5_init 13 = .ok (.bipush 12, 2) := by decide +kernel
theorem dX5_init_15 : decode cX5_init 15 = .ok (.newarray .int, 2) := by decide +kernel
theorem dX5_init_17 : decode cX5_init 17 = .ok (.putfield 13, 3) := by decide +kernel
theorem dX5_init_20 : decode cX5_init 20 = .ok (.aload_n 0, 1) := by decide +kernel
theorem dX5_init_21 : decode cX5_init 21 = .ok (.bipush 12, 2) := by decide +kernel
theorem dX5_init_23 : decode cX5_init 23 = .ok (.newarray .int, 2) := by decide +kernel
theorem dX5_init_25 : decode cX5_init 25 = .ok (.putfield 16, 3) := by decide +kernel
theorem dX5_init_28 : decode cX5_init 28 = .ok (.aload_n 0, 1) := by decide +kernel
theorem dX5_init_29 : decode cX5_init 29 = .ok (.bipush 25, 2) := by decide +kernel
theorem dX5_init_31 : decode cX5_init 31 = .ok (.newarray .int, 2) := by decide +kernel
theorem dX5_init_33 : decode cX5_init 33 = .ok (.putfield 19, 3) := by decide +kernel
theorem dX5_init_36 : decode cX5_init 36 = .ok (.aload_n 0, 1) := by decide +kernel
theorem dX5_init_37 : decode cX5_init 37 = .ok (.bipush 12, 2) := by decide +kernel
theorem dX5_init_39 : decode cX5_init 39 = .ok (.newarray .int, 2) := by decide +kernel
theorem dX5_init_41 : decode cX5_init 41 = .ok (.putfield 22, 3) := by decide +kernel
theorem dX5_init_44 : decode cX5_init 44 = .ok (.aload_n 0, 1) := by decide +kernel
theorem dX5_init_45 : decode cX5_init 45 = .ok (.iconst 5, 1) := by decide +kernel
theorem dX5_init_46 : decode cX5_init 46 = .ok (.newarray .int, 2) := by decide +kernel
theorem dX5_init_48 : decode cX5_init 48 = .ok (.putfield 25, 3) := by decide +kernel
theorem dX5_init_51 : decode cX5_init 51 = .ok (.aload_n 0, 1) := by decide +kernel
theorem dX5_init_52 : decode cX5_init 52 = .ok (.iconst 5, 1) := by decide +kernel
theorem dX5_init_53 : decode cX5_init 53 = .ok (.newarray .int, 2) := by decide +kernel
theorem dX5_init_55 : decode cX5_init 55 = .ok (.putfield 28, 3) := by decide +kernel
theorem dX5_init_58 : decode cX5_init 58 = .ok (.aload_n 0, 1) := by decide +kernel
theorem dX5_init_59 : decode cX5_init 59 = .ok (.bipush 25, 2) := by decide +kernel
theorem dX5_init_61 : decode cX5_init 61 = .ok (.newarray .boolean, 2) := by decide +kernel
theorem dX5_init_63 : decode cX5_init 63 = .ok (.putfield 31, 3) := by decide +kernel
theorem dX5_init_66 : decode cX5_init 66 = .ok (.aload_n 0, 1) := by decide +kernel
theorem dX5_init_67 : decode cX5_init 67 = .ok (.bipush 25, 2) := by decide +kernel
theorem dX5_init_69 : decode cX5_init 69 = .ok (.newarray .int, 2) := by decide +kernel
theorem dX5_init_71 : decode cX5_init 71 = .ok (.putfield 35, 3) := by decide +kernel
theorem dX5_init_74 : decode cX5_init 74 = .ok (.aload_n 0, 1) := by decide +kernel
theorem dX5_init_75 : decode cX5_init 75 = .ok (.bipush 25, 2) := by decide +kernel
theorem dX5_init_77 : decode cX5_init 77 = .ok (.newarray .long, 2) := by decide +kernel
theorem dX5_init_79 : decode cX5_init 79 = .ok (.putfield 38, 3) := by decide +kernel
theorem dX5_init_82 : decode cX5_init 82 = .ok (.aload_n 0, 1) := by decide +kernel
theorem dX5_init_83 : decode cX5_init 83 = .ok (.bipush 25, 2) := by decide +kernel
theorem dX5_init_85 : decode cX5_init 85 = .ok (.newarray .int, 2) := by decide +kernel
theorem dX5_init_87 : decode cX5_init 87 = .ok (.putfield 42, 3) := by decide +kernel
theorem dX5_init_90 : decode cX5_init 90 = .ok (.aload_n 0, 1) := by decide +kernel
theorem dX5_init_91 : decode cX5_init 91 = .ok (.bipush 25, 2) := by decide +kernel
theorem dX5_init_93 : decode cX5_init 93 = .ok (.newarray .int, 2) := by decide +kernel
theorem dX5_init_95 : decode cX5_init 95 = .ok (.putfield 45, 3) := by decide +kernel
theorem dX5_init_98 : decode cX5_init 98 = .ok (.aload_n 0, 1) := by decide +kernel
theorem dX5_init_99 : decode cX5_init 99 = .ok (.sipush 312, 3) := by decide +kernel
theorem dX5_init_102 : decode cX5_init 102 = .ok (.newarray .long, 2) := by decide +kernel
theorem dX5_init_104 : decode cX5_init 104 = .ok (.putfield 48, 3) := by decide +kernel
theorem dX5_init_107 : decode cX5_init 107 = .ok (.aload_n 0, 1) := by decide +kernel
theorem dX5_init_108 : decode cX5_init 108 = .ok (.bipush 25, 2) := by decide +kernel
theorem dX5_init_110 : decode cX5_init 110 = .ok (.newarray .int, 2) := by decide +kernel
theorem dX5_init_112 : decode cX5_init 112 = .ok (.putfield 51, 3) := by decide +kernel
theorem dX5_init_115 : decode cX5_init 115 = .ok (.aload_n 0, 1) := by decide +kernel
theorem dX5_init_116 : decode cX5_init 116 = .ok (.bipush 25, 2) := by decide +kernel
theorem dX5_init_118 : decode cX5_init 118 = .ok (.newarray .boolean, 2) := by decide +kernel
theorem dX5_init_120 : decode cX5_init 120 = .ok (.putfield 54, 3) := by decide +kernel
theorem dX5_init_123 : decode cX5_init 123 = .ok (.aload_n 0, 1) := by decide +kernel
theorem dX5_init_124 : decode cX5_init 124 = .ok (.bipush 25, 2) := by decide +kernel
theorem dX5_init_126 : decode cX5_init 126 = .ok (.newarray .long, 2) := by decide +kernel
theorem dX5_init_128 : decode cX5_init 128 = .ok (.putfield 57, 3) := by decide +kernel
theorem dX5_init_131 : decode cX5_init 131 = .ok (.aload_n 0, 1) := by decide +kernel
theorem dX5_init_132 : decode cX5_init 132 = .ok (.iconst 3, 1) := by decide +kernel
theorem dX5_init_133 : decode cX5_init 133 = .ok (.putfield 60, 3) := by decide +kernel
theorem dX5_init_136 : decode cX5_init 136 = .ok (.return_, 1) := by decide +kernel
theorem dX5_within_0 : decode cX5_within 0 = .ok (.iload_n 0, 1) := by decide +kernel
theorem dX5_within_1 : decode cX5_within 1 = .ok (.iload_n 1, 1) := by decide +kernel
theorem dX5_within_2 : decode cX5_within 2 = .ok (.if_icmp .lt 12, 3) := by decide +kernel
theorem dX5_within_5 : decode cX5_within 5 = .ok (.iload_n 0, 1) := by decide +kernel
theorem dX5_within_6 : decode cX5_within 6 = .ok (.iload_n 2, 1) := by decide +kernel
theorem dX5_within_7 : decode cX5_within 7 = .ok (.if_icmp .gt 7, 3) := by decide +kernel
theorem dX5_within_10 : decode cX5_within 10 = .ok (.iconst 1, 1) := by decide +kernel
theorem dX5_within_11 : decode cX5_within 11 = .ok (.goto 4, 3) := by decide +kernel
theorem dX5_within_14 : decode cX5_within 14 = .ok (.iconst 0, 1) := by decide +kernel
theorem dX5_within_15 : decode cX5_within 15 = .ok (.ireturn, 1) := by decide +kernel
set_option maxRecDepth 20000 in
theorem ggX5_isNode_X5_within : GoodIn wsX5_isNode wsX5_within := goodIn_r _ [5] (by decide +kernel) (by decide +kernel)
set_option maxRecDepth 20000 in
theorem gX5_isNode_X5_within : GoodIn wsX5_isNode (va_wsS RX5 64 yX5_within wsX5_within) := goodIn_app (goodIn_of _ (by decide +kernel)) ggX5_isNode_X5_within
theorem dX5_isNode_0 : decode cX5_isNode 0 = .ok (.iload_n 1, 1) := by decide +kernel
theorem dX5_isNode_1 : decode cX5_isNode 1 = .ok (.iconst 0, 1) := by decide +kernel
theorem dX5_isNode_2 : decode cX5_isNode 2 = .ok (.aload_n 0, 1) := by decide +kernel
theorem dX5_isNode_3 : decode cX5_isNode 3 = .ok (.getfield 60, 3) := by decide +kernel
theorem dX5_isNode_6 : decode cX5_isNode 6 = .ok (.iconst 1, 1) := by decide +kernel
theorem dX5_isNode_7 : decode cX5_isNode 7 = .ok (.isub, 1) := by decide +kernel
theorem dX5_isNode_8 : decode cX5_isNode 8 = .ok (.invokestatic 64, 3) := by decide +kernel
theorem dX5_isNode_11 : decode cX5_isNode 11 = .ok (.ireturn, 1) := by decide +kernel
set_option maxRecDepth 20000 in
theorem ggX5_isLink_X5_within : GoodIn wsX5_isLink wsX5_within := goodIn_r _ [5] (by decide +kernel) (by decide +kernel)
set_option maxRecDepth 20000 in
theorem gX5_isLink_X5_within : GoodIn wsX5_isLink (va_wsS RX5 64 yX5_within wsX5_within) := goodIn_app (goodIn_of _ (by decide +kernel)) ggX5_isLink_X5_within
theorem dX5_isLink_0 : decode cX5_isLink 0 = .ok (.iload_n 1, 1) := by decide +kernel
theorem dX5_isLink_1 : decode cX5_isLink 1 = .ok (.iconst 0, 1) := by decide +kernel
theorem dX5_isLink_2 : decode cX5_isLink 2 = .ok (.aload_n 0, 1) := by decide +kernel
theorem dX5_isLink_3 : decode cX5_isLink 3 = .ok (.getfield 68, 3) := by decide +kernel
theorem dX5_isLink_6 : decode cX5_isLink 6 = .ok (.iconst 1, 1) := by decide +kernel
theorem dX5_isLink_7 : decode cX5_isLink 7 = .ok (.isub, 1) := by decide +kernel
theorem dX5_isLink_8 : decode cX5_isLink 8 = .ok (.invokestatic 64, 3) := by decide +kernel
theorem dX5_isLink_11 : decode cX5_isLink 11 = .ok (.ireturn, 1) := by decide +kernel
set_option maxRecDepth 20000 in
theorem ggX5_refused_X5_isNode : GoodIn wsX5_refused wsX5_isNode := goodIn_r _ [5, 6, 7, 8, 4, 9, 10, 11, 12, 13, 14, 15, 16, 17, 18, 19, 20, 21, 22, 23, 24, 25, 26, 27, 28, 29] (by decide +kernel) (by decide +kernel)
set_option maxRecDepth 20000 in
theorem gX5_refused_X5_isNode : GoodIn wsX5_refused (wsV RX5 71 RX5 yX5_isNode wsX5_isNode) := goodIn_app (goodIn_of _ (by decide +kernel)) ggX5_refused_X5_isNode
theorem dX5_refused_0 : decode cX5_refused 0 = .ok (.aload_n 0, 1) := by decide +kernel
theorem dX5_refused_1 : decode cX5_refused 1 = .ok (.iload_n 1, 1) := by decide +kernel
theorem dX5_refused_2 : decode cX5_refused 2 = .ok (.invokevirtual 71, 3) := by decide +kernel
theorem dX5_refused_5 : decode cX5_refused 5 = .ok (.ifCond .eq 11, 3) := by decide +kernel
theorem dX5_refused_8 : decode cX5_refused 8 = .ok (.aload_n 0, 1) := by decide +kernel
theorem dX5_refused_9 : decode cX5_refused 9 = .ok (.iload_n 2, 1) := by decide +kernel
theorem dX5_refused_10 : decode cX5_refused 10 = .ok (.invokevirtual 71, 3) := by decide +kernel
theorem dX5_refused_13 : decode cX5_refused 13 = .ok (.ifCond .ne 7, 3) := by decide +kernel
theorem dX5_refused_16 : decode cX5_refused 16 = .ok (.iconst (-1), 1) := by decide +kernel
theorem dX5_refused_17 : decode cX5_refused 17 = .ok (.goto 14, 3) := by decide +kernel
theorem dX5_refused_20 : decode cX5_refused 20 = .ok (.iload_n 1, 1) := by decide +kernel
theorem dX5_refused_21 : decode cX5_refused 21 = .ok (.iload_n 2, 1) := by decide +kernel
theorem dX5_refused_22 : decode cX5_refused 22 = .ok (.if_icmp .ne 8, 3) := by decide +kernel
theorem dX5_refused_25 : decode cX5_refused 25 = .ok (.bipush (-2), 2) := by decide +kernel
theorem dX5_refused_27 : decode cX5_refused 27 = .ok (.goto 4, 3) := by decide +kernel
theorem dX5_refused_30 : decode cX5_refused 30 = .ok (.iconst 0, 1) := by decide +kernel
theorem dX5_refused_31 : decode cX5_refused 31 = .ok (.ireturn, 1) := by decide +kernel
set_option maxRecDepth 20000 in
theorem ggX5_reset_X5_within : GoodIn wsX5_reset wsX5_within := goodIn_r _ [11] (by decide +kernel) (by decide +kernel)
set_option maxRecDepth 20000 in
theorem gX5_reset_X5_within : GoodIn wsX5_reset (va_wsS RX5 64 yX5_within wsX5_within) := goodIn_app (goodIn_of _ (by decide +kernel)) ggX5_reset_X5_within
theorem dX5_reset_0 : decode cX5_reset 0 = .ok (.iload_n 1, 1) := by decide +kernel
theorem dX5_reset_1 : decode cX5_reset 1 = .ok (.iconst 2, 1) := by decide +kernel
theorem dX5_reset_2 : decode cX5_reset 2 = .ok (.iconst 5, 1) := by decide +kernel
theorem dX5_reset_3 : decode cX5_reset 3 = .ok (.invokestatic 64, 3) := by decide +kernel
theorem dX5_reset_6 : decode cX5_reset 6 = .ok (.ifCond .ne 6, 3) := by decide +kernel
theorem dX5_reset_9 : decode cX5_reset 9 = .ok (.bipush (-4), 2) := by decide +kernel
theorem dX5_reset_11 : decode cX5_reset 11 = .ok (.ireturn, 1) := by decide +kernel
theorem dX5_reset_12 : decode cX5_reset 12 = .ok (.aload_n 0, 1) := by decide +kernel
theorem dX5_reset_13 : decode cX5_reset 13 = .ok (.getfield 68, 3) := by decide +kernel
theorem dX5_reset_16 : decode cX5_reset 16 = .ok (.istore_n 2, 1) := by decide +kernel
theorem dX5_reset_17 : decode cX5_reset 17 = .ok (.aload_n 0, 1) := by decide +kernel
theorem dX5_reset_18 : decode cX5_reset 18 = .ok (.iload_n 1, 1) := by decide +kernel
theorem dX5_reset_19 : decode cX5_reset 19 = .ok (.putfield 60, 3) := by decide +kernel
theorem dX5_reset_22 : decode cX5_reset 22 = .ok (.aload_n 0, 1) := by decide +kernel
theorem dX5_reset_23 : decode cX5_reset 23 = .ok (.iconst 0, 1) := by decide +kernel
theorem dX5_reset_24 : decode cX5_reset 24 = .ok (.putfield 68, 3) := by decide +kernel
theorem dX5_reset_27 : decode cX5_reset 27 = .ok (.iconst 0, 1) := by decide +kernel
theorem dX5_reset_28 : decode cX5_reset 28 = .ok (.istore_n 3, 1) := by decide +kernel
theorem dX5_reset_29 : decode cX5_reset 29 = .ok (.iload_n 3, 1) := by decide +kernel
theorem dX5_reset_30 : decode cX5_reset 30 = .ok (.bipush 25, 2) := by decide +kernel
theorem dX5_reset_32 : decode cX5_reset 32 = .ok (.if_icmp .ge 30, 3) := by decide +kernel
theorem dX5_reset_35 : decode cX5_reset 35 = .ok (.aload_n 0, 1) := by decide +kernel
theorem dX5_reset_36 : decode cX5_reset 36 = .ok (.getfield 19, 3) := by decide +kernel
theorem dX5_reset_39 : decode cX5_reset 39 = .ok (.iload_n 3, 1) := by decide +kernel
theorem dX5_reset_40 : decode cX5_reset 40 = .ok (.iconst 0, 1) := by decide +kernel
theorem dX5_reset_41 : decode cX5_reset 41 = .ok (.iastore, 1) := by decide +kernel
theorem dX5_reset_42 : decode cX5_reset 42 = .ok (.aload_n 0, 1) := by decide +kernel
theorem dX5_reset_43 : decode cX5_reset 43 = .ok (.getfield 31, 3) := by decide +kernel
theorem dX5_reset_46 : decode cX5_reset 46 = .ok (.iload_n 3, 1) := by decide +kernel
theorem dX5_reset_47 : decode cX5_reset 47 = .ok (.iconst 0, 1) := by decide +kernel
theorem dX5_reset_48 : decode cX5_reset 48 = .ok (.bastore, 1) := by decide +kernel
theorem dX5_reset_49 : decode cX5_reset 49 = .ok (.aload_n 0, 1) := by decide +kernel
theorem dX5_reset_50 : decode cX5_reset 50 = .ok (.getfield 38, 3) := by decide +kernel
theorem dX5_reset_53 : decode cX5_reset 53 = .ok (.iload_n 3, 1) := by decide +kernel
theorem dX5_reset_54 : decode cX5_reset 54 = .ok (.lconst 0, 1) := by decide +kernel
theorem dX5_reset_55 : decode cX5_reset 55 = .ok (.lastore, 1) := by decide +kernel
theorem dX5_reset_56 : decode cX5_reset 56 = .ok (.iinc 3 1, 3) := by decide +kernel
theorem dX5_reset_59 : decode cX5_reset 59 = .ok (.goto (-30), 3) := by decide +kernel
theorem dX5_reset_62 : decode cX5_reset 62 = .ok (.iconst 0, 1) := by decide +kernel
theorem dX5_reset_63 : decode cX5_reset 63 = .ok (.istore_n 3, 1) := by decide +kernel
theorem dX5_reset_64 : decode cX5_reset 64 = .ok (.iload_n 3, 1) := by decide +kernel
theorem dX5_reset_65 : decode cX5_reset 65 = .ok (.iconst 5, 1) := by decide +kernel
theorem dX5_reset_66 : decode cX5_reset 66 = .ok (.if_icmp .ge 23, 3) := by decide +kernel
theorem dX5_reset_69 : decode cX5_reset 69 = .ok (.aload_n 0, 1) := by decide +kernel
theorem dX5_reset_70 : decode cX5_reset 70 = .ok (.getfield 25, 3) := by decide +kernel
theorem dX5_reset_73 : decode cX5_reset 73 = .ok (.iload_n 3, 1) := by decide +kernel
theorem dX5_reset_74 : decode cX5_reset 74 = .ok (.iconst 0, 1) := by decide +kernel
theorem dX5_reset_75 : decode cX5_reset 75 = .ok (.iastore, 1) := by decide +kernel
theorem dX5_reset_76 : decode cX5_reset 76 = .ok (.aload_n 0, 1) := by decide +kernel
theorem dX5_reset_77 : decode cX5_reset 77 = .ok (.getfield 28, 3) := by decide +kernel
theorem dX5_reset_80 : decode cX5_reset 80 = .ok (.iload_n 3, 1) := by decide +kernel
theorem dX5_reset_81 : decode cX5_reset 81 = .ok (.iconst 0, 1) := by decide +kernel
theorem dX5_reset_82 : decode cX5_reset 82 = .ok (.iastore, 1) := by decide +kernel
theorem dX5_reset_83 : decode cX5_reset 83 = .ok (.iinc 3 1, 3) := by decide +kernel
theorem dX5_reset_86 : decode cX5_reset 86 = .ok (.goto (-22), 3) := by decide +kernel
theorem dX5_reset_89 : decode cX5_reset 89 = .ok (.iload_n 2, 1) := by decide +kernel
theorem dX5_reset_90 : decode cX5_reset 90 = .ok (.ireturn, 1) := by decide +kernel
set_option maxRecDepth 20000 in
theorem ggX5_addLink_X5_refused : GoodIn wsX5_addLink wsX5_refused := goodIn_r _ [10, 11, 12, 13, 9, 14, 15, 16, 17, 18, 19, 20, 21, 22, 23, 24, 25, 26, 27, 28, 29, 30, 31, 32, 33, 34, 35, 36, 37, 38] (by decide +kernel) (by decide +kernel)
set_option maxRecDepth 20000 in
theorem gX5_addLink_X5_refused : GoodIn wsX5_addLink (wsV RX5 75 RX5 yX5_refused wsX5_refused) := goodIn_app (goodIn_of _ (by decide +kernel)) ggX5_addLink_X5_refused
set_option maxRecDepth 20000 in
theorem ggX5_addLink_X5_within : GoodIn wsX5_addLink wsX5_within := goodIn_r _ [18] (by decide +kernel) (by decide +kernel)
set_option maxRecDepth 20000 in
theorem gX5_addLink_X5_within : GoodIn wsX5_addLink (va_wsS RX5 64 yX5_within wsX5_within) := goodIn_app (goodIn_of _ (by decide +kernel)) ggX5_addLink_X5_within
theorem dX5_addLink_0 : decode cX5_addLink 0 = .ok (.aload_n 0, 1) := by decide +kernel
theorem dX5_addLink_1 : decode cX5_addLink 1 = .ok (.iload_n 1, 1) := by decide +kernel
theorem dX5_addLink_2 : decode cX5_addLink 2 = .ok (.iload_n 2, 1) := by decide +kernel
theorem dX5_addLink_3 : decode cX5_addLink 3 = .ok (.invokevirtual 75, 3) := by decide +kernel
theorem dX5_addLink_6 : decode cX5_addLink 6 = .ok (.istore 4, 2) := by decide +kernel
theorem dX5_addLink_8 : decode cX5_addLink 8 = .ok (.iload 4, 2) := by decide +kernel
theorem dX5_addLink_10 : decode cX5_addLink 10 = .ok (.ifCond .eq 6, 3) := by decide +kernel
theorem dX5_addLink_13 : decode cX5_addLink 13 = .ok (.iload 4, 2) := by decide +kernel
theorem dX5_addLink_15 : decode cX5_addLink 15 = .ok (.ireturn, 1) := by decide +kernel
theorem dX5_addLink_16 : decode cX5_addLink 16 = .ok (.iload_n 3, 1) := by decide +kernel
theorem dX5_addLink_17 : decode cX5_addLink 17 = .ok (.iconst 1, 1) := by decide +kernel
theorem dX5_addLink_18 : decode cX5_addLink 18 = .ok (.bipush 99, 2) := by decide +kernel
theorem dX5_addLink_20 : decode cX5_addLink 20 = .ok (.invokestatic 64, 3) := by decide +kernel
theorem dX5_addLink_23 : decode cX5_addLink 23 = .ok (.ifCond .ne 6, 3) := by decide +kernel
theorem dX5_addLink_26 : decode cX5_addLink 26 = .ok (.bipush (-4), 2) := by decide +kernel
theorem dX5_addLink_28 : decode cX5_addLink 28 = .ok (.ireturn, 1) := by decide +kernel
theorem dX5_addLink_29 : decode cX5_addLink 29 = .ok (.aload_n 0, 1) := by decide +kernel
theorem dX5_addLink_30 : decode cX5_addLink 30 = .ok (.getfield 68, 3) := by decide +kernel
theorem dX5_addLink_33 : decode cX5_addLink 33 = .ok (.bipush 12, 2) := by decide +kernel
theorem dX5_addLink_35 : decode cX5_addLink 35 = .ok (.if_icmp .ne 6, 3) := by decide +kernel
theorem dX5_addLink_38 : decode cX5_addLink 38 = .ok (.bipush (-5), 2) := by decide +kernel
theorem dX5_addLink_40 : decode cX5_addLink 40 = .ok (.ireturn, 1) := by decide +kernel
theorem dX5_addLink_41 : decode cX5_addLink 41 = .ok (.aload_n 0, 1) := by decide +kernel
theorem dX5_addLink_42 : decode cX5_addLink 42 = .ok (.getfield 7, 3) := by decide +kernel
theorem dX5_addLink_45 : decode cX5_addLink 45 = .ok (.aload_n 0, 1) := by decide +kernel
theorem dX5_addLink_46 : decode cX5_addLink 46 = .ok (.getfield 68, 3) := by decide +kernel
theorem dX5_addLink_49 : decode cX5_addLink 49 = .ok (.iload_n 1, 1) := by decide +kernel
theorem dX5_addLink_50 : decode cX5_addLink 50 = .ok (.iastore, 1) := by decide +kernel
theorem dX5_addLink_51 : decode cX5_addLink 51 = .ok (.aload_n 0, 1) := by decide +kernel
theorem dX5_addLink_52 : decode cX5_addLink 52 = .ok (.getfield 13, 3) := by decide +kernel
theorem dX5_addLink_55 : decode cX5_addLink 55 = .ok (.aload_n 0, 1) := by decide +kernel
theorem dX5_addLink_56 : decode cX5_addLink 56 = .ok (.getfield 68, 3) := by decide +kernel
theorem dX5_addLink_59 : decode cX5_addLink 59 = .ok (.iload_n 2, 1) := by decide +kernel
theorem dX5_addLink_60 : decode cX5_addLink 60 = .ok (.iastore, 1) := by decide +kernel
theorem dX5_addLink_61 : decode cX5_addLink 61 = .ok (.aload_n 0, 1) := by decide +kernel
theorem dX5_addLink_62 : decode cX5_addLink 62 = .ok (.getfield 16, 3) := by decide +kernel
theorem dX5_addLink_65 : decode cX5_addLink 65 = .ok (.aload_n 0, 1) := by decide +kernel
theorem dX5_addLink_66 : decode cX5_addLink 66 = .ok (.getfield 68, 3) := by decide +kernel
theorem dX5_addLink_69 : decode cX5_addLink 69 = .ok (.iload_n 3, 1) := by decide +kernel
theorem dX5_addLink_70 : decode cX5_addLink 70 = .ok (.iastore, 1) := by decide +kernel
theorem dX5_addLink_71 : decode cX5_addLink 71 = .ok (.aload_n 0, 1) := by decide +kernel
theorem dX5_addLink_72 : decode cX5_addLink 72 = .ok (.getfield 22, 3) := by decide +kernel
theorem dX5_addLink_75 : decode cX5_addLink 75 = .ok (.aload_n 0, 1) := by decide +kernel
theorem dX5_addLink_76 : decode cX5_addLink 76 = .ok (.getfield 68, 3) := by decide +kernel
theorem dX5_addLink_79 : decode cX5_addLink 79 = .ok (.iconst 0, 1) := by decide +kernel
theorem dX5_addLink_80 : decode cX5_addLink 80 = .ok (.iastore, 1) := by decide +kernel
theorem dX5_addLink_81 : decode cX5_addLink 81 = .ok (.aload_n 0, 1) := by decide +kernel
theorem dX5_addLink_82 : decode cX5_addLink 82 = .ok (.dup, 1) := by decide +kernel
theorem dX5_addLink_83 : decode cX5_addLink 83 = .ok (.getfield 68, 3) := by decide +kernel
theorem dX5_addLink_86 : decode cX5_addLink 86 = .ok (.iconst 1, 1) := by decide +kernel
theorem dX5_addLink_87 : decode cX5_addLink 87 = .ok (.iadd, 1) := by decide +kernel
theorem dX5_addLink_88 : decode cX5_addLink 88 = .ok (.putfield 68, 3) := by decide +kernel
theorem dX5_addLink_91 : decode cX5_addLink 91 = .ok (.aload_n 0, 1) := by decide +kernel
theorem dX5_addLink_92 : decode cX5_addLink 92 = .ok (.getfield 68, 3) := by decide +kernel
theorem dX5_addLink_95 : decode cX5_addLink 95 = .ok (.iconst 1, 1) := by decide +kernel
theorem dX5_addLink_96 : decode cX5_addLink 96 = .ok (.isub, 1) := by decide +kernel
theorem dX5_addLink_97 : decode cX5_addLink 97 = .ok (.ireturn, 1) := by decide +kernel
set_option maxRecDepth 20000 in
theorem ggX5_setMetric_X5_isLink : GoodIn wsX5_setMetric wsX5_isLink := goodIn_r _ [6, 7, 8, 9, 5, 10, 11, 12, 13, 14, 15, 16, 17, 18, 19, 20, 21, 22, 23, 24, 25, 26, 27, 28, 29, 30] (by decide +kernel) (by decide +kernel)
set_option maxRecDepth 20000 in
theorem gX5_setMetric_X5_isLink : GoodIn wsX5_setMetric (wsV RX5 79 RX5 yX5_isLink wsX5_isLink) := goodIn_app (goodIn_of _ (by decide +kernel)) ggX5_setMetric_X5_isLink
set_option maxRecDepth 20000 in
theorem ggX5_setMetric_X5_within : GoodIn wsX5_setMetric wsX5_within := goodIn_r _ [10] (by decide +kernel) (by decide +kernel)
set_option maxRecDepth 20000 in
theorem gX5_setMetric_X5_within : GoodIn wsX5_setMetric (va_wsS RX5 64 yX5_within wsX5_within) := goodIn_app (goodIn_of _ (by decide +kernel)) ggX5_setMetric_X5_within
theorem dX5_setMetric_0 : decode cX5_setMetric 0 = .ok (.aload_n 0, 1) := by decide +kernel
theorem dX5_setMetric_1 : decode cX5_setMetric 1 = .ok (.iload_n 1, 1) := by decide +kernel
theorem dX5_setMetric_2 : decode cX5_setMetric 2 = .ok (.invokevirtual 79, 3) := by decide +kernel
theorem dX5_setMetric_5 : decode cX5_setMetric 5 = .ok (.ifCond .ne 6, 3) := by decide +kernel
theorem dX5_setMetric_8 : decode cX5_setMetric 8 = .ok (.bipush (-3), 2) := by decide +kernel
theorem dX5_setMetric_10 : decode cX5_setMetric 10 = .ok (.ireturn, 1) := by decide +kernel
theorem dX5_setMetric_11 : decode cX5_setMetric 11 = .ok (.iload_n 2, 1) := by decide +kernel
theorem dX5_setMetric_12 : decode cX5_setMetric 12 = .ok (.iconst 1, 1) := by decide +kernel
theorem dX5_setMetric_13 : decode cX5_setMetric 13 = .ok (.bipush 99, 2) := by decide +kernel
theorem dX5_setMetric_15 : decode cX5_setMetric 15 = .ok (.invokestatic 64, 3) := by decide +kernel
theorem dX5_setMetric_18 : decode cX5_setMetric 18 = .ok (.ifCond .ne 6, 3) := by decide +kernel
theorem dX5_setMetric_21 : decode cX5_setMetric 21 = .ok (.bipush (-4), 2) := by decide +kernel
theorem dX5_setMetric_23 : decode cX5_setMetric 23 = .ok (.ireturn, 1) := by decide +kernel
theorem dX5_setMetric_24 : decode cX5_setMetric 24 = .ok (.aload_n 0, 1) := by decide +kernel
theorem dX5_setMetric_25 : decode cX5_setMetric 25 = .ok (.getfield 16, 3) := by decide +kernel
theorem dX5_setMetric_28 : decode cX5_setMetric 28 = .ok (.iload_n 1, 1) := by decide +kernel
theorem dX5_setMetric_29 : decode cX5_setMetric 29 = .ok (.iaload, 1) := by decide +kernel
theorem dX5_setMetric_30 : decode cX5_setMetric 30 = .ok (.istore_n 3, 1) := by decide +kernel
theorem dX5_setMetric_31 : decode cX5_setMetric 31 = .ok (.aload_n 0, 1) := by decide +kernel
theorem dX5_setMetric_32 : decode cX5_setMetric 32 = .ok (.getfield 16, 3) := by decide +kernel
theorem dX5_setMetric_35 : decode cX5_setMetric 35 = .ok (.iload_n 1, 1) := by decide +kernel
theorem dX5_setMetric_36 : decode cX5_setMetric 36 = .ok (.iload_n 2, 1) := by decide +kernel
theorem dX5_setMetric_37 : decode cX5_setMetric 37 = .ok (.iastore, 1) := by decide +kernel
theorem dX5_setMetric_38 : decode cX5_setMetric 38 = .ok (.iload_n 3, 1) := by decide +kernel
theorem dX5_setMetric_39 : decode cX5_setMetric 39 = .ok (.ireturn, 1) := by decide +kernel
theorem dX5_costOf_0 : decode cX5_costOf 0 = .ok (.bipush 10, 2) := by decide +kernel
theorem dX5_costOf_2 : decode cX5_costOf 2 = .ok (.aload_n 0, 1) := by decide +kernel
theorem dX5_costOf_3 : decode cX5_costOf 3 = .ok (.getfield 16, 3) := by decide +kernel
theorem dX5_costOf_6 : decode cX5_costOf 6 = .ok (.iload_n 1, 1) := by decide +kernel
theorem dX5_costOf_7 : decode cX5_costOf 7 = .ok (.iaload, 1) := by decide +kernel
theorem dX5_costOf_8 : decode cX5_costOf 8 = .ok (.imul, 1) := by decide +kernel
theorem dX5_costOf_9 : decode cX5_costOf 9 = .ok (.iconst 1, 1) := by decide +kernel
theorem dX5_costOf_10 : decode cX5_costOf 10 = .ok (.iadd, 1) := by decide +kernel
theorem dX5_costOf_11 : decode cX5_costOf 11 = .ok (.ireturn, 1) := by decide +kernel
set_option maxRecDepth 20000 in
theorem ggX5_findRoutes_X5_costOf : GoodIn wsX5_findRoutes wsX5_costOf := goodIn_r _ [12, 13, 26, 27, 28, 29, 30, 31, 32, 33, 34, 35, 36, 37, 38, 39, 40, 41, 42, 43, 44, 45] (by decide +kernel) (by decide +kernel)
set_option maxRecDepth 20000 in
theorem gX5_findRoutes_X5_costOf : GoodIn wsX5_findRoutes (wsV RX5 83 RX5 yX5_costOf wsX5_costOf) := goodIn_app (goodIn_of _ (by decide +kernel)) ggX5_findRoutes_X5_costOf
set_option maxRecDepth 20000 in
theorem ggX5_findRoutes_X5_isPair : GoodIn wsX5_findRoutes wsX5_isPair := goodIn_r _ [17, 4, 26, 27, 28, 29, 30, 31, 32, 33, 34, 35, 36, 37, 38, 39, 40, 41, 42, 43, 44, 45] (by decide +kernel) (by decide +kernel)
set_option maxRecDepth 20000 in
theorem gX5_findRoutes_X5_isPair : GoodIn wsX5_findRoutes (wsV RX5 87 RX5 yX5_isPair wsX5_isPair) := goodIn_app (goodIn_of _ (by decide +kernel)) ggX5_findRoutes_X5_isPair
set_option maxRecDepth 20000 in
theorem ggX5_findRoutes_X5_routeBits : GoodIn wsX5_findRoutes wsX5_routeBits := goodIn_r _ [21, 5, 22, 23, 24, 11, 25, 6, 1, 8, 9, 10, 12, 13, 26, 27, 28, 29, 30, 31, 32, 33, 34, 35, 36, 37, 38, 39, 40, 41, 42, 43, 44, 45] (by decide +kernel) (by decide +kernel)
set_option maxRecDepth 20000 in
theorem gX5_findRoutes_X5_routeBits : GoodIn wsX5_findRoutes (wsV RX5 90 RX5 yX5_routeBits wsX5_routeBits) := goodIn_app (goodIn_of _ (by decide +kernel)) ggX5_findRoutes_X5_routeBits
theorem dX5_findRoutes_0 : decode cX5_findRoutes 0 = .ok (.iconst 0, 1) := by decide +kernel
theorem dX5_findRoutes_1 : decode cX5_findRoutes 1 = .ok (.istore_n 1, 1) := by decide +kernel
theorem dX5_findRoutes_2 : decode cX5_findRoutes 2 = .ok (.iload_n 1, 1) := by decide +kernel
theorem dX5_findRoutes_3 : decode cX5_findRoutes 3 = .ok (.bipush 25, 2) := by decide +kernel
theorem dX5_findRoutes_5 : decode cX5_findRoutes 5 = .ok (.if_icmp .ge 30, 3) := by decide +kernel
theorem dX5_findRoutes_8 : decode cX5_findRoutes 8 = .ok (.aload_n 0, 1) := by decide +kernel
theorem dX5_findRoutes_9 : decode cX5_findRoutes 9 = .ok (.getfield 42, 3) := by decide +kernel
theorem dX5_findRoutes_12 : decode cX5_findRoutes 12 = .ok (.iload_n 1, 1) := by decide +kernel
theorem dX5_findRoutes_13 : decode cX5_findRoutes 13 = .ok (.iload_n 1, 1) := by decide +kernel
theorem dX5_findRoutes_14 : decode cX5_findRoutes 14 = .ok (.iconst 5, 1) := by decide +kernel
theorem dX5_findRoutes_15 : decode cX5_findRoutes 15 = .ok (.idiv, 1) := by decide +kernel
theorem dX5_findRoutes_16 : decode cX5_findRoutes 16 = .ok (.iload_n 1, 1) := by decide +kernel
theorem dX5_findRoutes_17 : decode cX5_findRoutes 17 = .ok (.iconst 5, 1) := by decide +kernel
theorem dX5_findRoutes_18 : decode cX5_findRoutes 18 = .ok (.irem, 1) := by decide +kernel
theorem dX5_findRoutes_19 : decode cX5_findRoutes 19 = .ok (.if_icmp .ne 7, 3) := by decide +kernel
theorem dX5_findRoutes_22 : decode cX5_findRoutes 22 = .ok (.iconst 0, 1) := by decide +kernel
theorem dX5_findRoutes_23 : decode cX5_findRoutes 23 = .ok (.goto 5, 3) := by decide +kernel
theorem dX5_findRoutes_26 : decode cX5_findRoutes 26 = .ok (.ldc 82, 2) := by decide +kernel
theorem dX5_findRoutes_28 : decode cX5_findRoutes 28 = .ok (.iastore, 1) := by decide +kernel
theorem dX5_findRoutes_29 : decode cX5_findRoutes 29 = .ok (.iinc 1 1, 3) := by decide +kernel
theorem dX5_findRoutes_32 : decode cX5_findRoutes 32 = .ok (.goto (-30), 3) := by decide +kernel
theorem dX5_findRoutes_35 : decode cX5_findRoutes 35 = .ok (.iconst 0, 1) := by decide +kernel
theorem dX5_findRoutes_36 : decode cX5_findRoutes 36 = .ok (.istore_n 1, 1) := by decide +kernel
theorem dX5_findRoutes_37 : decode cX5_findRoutes 37 = .ok (.iload_n 1, 1) := by decide +kernel
theorem dX5_findRoutes_38 : decode cX5_findRoutes 38 = .ok (.iconst 5, 1) := by decide +kernel
theorem dX5_findRoutes_39 : decode cX5_findRoutes 39 = .ok (.if_icmp .ge 107, 3) := by decide +kernel
theorem dX5_findRoutes_42 : decode cX5_findRoutes 42 = .ok (.iconst 0, 1) := by decide +kernel
theorem dX5_findRoutes_43 : decode cX5_findRoutes 43 = .ok (.istore_n 2, 1) := by decide +kernel
theorem dX5_findRoutes_44 : decode cX5_findRoutes 44 = .ok (.iload_n 2, 1) := by decide +kernel
theorem dX5_findRoutes_45 : decode cX5_findRoutes 45 = .ok (.aload_n 0, 1) := by decide +kernel
theorem dX5_findRoutes_46 : decode cX5_findRoutes 46 = .ok (.getfield 68, 3) := by decide +kernel
theorem dX5_findRoutes_49 : decode cX5_findRoutes 49 = .ok (.if_icmp .ge 91, 3) := by decide +kernel
theorem dX5_findRoutes_52 : decode cX5_findRoutes 52 = .ok (.iconst 0, 1) := by decide +kernel
theorem dX5_findRoutes_53 : decode cX5_findRoutes 53 = .ok (.istore_n 3, 1) := by decide +kernel
theorem dX5_findRoutes_54 : decode cX5_findRoutes 54 = .ok (.iload_n 3, 1) := by decide +kernel
theorem dX5_findRoutes_55 : decode cX5_findRoutes 55 = .ok (.aload_n 0, 1) := by decide +kernel
theorem dX5_findRoutes_56 : decode cX5_findRoutes 56 = .ok (.getfield 60, 3) := by decide +kernel
theorem dX5_findRoutes_59 : decode cX5_findRoutes 59 = .ok (.if_icmp .ge 75, 3) := by decide +kernel
theorem dX5_findRoutes_62 : decode cX5_findRoutes 62 = .ok (.aload_n 0, 1) := by decide +kernel
theorem dX5_findRoutes_63 : decode cX5_findRoutes 63 = .ok (.iload_n 2, 1) := by decide +kernel
theorem dX5_findRoutes_64 : decode cX5_findRoutes 64 = .ok (.invokevirtual 83, 3) := by decide +kernel
theorem dX5_findRoutes_67 : decode cX5_findRoutes 67 = .ok (.aload_n 0, 1) := by decide +kernel
theorem dX5_findRoutes_68 : decode cX5_findRoutes 68 = .ok (.getfield 42, 3) := by decide +kernel
theorem dX5_findRoutes_71 : decode cX5_findRoutes 71 = .ok (.iconst 5, 1) := by decide +kernel
theorem dX5_findRoutes_72 : decode cX5_findRoutes 72 = .ok (.aload_n 0, 1) := by decide +kernel
theorem dX5_findRoutes_73 : decode cX5_findRoutes 73 = .ok (.getfield 13, 3) := by decide +kernel
theorem dX5_findRoutes_76 : decode cX5_findRoutes 76 = .ok (.iload_n 2, 1) := by decide +kernel
theorem dX5_findRoutes_77 : decode cX5_findRoutes 77 = .ok (.iaload, 1) := by decide +kernel
theorem dX5_findRoutes_78 : decode cX5_findRoutes 78 = .ok (.imul, 1) := by decide +kernel
theorem dX5_findRoutes_79 : decode cX5_findRoutes 79 = .ok (.iload_n 3, 1) := by decide +kernel
theorem dX5_findRoutes_80 : decode cX5_findRoutes 80 = .ok (.iadd, 1) := by decide +kernel
theorem dX5_findRoutes_81 : decode cX5_findRoutes 81 = .ok (.iaload, 1) := by decide +kernel
theorem dX5_findRoutes_82 : decode cX5_findRoutes 82 = .ok (.iadd, 1) := by decide +kernel
theorem dX5_findRoutes_83 : decode cX5_findRoutes 83 = .ok (.istore 4, 2) := by decide +kernel
theorem dX5_findRoutes_85 : decode cX5_findRoutes 85 = .ok (.iconst 5, 1) := by decide +kernel
theorem dX5_findRoutes_86 : decode cX5_findRoutes 86 = .ok (.aload_n 0, 1) := by decide +kernel
theorem dX5_findRoutes_87 : decode cX5_findRoutes 87 = .ok (.getfield 7, 3) := by decide +kernel
theorem dX5_findRoutes_90 : decode cX5_findRoutes 90 = .ok (.iload_n 2, 1) := by decide +kernel
theorem dX5_findRoutes_91 : decode cX5_findRoutes 91 = .ok (.iaload, 1) := by decide +kernel
theorem dX5_findRoutes_92 : decode cX5_findRoutes 92 = .ok (.imul, 1) := by decide +kernel
theorem dX5_findRoutes_93 : decode cX5_findRoutes 93 = .ok (.iload_n 3, 1) := by decide +kernel
theorem dX5_findRoutes_94 : decode cX5_findRoutes 94 = .ok (.iadd, 1) := by decide +kernel
theorem dX5_findRoutes_95 : decode cX5_findRoutes 95 = .ok (.istore 5, 2) := by decide +kernel
theorem dX5_findRoutes_97 : decode cX5_findRoutes 97 = .ok (.aload_n 0, 1) := by decide +kernel
theorem dX5_findRoutes_98 : decode cX5_findRoutes 98 = .ok (.getfield 42, 3) := by decide +kernel
theorem dX5_findRoutes_101 : decode cX5_findRoutes 101 = .ok (.iload 5, 2) := by decide +kernel
theorem dX5_findRoutes_103 : decode cX5_findRoutes 103 = .ok (.iload 4, 2) := by decide +kernel
theorem dX5_findRoutes_105 : decode cX5_findRoutes 105 = .ok (.aload_n 0, 1) := by decide +kernel
theorem dX5_findRoutes_106 : decode cX5_findRoutes 106 = .ok (.getfield 42, 3) := by decide +kernel
theorem dX5_findRoutes_109 : decode cX5_findRoutes 109 = .ok (.iload 5, 2) := by decide +kernel
theorem dX5_findRoutes_111 : decode cX5_findRoutes 111 = .ok (.iaload, 1) := by decide +kernel
theorem dX5_findRoutes_112 : decode cX5_findRoutes 112 = .ok (.if_icmp .ge 8, 3) := by decide +kernel
theorem dX5_findRoutes_115 : decode cX5_findRoutes 115 = .ok (.iload 4, 2) := by decide +kernel
theorem dX5_findRoutes_117 : decode cX5_findRoutes 117 = .ok (.goto 10, 3) := by decide +kernel
theorem dX5_findRoutes_120 : decode cX5_findRoutes 120 = .ok (.aload_n 0, 1) := by decide +kernel
theorem dX5_findRoutes_121 : decode cX5_findRoutes 121 = .ok (.getfield 42, 3) := by decide +kernel
theorem dX5_findRoutes_124 : decode cX5_findRoutes 124 = .ok (.iload 5, 2) := by decide +kernel
theorem dX5_findRoutes_126 : decode cX5_findRoutes 126 = .ok (.iaload, 1) := by decide +kernel
theorem dX5_findRoutes_127 : decode cX5_findRoutes 127 = .ok (.iastore, 1) := by decide +kernel
theorem dX5_findRoutes_128 : decode cX5_findRoutes 128 = .ok (.iinc 3 1, 3) := by decide +kernel
theorem dX5_findRoutes_131 : decode cX5_findRoutes 131 = .ok (.goto (-77), 3) := by decide +kernel
theorem dX5_findRoutes_134 : decode cX5_findRoutes 134 = .ok (.iinc 2 1, 3) := by decide +kernel
theorem dX5_findRoutes_137 : decode cX5_findRoutes 137 = .ok (.goto (-93), 3) := by decide +kernel
theorem dX5_findRoutes_140 : decode cX5_findRoutes 140 = .ok (.iinc 1 1, 3) := by decide +kernel
theorem dX5_findRoutes_143 : decode cX5_findRoutes 143 = .ok (.goto (-106), 3) := by decide +kernel
theorem dX5_findRoutes_146 : decode cX5_findRoutes 146 = .ok (.iconst 0, 1) := by decide +kernel
theorem dX5_findRoutes_147 : decode cX5_findRoutes 147 = .ok (.istore_n 1, 1) := by decide +kernel
theorem dX5_findRoutes_148 : decode cX5_findRoutes 148 = .ok (.iload_n 1, 1) := by decide +kernel
theorem dX5_findRoutes_149 : decode cX5_findRoutes 149 = .ok (.bipush 25, 2) := by decide +kernel
theorem dX5_findRoutes_151 : decode cX5_findRoutes 151 = .ok (.if_icmp .ge 43, 3) := by decide +kernel
theorem dX5_findRoutes_154 : decode cX5_findRoutes 154 = .ok (.aload_n 0, 1) := by decide +kernel
theorem dX5_findRoutes_155 : decode cX5_findRoutes 155 = .ok (.getfield 45, 3) := by decide +kernel
theorem dX5_findRoutes_158 : decode cX5_findRoutes 158 = .ok (.iload_n 1, 1) := by decide +kernel
theorem dX5_findRoutes_159 : decode cX5_findRoutes 159 = .ok (.aload_n 0, 1) := by decide +kernel
theorem dX5_findRoutes_160 : decode cX5_findRoutes 160 = .ok (.iload_n 1, 1) := by decide +kernel
theorem dX5_findRoutes_161 : decode cX5_findRoutes 161 = .ok (.invokevirtual 87, 3) := by decide +kernel
theorem dX5_findRoutes_164 : decode cX5_findRoutes 164 = .ok (.ifCond .eq 22, 3) := by decide +kernel
theorem dX5_findRoutes_167 : decode cX5_findRoutes 167 = .ok (.aload_n 0, 1) := by decide +kernel
theorem dX5_findRoutes_168 : decode cX5_findRoutes 168 = .ok (.getfield 42, 3) := by decide +kernel
theorem dX5_findRoutes_171 : decode cX5_findRoutes 171 = .ok (.iload_n 1, 1) := by decide +kernel
theorem dX5_findRoutes_172 : decode cX5_findRoutes 172 = .ok (.iaload, 1) := by decide +kernel
theorem dX5_findRoutes_173 : decode cX5_findRoutes 173 = .ok (.ldc 82, 2) := by decide +kernel
theorem dX5_findRoutes_175 : decode cX5_findRoutes 175 = .ok (.if_icmp .ge 11, 3) := by decide +kernel
theorem dX5_findRoutes_178 : decode cX5_findRoutes 178 = .ok (.aload_n 0, 1) := by decide +kernel
theorem dX5_findRoutes_179 : decode cX5_findRoutes 179 = .ok (.iload_n 1, 1) := by decide +kernel
theorem dX5_findRoutes_180 : decode cX5_findRoutes 180 = .ok (.invokevirtual 90, 3) := by decide +kernel
theorem dX5_findRoutes_183 : decode cX5_findRoutes 183 = .ok (.goto 4, 3) := by decide +kernel
theorem dX5_findRoutes_186 : decode cX5_findRoutes 186 = .ok (.iconst 0, 1) := by decide +kernel
theorem dX5_findRoutes_187 : decode cX5_findRoutes 187 = .ok (.iastore, 1) := by decide +kernel
theorem dX5_findRoutes_188 : decode cX5_findRoutes 188 = .ok (.iinc 1 1, 3) := by decide +kernel
theorem dX5_findRoutes_191 : decode cX5_findRoutes 191 = .ok (.goto (-43), 3) := by decide +kernel
theorem dX5_findRoutes_194 : decode cX5_findRoutes 194 = .ok (.return_, 1) := by decide +kernel
theorem dX5_isPair_0 : decode cX5_isPair 0 = .ok (.iload_n 1, 1) := by decide +kernel
theorem dX5_isPair_1 : decode cX5_isPair 1 = .ok (.iconst 5, 1) := by decide +kernel
theorem dX5_isPair_2 : decode cX5_isPair 2 = .ok (.idiv, 1) := by decide +kernel
theorem dX5_isPair_3 : decode cX5_isPair 3 = .ok (.iload_n 1, 1) := by decide +kernel
theorem dX5_isPair_4 : decode cX5_isPair 4 = .ok (.iconst 5, 1) := by decide +kernel
theorem dX5_isPair_5 : decode cX5_isPair 5 = .ok (.irem, 1) := by decide +kernel
theorem dX5_isPair_6 : decode cX5_isPair 6 = .ok (.if_icmp .eq 27, 3) := by decide +kernel
theorem dX5_isPair_9 : decode cX5_isPair 9 = .ok (.iload_n 1, 1) := by decide +kernel
theorem dX5_isPair_10 : decode cX5_isPair 10 = .ok (.iconst 5, 1) := by decide +kernel
theorem dX5_isPair_11 : decode cX5_isPair 11 = .ok (.idiv, 1) := by decide +kernel
theorem dX5_isPair_12 : decode cX5_isPair 12 = .ok (.aload_n 0, 1) := by decide +kernel
theorem dX5_isPair_13 : decode cX5_isPair 13 = .ok (.getfield 60, 3) := by decide +kernel
theorem dX5_isPair_16 : decode cX5_isPair 16 = .ok (.if_icmp .ge 17, 3) := by decide +kernel
theorem dX5_isPair_19 : decode cX5_isPair 19 = .ok (.iload_n 1, 1) := by decide +kernel
theorem dX5_isPair_20 : decode cX5_isPair 20 = .ok (.iconst 5, 1) := by decide +kernel
theorem dX5_isPair_21 : decode cX5_isPair 21 = .ok (.irem, 1) := by decide +kernel
theorem dX5_isPair_22 : decode cX5_isPair 22 = .ok (.aload_n 0, 1) := by decide +kernel
theorem dX5_isPair_23 : decode cX5_isPair 23 = .ok (.getfield 60, 3) := by decide +kernel
theorem dX5_isPair_26 : decode cX5_isPair 26 = .ok (.if_icmp .ge 7, 3) := by decide +kernel
theorem dX5_isPair_29 : decode cX5_isPair 29 = .ok (.iconst 1, 1) := by decide +kernel
theorem dX5_isPair_30 : decode cX5_isPair 30 = .ok (.goto 4, 3) := by decide +kernel
theorem dX5_isPair_33 : decode cX5_isPair 33 = .ok (.iconst 0, 1) := by decide +kernel
theorem dX5_isPair_34 : decode cX5_isPair 34 = .ok (.ireturn, 1) := by decide +kernel
set_option maxRecDepth 20000 in
theorem ggX5_nextLink_X5_costOf : GoodIn wsX5_nextLink wsX5_costOf := goodIn_r _ [8, 9, 10, 11, 12, 13, 14, 15, 16, 17, 18, 19, 20, 21, 22, 23, 24, 25, 26, 27, 28, 29] (by decide +kernel) (by decide +kernel)
set_option maxRecDepth 20000 in
theorem gX5_nextLink_X5_costOf : GoodIn wsX5_nextLink (wsV RX5 83 RX5 yX5_costOf wsX5_costOf) := goodIn_app (goodIn_of _ (by decide +kernel)) ggX5_nextLink_X5_costOf
theorem dX5_nextLink_0 : decode cX5_nextLink 0 = .ok (.iconst 0, 1) := by decide +kernel
theorem dX5_nextLink_1 : decode cX5_nextLink 1 = .ok (.istore_n 3, 1) := by decide +kernel
theorem dX5_nextLink_2 : decode cX5_nextLink 2 = .ok (.aload_n 0, 1) := by decide +kernel
theorem dX5_nextLink_3 : decode cX5_nextLink 3 = .ok (.getfield 7, 3) := by decide +kernel
theorem dX5_nextLink_6 : decode cX5_nextLink 6 = .ok (.iload_n 3, 1) := by decide +kernel
theorem dX5_nextLink_7 : decode cX5_nextLink 7 = .ok (.iaload, 1) := by decide +kernel
theorem dX5_nextLink_8 : decode cX5_nextLink 8 = .ok (.iload_n 1, 1) := by decide +kernel
theorem dX5_nextLink_9 : decode cX5_nextLink 9 = .ok (.if_icmp .ne 37, 3) := by decide +kernel
theorem dX5_nextLink_12 : decode cX5_nextLink 12 = .ok (.aload_n 0, 1) := by decide +kernel
theorem dX5_nextLink_13 : decode cX5_nextLink 13 = .ok (.iload_n 3, 1) := by decide +kernel
theorem dX5_nextLink_14 : decode cX5_nextLink 14 = .ok (.invokevirtual 83, 3) := by decide +kernel
theorem dX5_nextLink_17 : decode cX5_nextLink 17 = .ok (.aload_n 0, 1) := by decide +kernel
theorem dX5_nextLink_18 : decode cX5_nextLink 18 = .ok (.getfield 42, 3) := by decide +kernel
theorem dX5_nextLink_21 : decode cX5_nextLink 21 = .ok (.iconst 5, 1) := by decide +kernel
theorem dX5_nextLink_22 : decode cX5_nextLink 22 = .ok (.aload_n 0, 1) := by decide +kernel
theorem dX5_nextLink_23 : decode cX5_nextLink 23 = .ok (.getfield 13, 3) := by decide +kernel
theorem dX5_nextLink_26 : decode cX5_nextLink 26 = .ok (.iload_n 3, 1) := by decide +kernel
theorem dX5_nextLink_27 : decode cX5_nextLink 27 = .ok (.iaload, 1) := by decide +kernel
theorem dX5_nextLink_28 : decode cX5_nextLink 28 = .ok (.imul, 1) := by decide +kernel
theorem dX5_nextLink_29 : decode cX5_nextLink 29 = .ok (.iload_n 2, 1) := by decide +kernel
theorem dX5_nextLink_30 : decode cX5_nextLink 30 = .ok (.iadd, 1) := by decide +kernel
theorem dX5_nextLink_31 : decode cX5_nextLink 31 = .ok (.iaload, 1) := by decide +kernel
theorem dX5_nextLink_32 : decode cX5_nextLink 32 = .ok (.iadd, 1) := by decide +kernel
theorem dX5_nextLink_33 : decode cX5_nextLink 33 = .ok (.aload_n 0, 1) := by decide +kernel
theorem dX5_nextLink_34 : decode cX5_nextLink 34 = .ok (.getfield 42, 3) := by decide +kernel
theorem dX5_nextLink_37 : decode cX5_nextLink 37 = .ok (.iconst 5, 1) := by decide +kernel
theorem dX5_nextLink_38 : decode cX5_nextLink 38 = .ok (.iload_n 1, 1) := by decide +kernel
theorem dX5_nextLink_39 : decode cX5_nextLink 39 = .ok (.imul, 1) := by decide +kernel
theorem dX5_nextLink_40 : decode cX5_nextLink 40 = .ok (.iload_n 2, 1) := by decide +kernel
theorem dX5_nextLink_41 : decode cX5_nextLink 41 = .ok (.iadd, 1) := by decide +kernel
theorem dX5_nextLink_42 : decode cX5_nextLink 42 = .ok (.iaload, 1) := by decide +kernel
theorem dX5_nextLink_43 : decode cX5_nextLink 43 = .ok (.if_icmp .eq 9, 3) := by decide +kernel
theorem dX5_nextLink_46 : decode cX5_nextLink 46 = .ok (.iinc 3 1, 3) := by decide +kernel
theorem dX5_nextLink_49 : decode cX5_nextLink 49 = .ok (.goto (-47), 3) := by decide +kernel
theorem dX5_nextLink_52 : decode cX5_nextLink 52 = .ok (.iload_n 3, 1) := by decide +kernel
theorem dX5_nextLink_53 : decode cX5_nextLink 53 = .ok (.ireturn, 1) := by decide +kernel
set_option maxRecDepth 20000 in
theorem ggX5_routeBits_X5_nextLink : GoodIn wsX5_routeBits wsX5_nextLink := goodIn_r _ [6, 7, 8, 1, 9, 10, 11, 5, 12, 13, 14, 15, 16, 17, 18, 19, 20, 21, 22, 23, 24, 25, 26, 27, 28, 29, 30, 31, 32, 33] (by decide +kernel) (by decide +kernel)
set_option maxRecDepth 20000 in
theorem gX5_routeBits_X5_nextLink : GoodIn wsX5_routeBits (wsV RX5 93 RX5 yX5_nextLink wsX5_nextLink) := goodIn_app (goodIn_of _ (by decide +kernel)) ggX5_routeBits_X5_nextLink
theorem dX5_routeBits_0 : decode cX5_routeBits 0 = .ok (.iconst 0, 1) := by decide +kernel
theorem dX5_routeBits_1 : decode cX5_routeBits 1 = .ok (.istore_n 2, 1) := by decide +kernel
theorem dX5_routeBits_2 : decode cX5_routeBits 2 = .ok (.iload_n 1, 1) := by decide +kernel
theorem dX5_routeBits_3 : decode cX5_routeBits 3 = .ok (.iconst 5, 1) := by decide +kernel
theorem dX5_routeBits_4 : decode cX5_routeBits 4 = .ok (.idiv, 1) := by decide +kernel
theorem dX5_routeBits_5 : decode cX5_routeBits 5 = .ok (.istore_n 3, 1) := by decide +kernel
theorem dX5_routeBits_6 : decode cX5_routeBits 6 = .ok (.iload_n 3, 1) := by decide +kernel
theorem dX5_routeBits_7 : decode cX5_routeBits 7 = .ok (.iload_n 1, 1) := by decide +kernel
theorem dX5_routeBits_8 : decode cX5_routeBits 8 = .ok (.iconst 5, 1) := by decide +kernel
theorem dX5_routeBits_9 : decode cX5_routeBits 9 = .ok (.irem, 1) := by decide +kernel
theorem dX5_routeBits_10 : decode cX5_routeBits 10 = .ok (.if_icmp .eq 31, 3) := by decide +kernel
theorem dX5_routeBits_13 : decode cX5_routeBits 13 = .ok (.aload_n 0, 1) := by decide +kernel
theorem dX5_routeBits_14 : decode cX5_routeBits 14 = .ok (.iload_n 3, 1) := by decide +kernel
theorem dX5_routeBits_15 : decode cX5_routeBits 15 = .ok (.iload_n 1, 1) := by decide +kernel
theorem dX5_routeBits_16 : decode cX5_routeBits 16 = .ok (.iconst 5, 1) := by decide +kernel
theorem dX5_routeBits_17 : decode cX5_routeBits 17 = .ok (.irem, 1) := by decide +kernel
theorem dX5_routeBits_18 : decode cX5_routeBits 18 = .ok (.invokevirtual 93, 3) := by decide +kernel
theorem dX5_routeBits_21 : decode cX5_routeBits 21 = .ok (.istore 4, 2) := by decide +kernel
theorem dX5_routeBits_23 : decode cX5_routeBits 23 = .ok (.iload_n 2, 1) := by decide +kernel
theorem dX5_routeBits_24 : decode cX5_routeBits 24 = .ok (.iconst 1, 1) := by decide +kernel
theorem dX5_routeBits_25 : decode cX5_routeBits 25 = .ok (.iload 4, 2) := by decide +kernel
theorem dX5_routeBits_27 : decode cX5_routeBits 27 = .ok (.ishl, 1) := by decide +kernel
theorem dX5_routeBits_28 : decode cX5_routeBits 28 = .ok (.ior, 1) := by decide +kernel
theorem dX5_routeBits_29 : decode cX5_routeBits 29 = .ok (.istore_n 2, 1) := by decide +kernel
theorem dX5_routeBits_30 : decode cX5_routeBits 30 = .ok (.aload_n 0, 1) := by decide +kernel
theorem dX5_routeBits_31 : decode cX5_routeBits 31 = .ok (.getfield 13, 3) := by decide +kernel
theorem dX5_routeBits_34 : decode cX5_routeBits 34 = .ok (.iload 4, 2) := by decide +kernel
theorem dX5_routeBits_36 : decode cX5_routeBits 36 = .ok (.iaload, 1) := by decide +kernel
theorem dX5_routeBits_37 : decode cX5_routeBits 37 = .ok (.istore_n 3, 1) := by decide +kernel
theorem dX5_routeBits_38 : decode cX5_routeBits 38 = .ok (.goto (-32), 3) := by decide +kernel
theorem dX5_routeBits_41 : decode cX5_routeBits 41 = .ok (.iload_n 2, 1) := by decide +kernel
theorem dX5_routeBits_42 : decode cX5_routeBits 42 = .ok (.ireturn, 1) := by decide +kernel
theorem dX5_hasRoute_0 : decode cX5_hasRoute 0 = .ok (.aload_n 0, 1) := by decide +kernel
theorem dX5_hasRoute_1 : decode cX5_hasRoute 1 = .ok (.getfield 45, 3) := by decide +kernel
theorem dX5_hasRoute_4 : decode cX5_hasRoute 4 = .ok (.iload_n 1, 1) := by decide +kernel
theorem dX5_hasRoute_5 : decode cX5_hasRoute 5 = .ok (.iaload, 1) := by decide +kernel
theorem dX5_hasRoute_6 : decode cX5_hasRoute 6 = .ok (.ifCond .eq 7, 3) := by decide +kernel
theorem dX5_hasRoute_9 : decode cX5_hasRoute 9 = .ok (.iconst 1, 1) := by decide +kernel
theorem dX5_hasRoute_10 : decode cX5_hasRoute 10 = .ok (.goto 4, 3) := by decide +kernel
theorem dX5_hasRoute_13 : decode cX5_hasRoute 13 = .ok (.iconst 0, 1) := by decide +kernel
theorem dX5_hasRoute_14 : decode cX5_hasRoute 14 = .ok (.ireturn, 1) := by decide +kernel
theorem dX5_uses_0 : decode cX5_uses 0 = .ok (.aload_n 0, 1) := by decide +kernel
theorem dX5_uses_1 : decode cX5_uses 1 = .ok (.getfield 45, 3) := by decide +kernel
theorem dX5_uses_4 : decode cX5_uses 4 = .ok (.iload_n 1, 1) := by decide +kernel
theorem dX5_uses_5 : decode cX5_uses 5 = .ok (.iaload, 1) := by decide +kernel
theorem dX5_uses_6 : decode cX5_uses 6 = .ok (.iload_n 2, 1) := by decide +kernel
theorem dX5_uses_7 : decode cX5_uses 7 = .ok (.ishr, 1) := by decide +kernel
theorem dX5_uses_8 : decode cX5_uses 8 = .ok (.iconst 1, 1) := by decide +kernel
theorem dX5_uses_9 : decode cX5_uses 9 = .ok (.iand, 1) := by decide +kernel
theorem dX5_uses_10 : decode cX5_uses 10 = .ok (.iconst 1, 1) := by decide +kernel
theorem dX5_uses_11 : decode cX5_uses 11 = .ok (.if_icmp .ne 7, 3) := by decide +kernel
theorem dX5_uses_14 : decode cX5_uses 14 = .ok (.iconst 1, 1) := by decide +kernel
theorem dX5_uses_15 : decode cX5_uses 15 = .ok (.goto 4, 3) := by decide +kernel
theorem dX5_uses_18 : decode cX5_uses 18 = .ok (.iconst 0, 1) := by decide +kernel
theorem dX5_uses_19 : decode cX5_uses 19 = .ok (.ireturn, 1) := by decide +kernel
set_option maxRecDepth 20000 in
theorem ggX5_refusedRoute_X5_refused : GoodIn wsX5_refusedRoute wsX5_refused := goodIn_r _ [5, 6, 7, 8, 4, 9, 10, 11, 12, 13, 45, 46, 47, 48, 49, 50, 51, 52, 53, 54, 55, 56, 57, 58, 59, 60, 61, 62, 63, 64] (by decide +kernel) (by decide +kernel)
set_option maxRecDepth 20000 in
theorem gX5_refusedRoute_X5_refused : GoodIn wsX5_refusedRoute (wsV RX5 75 RX5 yX5_refused wsX5_refused) := goodIn_app (goodIn_of _ (by decide +kernel)) ggX5_refusedRoute_X5_refused
set_option maxRecDepth 20000 in
theorem ggX5_refusedRoute_X5_findRoutes : GoodIn wsX5_refusedRoute wsX5_findRoutes := goodIn_r _ [17, 18, 19, 20, 10, 21, 22, 23, 24, 25, 26, 4, 27, 28, 29, 30, 31, 32, 33, 34, 35, 36, 37, 38, 39, 40, 45, 46, 47, 48, 49, 50, 51, 52, 53, 54, 55, 56, 57, 58, 59, 60, 61, 62, 63, 64] (by decide +kernel) (by decide +kernel)
set_option maxRecDepth 20000 in
theorem gX5_refusedRoute_X5_findRoutes : GoodIn wsX5_refusedRoute (wsV RX5 96 RX5 yX5_findRoutes wsX5_findRoutes) := goodIn_app (goodIn_of _ (by decide +kernel)) ggX5_refusedRoute_X5_findRoutes
set_option maxRecDepth 20000 in
theorem ggX5_refusedRoute_X5_hasRoute : GoodIn wsX5_refusedRoute wsX5_hasRoute := goodIn_r _ [44, 23, 45, 46, 47, 48, 49, 50, 51, 52, 53, 54, 55, 56, 57, 58, 59, 60, 61, 62, 63, 64] (by decide +kernel) (by decide +kernel)
set_option maxRecDepth 20000 in
theorem gX5_refusedRoute_X5_hasRoute : GoodIn wsX5_refusedRoute (wsV RX5 99 RX5 yX5_hasRoute wsX5_hasRoute) := goodIn_app (goodIn_of _ (by decide +kernel)) ggX5_refusedRoute_X5_hasRoute
theorem dX5_refusedRoute_0 : decode cX5_refusedRoute 0 = .ok (.aload_n 0, 1) := by decide +kernel
theorem dX5_refusedRoute_1 : decode cX5_refusedRoute 1 = .ok (.iload_n 1, 1) := by decide +kernel
theorem dX5_refusedRoute_2 : decode cX5_refusedRoute 2 = .ok (.iload_n 2, 1) := by decide +kernel
theorem dX5_refusedRoute_3 : decode cX5_refusedRoute 3 = .ok (.invokevirtual 75, 3) := by decide +kernel
theorem dX5_refusedRoute_6 : decode cX5_refusedRoute 6 = .ok (.istore_n 3, 1) := by decide +kernel
theorem dX5_refusedRoute_7 : decode cX5_refusedRoute 7 = .ok (.iload_n 3, 1) := by decide +kernel
theorem dX5_refusedRoute_8 : decode cX5_refusedRoute 8 = .ok (.ifCond .eq 5, 3) := by decide +kernel
theorem dX5_refusedRoute_11 : decode cX5_refusedRoute 11 = .ok (.iload_n 3, 1) := by decide +kernel
theorem dX5_refusedRoute_12 : decode cX5_refusedRoute 12 = .ok (.ireturn, 1) := by decide +kernel
theorem dX5_refusedRoute_13 : decode cX5_refusedRoute 13 = .ok (.aload_n 0, 1) := by decide +kernel
theorem dX5_refusedRoute_14 : decode cX5_refusedRoute 14 = .ok (.invokevirtual 96, 3) := by decide +kernel
theorem dX5_refusedRoute_17 : decode cX5_refusedRoute 17 = .ok (.aload_n 0, 1) := by decide +kernel
theorem dX5_refusedRoute_18 : decode cX5_refusedRoute 18 = .ok (.iconst 5, 1) := by decide +kernel
theorem dX5_refusedRoute_19 : decode cX5_refusedRoute 19 = .ok (.iload_n 1, 1) := by decide +kernel
theorem dX5_refusedRoute_20 : decode cX5_refusedRoute 20 = .ok (.imul, 1) := by decide +kernel
theorem dX5_refusedRoute_21 : decode cX5_refusedRoute 21 = .ok (.iload_n 2, 1) := by decide +kernel
theorem dX5_refusedRoute_22 : decode cX5_refusedRoute 22 = .ok (.iadd, 1) := by decide +kernel
theorem dX5_refusedRoute_23 : decode cX5_refusedRoute 23 = .ok (.invokevirtual 99, 3) := by decide +kernel
theorem dX5_refusedRoute_26 : decode cX5_refusedRoute 26 = .ok (.ifCond .eq 7, 3) := by decide +kernel
theorem dX5_refusedRoute_29 : decode cX5_refusedRoute 29 = .ok (.iconst 0, 1) := by decide +kernel
theorem dX5_refusedRoute_30 : decode cX5_refusedRoute 30 = .ok (.goto 5, 3) := by decide +kernel
theorem dX5_refusedRoute_33 : decode cX5_refusedRoute 33 = .ok (.bipush (-6), 2) := by decide +kernel
theorem dX5_refusedRoute_35 : decode cX5_refusedRoute 35 = .ok (.ireturn, 1) := by decide +kernel
set_option maxRecDepth 20000 in
theorem ggX5_routeLength_X5_refusedRoute : GoodIn wsX5_routeLength wsX5_refusedRoute := goodIn_r _ [6, 7, 8, 9, 5, 10, 11, 12, 13, 14, 15, 16, 17, 18, 19, 20, 21, 22, 1, 23, 24, 25, 26, 27, 28, 29, 30, 31, 32, 33, 34, 35, 36, 37, 38, 39, 40, 41, 42, 43, 44, 45, 46, 47, 48, 49, 50, 51, 52, 53, 54, 55, 56, 57, 58, 59, 60, 61, 62, 63, 64, 65, 66, 67, 68] (by decide +kernel) (by decide +kernel)
set_option maxRecDepth 20000 in
theorem gX5_routeLength_X5_refusedRoute : GoodIn wsX5_routeLength (wsV RX5 102 RX5 yX5_refusedRoute wsX5_refusedRoute) := goodIn_app (goodIn_of _ (by decide +kernel)) ggX5_routeLength_X5_refusedRoute
theorem dX5_routeLength_0 : decode cX5_routeLength 0 = .ok (.aload_n 0, 1) := by decide +kernel
theorem dX5_routeLength_1 : decode cX5_routeLength 1 = .ok (.iload_n 1, 1) := by decide +kernel
theorem dX5_routeLength_2 : decode cX5_routeLength 2 = .ok (.iload_n 2, 1) := by decide +kernel
theorem dX5_routeLength_3 : decode cX5_routeLength 3 = .ok (.invokevirtual 102, 3) := by decide +kernel
theorem dX5_routeLength_6 : decode cX5_routeLength 6 = .ok (.istore_n 3, 1) := by decide +kernel
theorem dX5_routeLength_7 : decode cX5_routeLength 7 = .ok (.iload_n 3, 1) := by decide +kernel
theorem dX5_routeLength_8 : decode cX5_routeLength 8 = .ok (.ifCond .eq 7, 3) := by decide +kernel
theorem dX5_routeLength_11 : decode cX5_routeLength 11 = .ok (.iload_n 3, 1) := by decide +kernel
theorem dX5_routeLength_12 : decode cX5_routeLength 12 = .ok (.goto 16, 3) := by decide +kernel
theorem dX5_routeLength_15 : decode cX5_routeLength 15 = .ok (.aload_n 0, 1) := by decide +kernel
theorem dX5_routeLength_16 : decode cX5_routeLength 16 = .ok (.getfield 42, 3) := by decide +kernel
theorem dX5_routeLength_19 : decode cX5_routeLength 19 = .ok (.iconst 5, 1) := by decide +kernel
theorem dX5_routeLength_20 : decode cX5_routeLength 20 = .ok (.iload_n 1, 1) := by decide +kernel
theorem dX5_routeLength_21 : decode cX5_routeLength 21 = .ok (.imul, 1) := by decide +kernel
theorem dX5_routeLength_22 : decode cX5_routeLength 22 = .ok (.iload_n 2, 1) := by decide +kernel
theorem dX5_routeLength_23 : decode cX5_routeLength 23 = .ok (.iadd, 1) := by decide +kernel
theorem dX5_routeLength_24 : decode cX5_routeLength 24 = .ok (.iaload, 1) := by decide +kernel
theorem dX5_routeLength_25 : decode cX5_routeLength 25 = .ok (.bipush 10, 2) := by decide +kernel
theorem dX5_routeLength_27 : decode cX5_routeLength 27 = .ok (.irem, 1) := by decide +kernel
theorem dX5_routeLength_28 : decode cX5_routeLength 28 = .ok (.ireturn, 1) := by decide +kernel
set_option maxRecDepth 20000 in
theorem ggX5_routeLink_X5_refusedRoute : GoodIn wsX5_routeLink wsX5_refusedRoute := goodIn_r _ [7, 8, 9, 10, 6, 11, 12, 13, 14, 15, 16, 17, 18, 19, 20, 21, 22, 23, 1, 24, 25, 2, 26, 27, 28, 29, 30, 31, 32, 33, 34, 35, 36, 37, 38, 39, 40, 41, 42, 43, 44, 45, 46, 47, 48, 49, 50, 51, 52, 53, 54, 55, 56, 57, 58, 59, 60, 61, 62, 63, 64, 65, 66, 67, 68] (by decide +kernel) (by decide +kernel)
set_option maxRecDepth 20000 in
theorem gX5_routeLink_X5_refusedRoute : GoodIn wsX5_routeLink (wsV RX5 102 RX5 yX5_refusedRoute wsX5_refusedRoute) := goodIn_app (goodIn_of _ (by decide +kernel)) ggX5_routeLink_X5_refusedRoute
set_option maxRecDepth 20000 in
theorem ggX5_routeLink_X5_within : GoodIn wsX5_routeLink wsX5_within := goodIn_r _ [19] (by decide +kernel) (by decide +kernel)
set_option maxRecDepth 20000 in
theorem gX5_routeLink_X5_within : GoodIn wsX5_routeLink (va_wsS RX5 64 yX5_within wsX5_within) := goodIn_app (goodIn_of _ (by decide +kernel)) ggX5_routeLink_X5_within
set_option maxRecDepth 20000 in
theorem ggX5_routeLink_X5_nextLink : GoodIn wsX5_routeLink wsX5_nextLink := goodIn_r _ [44, 26, 1, 2, 28, 29, 30, 6, 31, 32, 49, 50, 51, 52, 53, 54, 55, 56, 57, 58, 59, 60, 61, 62, 63, 64, 65, 66, 67, 68] (by decide +kernel) (by decide +kernel)
set_option maxRecDepth 20000 in
theorem gX5_routeLink_X5_nextLink : GoodIn wsX5_routeLink (wsV RX5 93 RX5 yX5_nextLink wsX5_nextLink) := goodIn_app (goodIn_of _ (by decide +kernel)) ggX5_routeLink_X5_nextLink
theorem dX5_routeLink_0 : decode cX5_routeLink 0 = .ok (.aload_n 0, 1) := by decide +kernel
theorem dX5_routeLink_1 : decode cX5_routeLink 1 = .ok (.iload_n 1, 1) := by decide +kernel
theorem dX5_routeLink_2 : decode cX5_routeLink 2 = .ok (.iload_n 2, 1) := by decide +kernel
theorem dX5_routeLink_3 : decode cX5_routeLink 3 = .ok (.invokevirtual 102, 3) := by decide +kernel
theorem dX5_routeLink_6 : decode cX5_routeLink 6 = .ok (.istore 4, 2) := by decide +kernel
theorem dX5_routeLink_8 : decode cX5_routeLink 8 = .ok (.iload 4, 2) := by decide +kernel
theorem dX5_routeLink_10 : decode cX5_routeLink 10 = .ok (.ifCond .eq 6, 3) := by decide +kernel
theorem dX5_routeLink_13 : decode cX5_routeLink 13 = .ok (.iload 4, 2) := by decide +kernel
theorem dX5_routeLink_15 : decode cX5_routeLink 15 = .ok (.ireturn, 1) := by decide +kernel
theorem dX5_routeLink_16 : decode cX5_routeLink 16 = .ok (.iload_n 3, 1) := by decide +kernel
theorem dX5_routeLink_17 : decode cX5_routeLink 17 = .ok (.iconst 0, 1) := by decide +kernel
theorem dX5_routeLink_18 : decode cX5_routeLink 18 = .ok (.aload_n 0, 1) := by decide +kernel
theorem dX5_routeLink_19 : decode cX5_routeLink 19 = .ok (.getfield 42, 3) := by decide +kernel
theorem dX5_routeLink_22 : decode cX5_routeLink 22 = .ok (.iconst 5, 1) := by decide +kernel
theorem dX5_routeLink_23 : decode cX5_routeLink 23 = .ok (.iload_n 1, 1) := by decide +kernel
theorem dX5_routeLink_24 : decode cX5_routeLink 24 = .ok (.imul, 1) := by decide +kernel
theorem dX5_routeLink_25 : decode cX5_routeLink 25 = .ok (.iload_n 2, 1) := by decide +kernel
theorem dX5_routeLink_26 : decode cX5_routeLink 26 = .ok (.iadd, 1) := by decide +kernel
theorem dX5_routeLink_27 : decode cX5_routeLink 27 = .ok (.iaload, 1) := by decide +kernel
theorem dX5_routeLink_28 : decode cX5_routeLink 28 = .ok (.bipush 10, 2) := by decide +kernel
theorem dX5_routeLink_30 : decode cX5_routeLink 30 = .ok (.irem, 1) := by decide +kernel
theorem dX5_routeLink_31 : decode cX5_routeLink 31 = .ok (.iconst 1, 1) := by decide +kernel
theorem dX5_routeLink_32 : decode cX5_routeLink 32 = .ok (.isub, 1) := by decide +kernel
theorem dX5_routeLink_33 : decode cX5_routeLink 33 = .ok (.invokestatic 64, 3) := by decide +kernel
theorem dX5_routeLink_36 : decode cX5_routeLink 36 = .ok (.ifCond .ne 6, 3) := by decide +kernel
theorem dX5_routeLink_39 : decode cX5_routeLink 39 = .ok (.bipush (-4), 2) := by decide +kernel
theorem dX5_routeLink_41 : decode cX5_routeLink 41 = .ok (.ireturn, 1) := by decide +kernel
theorem dX5_routeLink_42 : decode cX5_routeLink 42 = .ok (.aload_n 0, 1) := by decide +kernel
theorem dX5_routeLink_43 : decode cX5_routeLink 43 = .ok (.iload_n 1, 1) := by decide +kernel
theorem dX5_routeLink_44 : decode cX5_routeLink 44 = .ok (.iload_n 2, 1) := by decide +kernel
theorem dX5_routeLink_45 : decode cX5_routeLink 45 = .ok (.invokevirtual 93, 3) := by decide +kernel
theorem dX5_routeLink_48 : decode cX5_routeLink 48 = .ok (.istore 5, 2) := by decide +kernel
theorem dX5_routeLink_50 : decode cX5_routeLink 50 = .ok (.iconst 0, 1) := by decide +kernel
theorem dX5_routeLink_51 : decode cX5_routeLink 51 = .ok (.istore 6, 2) := by decide +kernel
theorem dX5_routeLink_53 : decode cX5_routeLink 53 = .ok (.iload 6, 2) := by decide +kernel
theorem dX5_routeLink_55 : decode cX5_routeLink 55 = .ok (.iload_n 3, 1) := by decide +kernel
theorem dX5_routeLink_56 : decode cX5_routeLink 56 = .ok (.if_icmp .ge 23, 3) := by decide +kernel
theorem dX5_routeLink_59 : decode cX5_routeLink 59 = .ok (.aload_n 0, 1) := by decide +kernel
theorem dX5_routeLink_60 : decode cX5_routeLink 60 = .ok (.aload_n 0, 1) := by decide +kernel
theorem dX5_routeLink_61 : decode cX5_routeLink 61 = .ok (.getfield 13, 3) := by decide +kernel
theorem dX5_routeLink_64 : decode cX5_routeLink 64 = .ok (.iload 5, 2) := by decide +kernel
theorem dX5_routeLink_66 : decode cX5_routeLink 66 = .ok (.iaload, 1) := by decide +kernel
theorem dX5_routeLink_67 : decode cX5_routeLink 67 = .ok (.iload_n 2, 1) := by decide +kernel
theorem dX5_routeLink_68 : decode cX5_routeLink 68 = .ok (.invokevirtual 93, 3) := by decide +kernel
theorem dX5_routeLink_71 : decode cX5_routeLink 71 = .ok (.istore 5, 2) := by decide +kernel
theorem dX5_routeLink_73 : decode cX5_routeLink 73 = .ok (.iinc 6 1, 3) := by decide +kernel
theorem dX5_routeLink_76 : decode cX5_routeLink 76 = .ok (.goto (-23), 3) := by decide +kernel
theorem dX5_routeLink_79 : decode cX5_routeLink 79 = .ok (.iload 5, 2) := by decide +kernel
theorem dX5_routeLink_81 : decode cX5_routeLink 81 = .ok (.ireturn, 1) := by decide +kernel
set_option maxRecDepth 20000 in
theorem ggX5_pairsOnLink_X5_isLink : GoodIn wsX5_pairsOnLink wsX5_isLink := goodIn_r _ [5, 6, 7, 8, 4, 9, 41, 42, 43, 44, 45, 46, 47, 48, 49, 50, 51, 52, 53, 54, 55, 56, 57, 58, 59, 60] (by decide +kernel) (by decide +kernel)
set_option maxRecDepth 20000 in
theorem gX5_pairsOnLink_X5_isLink : GoodIn wsX5_pairsOnLink (wsV RX5 79 RX5 yX5_isLink wsX5_isLink) := goodIn_app (goodIn_of _ (by decide +kernel)) ggX5_pairsOnLink_X5_isLink
set_option maxRecDepth 20000 in
theorem ggX5_pairsOnLink_X5_findRoutes : GoodIn wsX5_pairsOnLink wsX5_findRoutes := goodIn_r _ [13, 14, 15, 6, 16, 17, 18, 19, 20, 21, 22, 4, 23, 24, 25, 26, 27, 28, 29, 30, 31, 32, 33, 34, 35, 36, 41, 42, 43, 44, 45, 46, 47, 48, 49, 50, 51, 52, 53, 54, 55, 56, 57, 58, 59, 60] (by decide +kernel) (by decide +kernel)
set_option maxRecDepth 20000 in
theorem gX5_pairsOnLink_X5_findRoutes : GoodIn wsX5_pairsOnLink (wsV RX5 96 RX5 yX5_findRoutes wsX5_findRoutes) := goodIn_app (goodIn_of _ (by decide +kernel)) ggX5_pairsOnLink_X5_findRoutes
set_option maxRecDepth 20000 in
theorem ggX5_pairsOnLink_X5_uses : GoodIn wsX5_pairsOnLink wsX5_uses := goodIn_r _ [40, 19, 41, 42, 43, 44, 45, 46, 47, 48, 49, 50, 51, 52, 53, 54, 55, 56, 57, 58, 59, 60] (by decide +kernel) (by decide +kernel)
set_option maxRecDepth 20000 in
theorem gX5_pairsOnLink_X5_uses : GoodIn wsX5_pairsOnLink (wsV RX5 105 RX5 yX5_uses wsX5_uses) := goodIn_app (goodIn_of _ (by decide +kernel)) ggX5_pairsOnLink_X5_uses
theorem dX5_pairsOnLink_0 : decode cX5_pairsOnLink 0 = .ok (.aload_n 0, 1) := by decide +kernel
theorem dX5_pairsOnLink_1 : decode cX5_pairsOnLink 1 = .ok (.iload_n 1, 1) := by decide +kernel
theorem dX5_pairsOnLink_2 : decode cX5_pairsOnLink 2 = .ok (.invokevirtual 79, 3) := by decide +kernel
theorem dX5_pairsOnLink_5 : decode cX5_pairsOnLink 5 = .ok (.ifCond .ne 6, 3) := by decide +kernel
theorem dX5_pairsOnLink_8 : decode cX5_pairsOnLink 8 = .ok (.bipush (-3), 2) := by decide +kernel
theorem dX5_pairsOnLink_10 : decode cX5_pairsOnLink 10 = .ok (.ireturn, 1) := by decide +kernel
theorem dX5_pairsOnLink_11 : decode cX5_pairsOnLink 11 = .ok (.aload_n 0, 1) := by decide +kernel
theorem dX5_pairsOnLink_12 : decode cX5_pairsOnLink 12 = .ok (.invokevirtual 96, 3) := by decide +kernel
theorem dX5_pairsOnLink_15 : decode cX5_pairsOnLink 15 = .ok (.iconst 0, 1) := by decide +kernel
theorem dX5_pairsOnLink_16 : decode cX5_pairsOnLink 16 = .ok (.istore_n 2, 1) := by decide +kernel
theorem dX5_pairsOnLink_17 : decode cX5_pairsOnLink 17 = .ok (.iconst 0, 1) := by decide +kernel
theorem dX5_pairsOnLink_18 : decode cX5_pairsOnLink 18 = .ok (.istore_n 3, 1) := by decide +kernel
theorem dX5_pairsOnLink_19 : decode cX5_pairsOnLink 19 = .ok (.iload_n 3, 1) := by decide +kernel
theorem dX5_pairsOnLink_20 : decode cX5_pairsOnLink 20 = .ok (.bipush 25, 2) := by decide +kernel
theorem dX5_pairsOnLink_22 : decode cX5_pairsOnLink 22 = .ok (.if_icmp .ge 26, 3) := by decide +kernel
theorem dX5_pairsOnLink_25 : decode cX5_pairsOnLink 25 = .ok (.iload_n 2, 1) := by decide +kernel
theorem dX5_pairsOnLink_26 : decode cX5_pairsOnLink 26 = .ok (.aload_n 0, 1) := by decide +kernel
theorem dX5_pairsOnLink_27 : decode cX5_pairsOnLink 27 = .ok (.iload_n 3, 1) := by decide +kernel
theorem dX5_pairsOnLink_28 : decode cX5_pairsOnLink 28 = .ok (.iload_n 1, 1) := by decide +kernel
theorem dX5_pairsOnLink_29 : decode cX5_pairsOnLink 29 = .ok (.invokevirtual 105, 3) := by decide +kernel
theorem dX5_pairsOnLink_32 : decode cX5_pairsOnLink 32 = .ok (.ifCond .eq 7, 3) := by decide +kernel
theorem dX5_pairsOnLink_35 : decode cX5_pairsOnLink 35 = .ok (.iconst 1, 1) := by decide +kernel
theorem dX5_pairsOnLink_36 : decode cX5_pairsOnLink 36 = .ok (.goto 4, 3) := by decide +kernel
theorem dX5_pairsOnLink_39 : decode cX5_pairsOnLink 39 = .ok (.iconst 0, 1) := by decide +kernel
theorem dX5_pairsOnLink_40 : decode cX5_pairsOnLink 40 = .ok (.iadd, 1) := by decide +kernel
theorem dX5_pairsOnLink_41 : decode cX5_pairsOnLink 41 = .ok (.istore_n 2, 1) := by decide +kernel
theorem dX5_pairsOnLink_42 : decode cX5_pairsOnLink 42 = .ok (.iinc 3 1, 3) := by decide +kernel
theorem dX5_pairsOnLink_45 : decode cX5_pairsOnLink 45 = .ok (.goto (-26), 3) := by decide +kernel
theorem dX5_pairsOnLink_48 : decode cX5_pairsOnLink 48 = .ok (.iload_n 2, 1) := by decide +kernel
theorem dX5_pairsOnLink_49 : decode cX5_pairsOnLink 49 = .ok (.ireturn, 1) := by decide +kernel
set_option maxRecDepth 20000 in
theorem ggX5_setDemand_X5_refused : GoodIn wsX5_setDemand wsX5_refused := goodIn_r _ [6, 7, 8, 9, 5, 10, 11, 12, 13, 14, 15, 16, 17, 18, 19, 20, 21, 22, 23, 24, 25, 26, 27, 28, 29, 30, 31, 32, 33, 34] (by decide +kernel) (by decide +kernel)
set_option maxRecDepth 20000 in
theorem gX5_setDemand_X5_refused : GoodIn wsX5_setDemand (wsV RX5 75 RX5 yX5_refused wsX5_refused) := goodIn_app (goodIn_of _ (by decide +kernel)) ggX5_setDemand_X5_refused
set_option maxRecDepth 20000 in
theorem ggX5_setDemand_X5_within : GoodIn wsX5_setDemand wsX5_within := goodIn_r _ [14] (by decide +kernel) (by decide +kernel)
set_option maxRecDepth 20000 in
theorem gX5_setDemand_X5_within : GoodIn wsX5_setDemand (va_wsS RX5 64 yX5_within wsX5_within) := goodIn_app (goodIn_of _ (by decide +kernel)) ggX5_setDemand_X5_within
theorem dX5_setDemand_0 : decode cX5_setDemand 0 = .ok (.aload_n 0, 1) := by decide +kernel
theorem dX5_setDemand_1 : decode cX5_setDemand 1 = .ok (.iload_n 1, 1) := by decide +kernel
theorem dX5_setDemand_2 : decode cX5_setDemand 2 = .ok (.iload_n 2, 1) := by decide +kernel
theorem dX5_setDemand_3 : decode cX5_setDemand 3 = .ok (.invokevirtual 75, 3) := by decide +kernel
theorem dX5_setDemand_6 : decode cX5_setDemand 6 = .ok (.istore 4, 2) := by decide +kernel
theorem dX5_setDemand_8 : decode cX5_setDemand 8 = .ok (.iload 4, 2) := by decide +kernel
theorem dX5_setDemand_10 : decode cX5_setDemand 10 = .ok (.ifCond .eq 6, 3) := by decide +kernel
theorem dX5_setDemand_13 : decode cX5_setDemand 13 = .ok (.iload 4, 2) := by decide +kernel
theorem dX5_setDemand_15 : decode cX5_setDemand 15 = .ok (.ireturn, 1) := by decide +kernel
theorem dX5_setDemand_16 : decode cX5_setDemand 16 = .ok (.iload_n 3, 1) := by decide +kernel
theorem dX5_setDemand_17 : decode cX5_setDemand 17 = .ok (.iconst 0, 1) := by decide +kernel
theorem dX5_setDemand_18 : decode cX5_setDemand 18 = .ok (.sipush 9999, 3) := by decide +kernel
theorem dX5_setDemand_21 : decode cX5_setDemand 21 = .ok (.invokestatic 64, 3) := by decide +kernel
theorem dX5_setDemand_24 : decode cX5_setDemand 24 = .ok (.ifCond .ne 6, 3) := by decide +kernel
theorem dX5_setDemand_27 : decode cX5_setDemand 27 = .ok (.bipush (-4), 2) := by decide +kernel
theorem dX5_setDemand_29 : decode cX5_setDemand 29 = .ok (.ireturn, 1) := by decide +kernel
theorem dX5_setDemand_30 : decode cX5_setDemand 30 = .ok (.aload_n 0, 1) := by decide +kernel
theorem dX5_setDemand_31 : decode cX5_setDemand 31 = .ok (.getfield 19, 3) := by decide +kernel
theorem dX5_setDemand_34 : decode cX5_setDemand 34 = .ok (.iconst 5, 1) := by decide +kernel
theorem dX5_setDemand_35 : decode cX5_setDemand 35 = .ok (.iload_n 1, 1) := by decide +kernel
theorem dX5_setDemand_36 : decode cX5_setDemand 36 = .ok (.imul, 1) := by decide +kernel
theorem dX5_setDemand_37 : decode cX5_setDemand 37 = .ok (.iload_n 2, 1) := by decide +kernel
theorem dX5_setDemand_38 : decode cX5_setDemand 38 = .ok (.iadd, 1) := by decide +kernel
theorem dX5_setDemand_39 : decode cX5_setDemand 39 = .ok (.iaload, 1) := by decide +kernel
theorem dX5_setDemand_40 : decode cX5_setDemand 40 = .ok (.istore 5, 2) := by decide +kernel
theorem dX5_setDemand_42 : decode cX5_setDemand 42 = .ok (.aload_n 0, 1) := by decide +kernel
theorem dX5_setDemand_43 : decode cX5_setDemand 43 = .ok (.getfield 19, 3) := by decide +kernel
theorem dX5_setDemand_46 : decode cX5_setDemand 46 = .ok (.iconst 5, 1) := by decide +kernel
theorem dX5_setDemand_47 : decode cX5_setDemand 47 = .ok (.iload_n 1, 1) := by decide +kernel
theorem dX5_setDemand_48 : decode cX5_setDemand 48 = .ok (.imul, 1) := by decide +kernel
theorem dX5_setDemand_49 : decode cX5_setDemand 49 = .ok (.iload_n 2, 1) := by decide +kernel
theorem dX5_setDemand_50 : decode cX5_setDemand 50 = .ok (.iadd, 1) := by decide +kernel
theorem dX5_setDemand_51 : decode cX5_setDemand 51 = .ok (.iload_n 3, 1) := by decide +kernel
theorem dX5_setDemand_52 : decode cX5_setDemand 52 = .ok (.iastore, 1) := by decide +kernel
theorem dX5_setDemand_53 : decode cX5_setDemand 53 = .ok (.iload 5, 2) := by decide +kernel
theorem dX5_setDemand_55 : decode cX5_setDemand 55 = .ok (.ireturn, 1) := by decide +kernel
set_option maxRecDepth 20000 in
theorem ggX5_carried_X5_uses : GoodIn wsX5_carried wsX5_uses := goodIn_r _ [6, 7, 8, 9, 10, 11, 12, 13, 14, 15, 16, 17, 18, 19, 20, 21, 22, 23, 24, 25, 26, 27] (by decide +kernel) (by decide +kernel)
set_option maxRecDepth 20000 in
theorem gX5_carried_X5_uses : GoodIn wsX5_carried (wsV RX5 105 RX5 yX5_uses wsX5_uses) := goodIn_app (goodIn_of _ (by decide +kernel)) ggX5_carried_X5_uses
theorem dX5_carried_0 : decode cX5_carried 0 = .ok (.iconst 0, 1) := by decide +kernel
theorem dX5_carried_1 : decode cX5_carried 1 = .ok (.istore_n 2, 1) := by decide +kernel
theorem dX5_carried_2 : decode cX5_carried 2 = .ok (.iconst 0, 1) := by decide +kernel
theorem dX5_carried_3 : decode cX5_carried 3 = .ok (.istore_n 3, 1) := by decide +kernel
theorem dX5_carried_4 : decode cX5_carried 4 = .ok (.iload_n 3, 1) := by decide +kernel
theorem dX5_carried_5 : decode cX5_carried 5 = .ok (.bipush 25, 2) := by decide +kernel
theorem dX5_carried_7 : decode cX5_carried 7 = .ok (.if_icmp .ge 31, 3) := by decide +kernel
theorem dX5_carried_10 : decode cX5_carried 10 = .ok (.iload_n 2, 1) := by decide +kernel
theorem dX5_carried_11 : decode cX5_carried 11 = .ok (.aload_n 0, 1) := by decide +kernel
theorem dX5_carried_12 : decode cX5_carried 12 = .ok (.iload_n 3, 1) := by decide +kernel
theorem dX5_carried_13 : decode cX5_carried 13 = .ok (.iload_n 1, 1) := by decide +kernel
theorem dX5_carried_14 : decode cX5_carried 14 = .ok (.invokevirtual 105, 3) := by decide +kernel
theorem dX5_carried_17 : decode cX5_carried 17 = .ok (.ifCond .eq 12, 3) := by decide +kernel
theorem dX5_carried_20 : decode cX5_carried 20 = .ok (.aload_n 0, 1) := by decide +kernel
theorem dX5_carried_21 : decode cX5_carried 21 = .ok (.getfield 19, 3) := by decide +kernel
theorem dX5_carried_24 : decode cX5_carried 24 = .ok (.iload_n 3, 1) := by decide +kernel
theorem dX5_carried_25 : decode cX5_carried 25 = .ok (.iaload, 1) := by decide +kernel
theorem dX5_carried_26 : decode cX5_carried 26 = .ok (.goto 4, 3) := by decide +kernel
theorem dX5_carried_29 : decode cX5_carried 29 = .ok (.iconst 0, 1) := by decide +kernel
theorem dX5_carried_30 : decode cX5_carried 30 = .ok (.iadd, 1) := by decide +kernel
theorem dX5_carried_31 : decode cX5_carried 31 = .ok (.istore_n 2, 1) := by decide +kernel
theorem dX5_carried_32 : decode cX5_carried 32 = .ok (.iinc 3 1, 3) := by decide +kernel
theorem dX5_carried_35 : decode cX5_carried 35 = .ok (.goto (-31), 3) := by decide +kernel
theorem dX5_carried_38 : decode cX5_carried 38 = .ok (.iload_n 2, 1) := by decide +kernel
theorem dX5_carried_39 : decode cX5_carried 39 = .ok (.ireturn, 1) := by decide +kernel
set_option maxRecDepth 20000 in
theorem ggX5_carriedLoad_X5_isLink : GoodIn wsX5_carriedLoad wsX5_isLink := goodIn_r _ [5, 6, 7, 8, 4, 9, 46, 47, 48, 49, 50, 51, 52, 53, 54, 55, 56, 57, 58, 59, 60, 61, 62, 63, 64, 65] (by decide +kernel) (by decide +kernel)
set_option maxRecDepth 20000 in
theorem gX5_carriedLoad_X5_isLink : GoodIn wsX5_carriedLoad (wsV RX5 79 RX5 yX5_isLink wsX5_isLink) := goodIn_app (goodIn_of _ (by decide +kernel)) ggX5_carriedLoad_X5_isLink
set_option maxRecDepth 20000 in
theorem ggX5_carriedLoad_X5_findRoutes : GoodIn wsX5_carriedLoad wsX5_findRoutes := goodIn_r _ [13, 14, 15, 6, 16, 17, 18, 19, 20, 21, 22, 4, 23, 24, 25, 26, 27, 28, 29, 30, 31, 32, 33, 34, 35, 36, 46, 47, 48, 49, 50, 51, 52, 53, 54, 55, 56, 57, 58, 59, 60, 61, 62, 63, 64, 65] (by decide +kernel) (by decide +kernel)
set_option maxRecDepth 20000 in
theorem gX5_carriedLoad_X5_findRoutes : GoodIn wsX5_carriedLoad (wsV RX5 96 RX5 yX5_findRoutes wsX5_findRoutes) := goodIn_app (goodIn_of _ (by decide +kernel)) ggX5_carriedLoad_X5_findRoutes
set_option maxRecDepth 20000 in
theorem ggX5_carriedLoad_X5_carried : GoodIn wsX5_carriedLoad wsX5_carried := goodIn_r _ [40, 41, 42, 43, 44, 4, 45, 19, 46, 47, 48, 49, 50, 51, 52, 53, 54, 55, 56, 57, 58, 59, 60, 61, 62, 63, 64, 65] (by decide +kernel) (by decide +kernel)
set_option maxRecDepth 20000 in
theorem gX5_carriedLoad_X5_carried : GoodIn wsX5_carriedLoad (wsV RX5 109 RX5 yX5_carried wsX5_carried) := goodIn_app (goodIn_of _ (by decide +kernel)) ggX5_carriedLoad_X5_carried
theorem dX5_carriedLoad_0 : decode cX5_carriedLoad 0 = .ok (.aload_n 0, 1) := by decide +kernel
theorem dX5_carriedLoad_1 : decode cX5_carriedLoad 1 = .ok (.iload_n 1, 1) := by decide +kernel
theorem dX5_carriedLoad_2 : decode cX5_carriedLoad 2 = .ok (.invokevirtual 79, 3) := by decide +kernel
theorem dX5_carriedLoad_5 : decode cX5_carriedLoad 5 = .ok (.ifCond .ne 6, 3) := by decide +kernel
theorem dX5_carriedLoad_8 : decode cX5_carriedLoad 8 = .ok (.bipush (-3), 2) := by decide +kernel
theorem dX5_carriedLoad_10 : decode cX5_carriedLoad 10 = .ok (.ireturn, 1) := by decide +kernel
theorem dX5_carriedLoad_11 : decode cX5_carriedLoad 11 = .ok (.aload_n 0, 1) := by decide +kernel
theorem dX5_carriedLoad_12 : decode cX5_carriedLoad 12 = .ok (.invokevirtual 96, 3) := by decide +kernel
theorem dX5_carriedLoad_15 : decode cX5_carriedLoad 15 = .ok (.aload_n 0, 1) := by decide +kernel
theorem dX5_carriedLoad_16 : decode cX5_carriedLoad 16 = .ok (.iload_n 1, 1) := by decide +kernel
theorem dX5_carriedLoad_17 : decode cX5_carriedLoad 17 = .ok (.invokevirtual 109, 3) := by decide +kernel
theorem dX5_carriedLoad_20 : decode cX5_carriedLoad 20 = .ok (.ireturn, 1) := by decide +kernel
set_option maxRecDepth 20000 in
theorem ggX5_measure_X5_findRoutes : GoodIn wsX5_measure wsX5_findRoutes := goodIn_r _ [10, 11, 12, 4, 13, 14, 15, 16, 17, 18, 19, 9, 20, 21, 22, 23, 24, 25, 26, 27, 28, 29, 30, 31, 32, 33, 46, 47, 48, 49, 50, 51, 52, 53, 54, 55, 56, 57, 58, 59, 60, 61, 62, 63, 64, 65] (by decide +kernel) (by decide +kernel)
set_option maxRecDepth 20000 in
theorem gX5_measure_X5_findRoutes : GoodIn wsX5_measure (wsV RX5 96 RX5 yX5_findRoutes wsX5_findRoutes) := goodIn_app (goodIn_of _ (by decide +kernel)) ggX5_measure_X5_findRoutes
set_option maxRecDepth 20000 in
theorem ggX5_measure_X5_hasRoute : GoodIn wsX5_measure wsX5_hasRoute := goodIn_r _ [37, 16, 46, 47, 48, 49, 50, 51, 52, 53, 54, 55, 56, 57, 58, 59, 60, 61, 62, 63, 64, 65] (by decide +kernel) (by decide +kernel)
set_option maxRecDepth 20000 in
theorem gX5_measure_X5_hasRoute : GoodIn wsX5_measure (wsV RX5 99 RX5 yX5_hasRoute wsX5_hasRoute) := goodIn_app (goodIn_of _ (by decide +kernel)) ggX5_measure_X5_hasRoute
set_option maxRecDepth 20000 in
theorem ggX5_measure_X5_carried : GoodIn wsX5_measure wsX5_carried := goodIn_r _ [41, 3, 42, 43, 44, 9, 45, 16, 46, 47, 48, 49, 50, 51, 52, 53, 54, 55, 56, 57, 58, 59, 60, 61, 62, 63, 64, 65] (by decide +kernel) (by decide +kernel)
set_option maxRecDepth 20000 in
theorem gX5_measure_X5_carried : GoodIn wsX5_measure (wsV RX5 109 RX5 yX5_carried wsX5_carried) := goodIn_app (goodIn_of _ (by decide +kernel)) ggX5_measure_X5_carried
theorem dX5_measure_0 : decode cX5_measure 0 = .ok (.aload_n 0, 1) := by decide +kernel
theorem dX5_measure_1 : decode cX5_measure 1 = .ok (.invokevirtual 96, 3) := by decide +kernel
theorem dX5_measure_4 : decode cX5_measure 4 = .ok (.iconst 0, 1) := by decide +kernel
theorem dX5_measure_5 : decode cX5_measure 5 = .ok (.istore_n 1, 1) := by decide +kernel
theorem dX5_measure_6 : decode cX5_measure 6 = .ok (.iconst 0, 1) := by decide +kernel
theorem dX5_measure_7 : decode cX5_measure 7 = .ok (.istore_n 2, 1) := by decide +kernel
theorem dX5_measure_8 : decode cX5_measure 8 = .ok (.iload_n 2, 1) := by decide +kernel
theorem dX5_measure_9 : decode cX5_measure 9 = .ok (.iconst 5, 1) := by decide +kernel
theorem dX5_measure_10 : decode cX5_measure 10 = .ok (.if_icmp .ge 23, 3) := by decide +kernel
theorem dX5_measure_13 : decode cX5_measure 13 = .ok (.aload_n 0, 1) := by decide +kernel
theorem dX5_measure_14 : decode cX5_measure 14 = .ok (.getfield 25, 3) := by decide +kernel
theorem dX5_measure_17 : decode cX5_measure 17 = .ok (.iload_n 2, 1) := by decide +kernel
theorem dX5_measure_18 : decode cX5_measure 18 = .ok (.iconst 0, 1) := by decide +kernel
theorem dX5_measure_19 : decode cX5_measure 19 = .ok (.iastore, 1) := by decide +kernel
theorem dX5_measure_20 : decode cX5_measure 20 = .ok (.aload_n 0, 1) := by decide +kernel
theorem dX5_measure_21 : decode cX5_measure 21 = .ok (.getfield 28, 3) := by decide +kernel
theorem dX5_measure_24 : decode cX5_measure 24 = .ok (.iload_n 2, 1) := by decide +kernel
theorem dX5_measure_25 : decode cX5_measure 25 = .ok (.iconst 0, 1) := by decide +kernel
theorem dX5_measure_26 : decode cX5_measure 26 = .ok (.iastore, 1) := by decide +kernel
theorem dX5_measure_27 : decode cX5_measure 27 = .ok (.iinc 2 1, 3) := by decide +kernel
theorem dX5_measure_30 : decode cX5_measure 30 = .ok (.goto (-22), 3) := by decide +kernel
theorem dX5_measure_33 : decode cX5_measure 33 = .ok (.iconst 0, 1) := by decide +kernel
theorem dX5_measure_34 : decode cX5_measure 34 = .ok (.istore_n 2, 1) := by decide +kernel
theorem dX5_measure_35 : decode cX5_measure 35 = .ok (.iload_n 2, 1) := by decide +kernel
theorem dX5_measure_36 : decode cX5_measure 36 = .ok (.bipush 25, 2) := by decide +kernel
theorem dX5_measure_38 : decode cX5_measure 38 = .ok (.if_icmp .ge 60, 3) := by decide +kernel
theorem dX5_measure_41 : decode cX5_measure 41 = .ok (.aload_n 0, 1) := by decide +kernel
theorem dX5_measure_42 : decode cX5_measure 42 = .ok (.iload_n 2, 1) := by decide +kernel
theorem dX5_measure_43 : decode cX5_measure 43 = .ok (.invokevirtual 99, 3) := by decide +kernel
theorem dX5_measure_46 : decode cX5_measure 46 = .ok (.ifCond .eq 46, 3) := by decide +kernel
theorem dX5_measure_49 : decode cX5_measure 49 = .ok (.aload_n 0, 1) := by decide +kernel
theorem dX5_measure_50 : decode cX5_measure 50 = .ok (.getfield 25, 3) := by decide +kernel
theorem dX5_measure_53 : decode cX5_measure 53 = .ok (.iload_n 2, 1) := by decide +kernel
theorem dX5_measure_54 : decode cX5_measure 54 = .ok (.iconst 5, 1) := by decide +kernel
theorem dX5_measure_55 : decode cX5_measure 55 = .ok (.idiv, 1) := by decide +kernel
theorem dX5_measure_56 : decode cX5_measure 56 = .ok (.dup2, 1) := by decide +kernel
theorem dX5_measure_57 : decode cX5_measure 57 = .ok (.iaload, 1) := by decide +kernel
theorem dX5_measure_58 : decode cX5_measure 58 = .ok (.aload_n 0, 1) := by decide +kernel
theorem dX5_measure_59 : decode cX5_measure 59 = .ok (.getfield 19, 3) := by decide +kernel
theorem dX5_measure_62 : decode cX5_measure 62 = .ok (.iload_n 2, 1) := by decide +kernel
theorem dX5_measure_63 : decode cX5_measure 63 = .ok (.iaload, 1) := by decide +kernel
theorem dX5_measure_64 : decode cX5_measure 64 = .ok (.iadd, 1) := by decide +kernel
theorem dX5_measure_65 : decode cX5_measure 65 = .ok (.iastore, 1) := by decide +kernel
theorem dX5_measure_66 : decode cX5_measure 66 = .ok (.aload_n 0, 1) := by decide +kernel
theorem dX5_measure_67 : decode cX5_measure 67 = .ok (.getfield 28, 3) := by decide +kernel
theorem dX5_measure_70 : decode cX5_measure 70 = .ok (.iload_n 2, 1) := by decide +kernel
theorem dX5_measure_71 : decode cX5_measure 71 = .ok (.iconst 5, 1) := by decide +kernel
theorem dX5_measure_72 : decode cX5_measure 72 = .ok (.irem, 1) := by decide +kernel
theorem dX5_measure_73 : decode cX5_measure 73 = .ok (.dup2, 1) := by decide +kernel
theorem dX5_measure_74 : decode cX5_measure 74 = .ok (.iaload, 1) := by decide +kernel
theorem dX5_measure_75 : decode cX5_measure 75 = .ok (.aload_n 0, 1) := by decide +kernel
theorem dX5_measure_76 : decode cX5_measure 76 = .ok (.getfield 19, 3) := by decide +kernel
theorem dX5_measure_79 : decode cX5_measure 79 = .ok (.iload_n 2, 1) := by decide +kernel
theorem dX5_measure_80 : decode cX5_measure 80 = .ok (.iaload, 1) := by decide +kernel
theorem dX5_measure_81 : decode cX5_measure 81 = .ok (.iadd, 1) := by decide +kernel
theorem dX5_measure_82 : decode cX5_measure 82 = .ok (.iastore, 1) := by decide +kernel
theorem dX5_measure_83 : decode cX5_measure 83 = .ok (.iload_n 1, 1) := by decide +kernel
theorem dX5_measure_84 : decode cX5_measure 84 = .ok (.aload_n 0, 1) := by decide +kernel
theorem dX5_measure_85 : decode cX5_measure 85 = .ok (.getfield 19, 3) := by decide +kernel
theorem dX5_measure_88 : decode cX5_measure 88 = .ok (.iload_n 2, 1) := by decide +kernel
theorem dX5_measure_89 : decode cX5_measure 89 = .ok (.iaload, 1) := by decide +kernel
theorem dX5_measure_90 : decode cX5_measure 90 = .ok (.iadd, 1) := by decide +kernel
theorem dX5_measure_91 : decode cX5_measure 91 = .ok (.istore_n 1, 1) := by decide +kernel
theorem dX5_measure_92 : decode cX5_measure 92 = .ok (.iinc 2 1, 3) := by decide +kernel
theorem dX5_measure_95 : decode cX5_measure 95 = .ok (.goto (-60), 3) := by decide +kernel
theorem dX5_measure_98 : decode cX5_measure 98 = .ok (.iconst 0, 1) := by decide +kernel
theorem dX5_measure_99 : decode cX5_measure 99 = .ok (.istore_n 2, 1) := by decide +kernel
theorem dX5_measure_100 : decode cX5_measure 100 = .ok (.iload_n 2, 1) := by decide +kernel
theorem dX5_measure_101 : decode cX5_measure 101 = .ok (.aload_n 0, 1) := by decide +kernel
theorem dX5_measure_102 : decode cX5_measure 102 = .ok (.getfield 68, 3) := by decide +kernel
theorem dX5_measure_105 : decode cX5_measure 105 = .ok (.if_icmp .ge 20, 3) := by decide +kernel
theorem dX5_measure_108 : decode cX5_measure 108 = .ok (.aload_n 0, 1) := by decide +kernel
theorem dX5_measure_109 : decode cX5_measure 109 = .ok (.getfield 22, 3) := by decide +kernel
theorem dX5_measure_112 : decode cX5_measure 112 = .ok (.iload_n 2, 1) := by decide +kernel
theorem dX5_measure_113 : decode cX5_measure 113 = .ok (.aload_n 0, 1) := by decide +kernel
theorem dX5_measure_114 : decode cX5_measure 114 = .ok (.iload_n 2, 1) := by decide +kernel
theorem dX5_measure_115 : decode cX5_measure 115 = .ok (.invokevirtual 109, 3) := by decide +kernel
theorem dX5_measure_118 : decode cX5_measure 118 = .ok (.iastore, 1) := by decide +kernel
theorem dX5_measure_119 : decode cX5_measure 119 = .ok (.iinc 2 1, 3) := by decide +kernel
theorem dX5_measure_122 : decode cX5_measure 122 = .ok (.goto (-22), 3) := by decide +kernel
theorem dX5_measure_125 : decode cX5_measure 125 = .ok (.iload_n 1, 1) := by decide +kernel
theorem dX5_measure_126 : decode cX5_measure 126 = .ok (.ireturn, 1) := by decide +kernel
set_option maxRecDepth 20000 in
theorem ggX5_setMeasuredLoad_X5_isLink : GoodIn wsX5_setMeasuredLoad wsX5_isLink := goodIn_r _ [7, 8, 9, 10, 6, 11, 12, 13, 14, 15, 16, 17, 18, 19, 20, 21, 22, 23, 24, 25, 26, 27, 28, 29, 30, 31] (by decide +kernel) (by decide +kernel)
set_option maxRecDepth 20000 in
theorem gX5_setMeasuredLoad_X5_isLink : GoodIn wsX5_setMeasuredLoad (wsV RX5 79 RX5 yX5_isLink wsX5_isLink) := goodIn_app (goodIn_of _ (by decide +kernel)) ggX5_setMeasuredLoad_X5_isLink
set_option maxRecDepth 20000 in
theorem ggX5_setMeasuredLoad_X5_within : GoodIn wsX5_setMeasuredLoad wsX5_within := goodIn_r _ [11] (by decide +kernel) (by decide +kernel)
set_option maxRecDepth 20000 in
theorem gX5_setMeasuredLoad_X5_within : GoodIn wsX5_setMeasuredLoad (va_wsS RX5 64 yX5_within wsX5_within) := goodIn_app (goodIn_of _ (by decide +kernel)) ggX5_setMeasuredLoad_X5_within
theorem dX5_setMeasuredLoad_0 : decode cX5_setMeasuredLoad 0 = .ok (.aload_n 0, 1) := by decide +kernel
theorem dX5_setMeasuredLoad_1 : decode cX5_setMeasuredLoad 1 = .ok (.iload_n 1, 1) := by decide +kernel
theorem dX5_setMeasuredLoad_2 : decode cX5_setMeasuredLoad 2 = .ok (.invokevirtual 79, 3) := by decide +kernel
theorem dX5_setMeasuredLoad_5 : decode cX5_setMeasuredLoad 5 = .ok (.ifCond .ne 6, 3) := by decide +kernel
theorem dX5_setMeasuredLoad_8 : decode cX5_setMeasuredLoad 8 = .ok (.bipush (-3), 2) := by decide +kernel
theorem dX5_setMeasuredLoad_10 : decode cX5_setMeasuredLoad 10 = .ok (.ireturn, 1) := by decide +kernel
theorem dX5_setMeasuredLoad_11 : decode cX5_setMeasuredLoad 11 = .ok (.iload_n 2, 1) := by decide +kernel
theorem dX5_setMeasuredLoad_12 : decode cX5_setMeasuredLoad 12 = .ok (.iconst 0, 1) := by decide +kernel
theorem dX5_setMeasuredLoad_13 : decode cX5_setMeasuredLoad 13 = .ok (.ldc 112, 2) := by decide +kernel
theorem dX5_setMeasuredLoad_15 : decode cX5_setMeasuredLoad 15 = .ok (.invokestatic 64, 3) := by decide +kernel
theorem dX5_setMeasuredLoad_18 : decode cX5_setMeasuredLoad 18 = .ok (.ifCond .ne 6, 3) := by decide +kernel
theorem dX5_setMeasuredLoad_21 : decode cX5_setMeasuredLoad 21 = .ok (.bipush (-4), 2) := by decide +kernel
theorem dX5_setMeasuredLoad_23 : decode cX5_setMeasuredLoad 23 = .ok (.ireturn, 1) := by decide +kernel
theorem dX5_setMeasuredLoad_24 : decode cX5_setMeasuredLoad 24 = .ok (.aload_n 0, 1) := by decide +kernel
theorem dX5_setMeasuredLoad_25 : decode cX5_setMeasuredLoad 25 = .ok (.getfield 22, 3) := by decide +kernel
theorem dX5_setMeasuredLoad_28 : decode cX5_setMeasuredLoad 28 = .ok (.iload_n 1, 1) := by decide +kernel
theorem dX5_setMeasuredLoad_29 : decode cX5_setMeasuredLoad 29 = .ok (.iaload, 1) := by decide +kernel
theorem dX5_setMeasuredLoad_30 : decode cX5_setMeasuredLoad 30 = .ok (.istore_n 3, 1) := by decide +kernel
theorem dX5_setMeasuredLoad_31 : decode cX5_setMeasuredLoad 31 = .ok (.aload_n 0, 1) := by decide +kernel
theorem dX5_setMeasuredLoad_32 : decode cX5_setMeasuredLoad 32 = .ok (.getfield 22, 3) := by decide +kernel
theorem dX5_setMeasuredLoad_35 : decode cX5_setMeasuredLoad 35 = .ok (.iload_n 1, 1) := by decide +kernel
theorem dX5_setMeasuredLoad_36 : decode cX5_setMeasuredLoad 36 = .ok (.iload_n 2, 1) := by decide +kernel
theorem dX5_setMeasuredLoad_37 : decode cX5_setMeasuredLoad 37 = .ok (.iastore, 1) := by decide +kernel
theorem dX5_setMeasuredLoad_38 : decode cX5_setMeasuredLoad 38 = .ok (.iload_n 3, 1) := by decide +kernel
theorem dX5_setMeasuredLoad_39 : decode cX5_setMeasuredLoad 39 = .ok (.ireturn, 1) := by decide +kernel
set_option maxRecDepth 20000 in
theorem ggX5_measuredLoad_X5_isLink : GoodIn wsX5_measuredLoad wsX5_isLink := goodIn_r _ [6, 7, 8, 9, 5, 10, 11, 12, 13, 14, 15, 16, 17, 18, 19, 20, 21, 22, 23, 24, 25, 26, 27, 28, 29, 30] (by decide +kernel) (by decide +kernel)
set_option maxRecDepth 20000 in
theorem gX5_measuredLoad_X5_isLink : GoodIn wsX5_measuredLoad (wsV RX5 79 RX5 yX5_isLink wsX5_isLink) := goodIn_app (goodIn_of _ (by decide +kernel)) ggX5_measuredLoad_X5_isLink
theorem dX5_measuredLoad_0 : decode cX5_measuredLoad 0 = .ok (.aload_n 0, 1) := by decide +kernel
theorem dX5_measuredLoad_1 : decode cX5_measuredLoad 1 = .ok (.iload_n 1, 1) := by decide +kernel
theorem dX5_measuredLoad_2 : decode cX5_measuredLoad 2 = .ok (.invokevirtual 79, 3) := by decide +kernel
theorem dX5_measuredLoad_5 : decode cX5_measuredLoad 5 = .ok (.ifCond .eq 12, 3) := by decide +kernel
theorem dX5_measuredLoad_8 : decode cX5_measuredLoad 8 = .ok (.aload_n 0, 1) := by decide +kernel
theorem dX5_measuredLoad_9 : decode cX5_measuredLoad 9 = .ok (.getfield 22, 3) := by decide +kernel
theorem dX5_measuredLoad_12 : decode cX5_measuredLoad 12 = .ok (.iload_n 1, 1) := by decide +kernel
theorem dX5_measuredLoad_13 : decode cX5_measuredLoad 13 = .ok (.iaload, 1) := by decide +kernel
theorem dX5_measuredLoad_14 : decode cX5_measuredLoad 14 = .ok (.goto 5, 3) := by decide +kernel
theorem dX5_measuredLoad_17 : decode cX5_measuredLoad 17 = .ok (.bipush (-3), 2) := by decide +kernel
theorem dX5_measuredLoad_19 : decode cX5_measuredLoad 19 = .ok (.ireturn, 1) := by decide +kernel
set_option maxRecDepth 20000 in
theorem ggX5_outTotal_X5_isNode : GoodIn wsX5_outTotal wsX5_isNode := goodIn_r _ [6, 7, 8, 9, 5, 10, 11, 12, 13, 14, 15, 16, 17, 18, 19, 20, 21, 22, 23, 24, 25, 26, 27, 28, 29, 30] (by decide +kernel) (by decide +kernel)
set_option maxRecDepth 20000 in
theorem gX5_outTotal_X5_isNode : GoodIn wsX5_outTotal (wsV RX5 71 RX5 yX5_isNode wsX5_isNode) := goodIn_app (goodIn_of _ (by decide +kernel)) ggX5_outTotal_X5_isNode
theorem dX5_outTotal_0 : decode cX5_outTotal 0 = .ok (.aload_n 0, 1) := by decide +kernel
theorem dX5_outTotal_1 : decode cX5_outTotal 1 = .ok (.iload_n 1, 1) := by decide +kernel
theorem dX5_outTotal_2 : decode cX5_outTotal 2 = .ok (.invokevirtual 71, 3) := by decide +kernel
theorem dX5_outTotal_5 : decode cX5_outTotal 5 = .ok (.ifCond .eq 12, 3) := by decide +kernel
theorem dX5_outTotal_8 : decode cX5_outTotal 8 = .ok (.aload_n 0, 1) := by decide +kernel
theorem dX5_outTotal_9 : decode cX5_outTotal 9 = .ok (.getfield 25, 3) := by decide +kernel
theorem dX5_outTotal_12 : decode cX5_outTotal 12 = .ok (.iload_n 1, 1) := by decide +kernel
theorem dX5_outTotal_13 : decode cX5_outTotal 13 = .ok (.iaload, 1) := by decide +kernel
theorem dX5_outTotal_14 : decode cX5_outTotal 14 = .ok (.goto 4, 3) := by decide +kernel
theorem dX5_outTotal_17 : decode cX5_outTotal 17 = .ok (.iconst (-1), 1) := by decide +kernel
theorem dX5_outTotal_18 : decode cX5_outTotal 18 = .ok (.ireturn, 1) := by decide +kernel
set_option maxRecDepth 20000 in
theorem ggX5_inTotal_X5_isNode : GoodIn wsX5_inTotal wsX5_isNode := goodIn_r _ [6, 7, 8, 9, 5, 10, 11, 12, 13, 14, 15, 16, 17, 18, 19, 20, 21, 22, 23, 24, 25, 26, 27, 28, 29, 30] (by decide +kernel) (by decide +kernel)
set_option maxRecDepth 20000 in
theorem gX5_inTotal_X5_isNode : GoodIn wsX5_inTotal (wsV RX5 71 RX5 yX5_isNode wsX5_isNode) := goodIn_app (goodIn_of _ (by decide +kernel)) ggX5_inTotal_X5_isNode
theorem dX5_inTotal_0 : decode cX5_inTotal 0 = .ok (.aload_n 0, 1) := by decide +kernel
theorem dX5_inTotal_1 : decode cX5_inTotal 1 = .ok (.iload_n 1, 1) := by decide +kernel
theorem dX5_inTotal_2 : decode cX5_inTotal 2 = .ok (.invokevirtual 71, 3) := by decide +kernel
theorem dX5_inTotal_5 : decode cX5_inTotal 5 = .ok (.ifCond .eq 12, 3) := by decide +kernel
theorem dX5_inTotal_8 : decode cX5_inTotal 8 = .ok (.aload_n 0, 1) := by decide +kernel
theorem dX5_inTotal_9 : decode cX5_inTotal 9 = .ok (.getfield 28, 3) := by decide +kernel
theorem dX5_inTotal_12 : decode cX5_inTotal 12 = .ok (.iload_n 1, 1) := by decide +kernel
theorem dX5_inTotal_13 : decode cX5_inTotal 13 = .ok (.iaload, 1) := by decide +kernel
theorem dX5_inTotal_14 : decode cX5_inTotal 14 = .ok (.goto 4, 3) := by decide +kernel
theorem dX5_inTotal_17 : decode cX5_inTotal 17 = .ok (.iconst (-1), 1) := by decide +kernel
theorem dX5_inTotal_18 : decode cX5_inTotal 18 = .ok (.ireturn, 1) := by decide +kernel
set_option maxRecDepth 20000 in
theorem ggX5_measurePair_X5_refusedRoute : GoodIn wsX5_measurePair wsX5_refusedRoute := goodIn_r _ [8, 9, 10, 11, 7, 12, 13, 14, 15, 16, 17, 18, 19, 20, 21, 22, 23, 24, 25, 26, 27, 28, 29, 30, 31, 32, 33, 34, 35, 36, 37, 38, 39, 40, 41, 42, 43, 44, 45, 46, 47, 48, 49, 50, 51, 52, 53, 54, 55, 56, 57, 58, 59, 60, 61, 62, 63, 64, 65, 66, 67, 68, 69, 70, 71] (by decide +kernel) (by decide +kernel)
set_option maxRecDepth 20000 in
theorem gX5_measurePair_X5_refusedRoute : GoodIn wsX5_measurePair (wsV RX5 102 RX5 yX5_refusedRoute wsX5_refusedRoute) := goodIn_app (goodIn_of _ (by decide +kernel)) ggX5_measurePair_X5_refusedRoute
theorem dX5_measurePair_0 : decode cX5_measurePair 0 = .ok (.aload_n 0, 1) := by decide +kernel
theorem dX5_measurePair_1 : decode cX5_measurePair 1 = .ok (.iload_n 1, 1) := by decide +kernel
theorem dX5_measurePair_2 : decode cX5_measurePair 2 = .ok (.iload_n 2, 1) := by decide +kernel
theorem dX5_measurePair_3 : decode cX5_measurePair 3 = .ok (.invokevirtual 102, 3) := by decide +kernel
theorem dX5_measurePair_6 : decode cX5_measurePair 6 = .ok (.istore_n 3, 1) := by decide +kernel
theorem dX5_measurePair_7 : decode cX5_measurePair 7 = .ok (.iload_n 3, 1) := by decide +kernel
theorem dX5_measurePair_8 : decode cX5_measurePair 8 = .ok (.ifCond .eq 5, 3) := by decide +kernel
theorem dX5_measurePair_11 : decode cX5_measurePair 11 = .ok (.iload_n 3, 1) := by decide +kernel
theorem dX5_measurePair_12 : decode cX5_measurePair 12 = .ok (.ireturn, 1) := by decide +kernel
theorem dX5_measurePair_13 : decode cX5_measurePair 13 = .ok (.iconst 5, 1) := by decide +kernel
theorem dX5_measurePair_14 : decode cX5_measurePair 14 = .ok (.iload_n 1, 1) := by decide +kernel
theorem dX5_measurePair_15 : decode cX5_measurePair 15 = .ok (.imul, 1) := by decide +kernel
theorem dX5_measurePair_16 : decode cX5_measurePair 16 = .ok (.iload_n 2, 1) := by decide +kernel
theorem dX5_measurePair_17 : decode cX5_measurePair 17 = .ok (.iadd, 1) := by decide +kernel
theorem dX5_measurePair_18 : decode cX5_measurePair 18 = .ok (.istore 4, 2) := by decide +kernel
theorem dX5_measurePair_20 : decode cX5_measurePair 20 = .ok (.aload_n 0, 1) := by decide +kernel
theorem dX5_measurePair_21 : decode cX5_measurePair 21 = .ok (.getfield 31, 3) := by decide +kernel
theorem dX5_measurePair_24 : decode cX5_measurePair 24 = .ok (.iload 4, 2) := by decide +kernel
theorem dX5_measurePair_26 : decode cX5_measurePair 26 = .ok (.iconst 1, 1) := by decide +kernel
theorem dX5_measurePair_27 : decode cX5_measurePair 27 = .ok (.bastore, 1) := by decide +kernel
theorem dX5_measurePair_28 : decode cX5_measurePair 28 = .ok (.aload_n 0, 1) := by decide +kernel
theorem dX5_measurePair_29 : decode cX5_measurePair 29 = .ok (.getfield 35, 3) := by decide +kernel
theorem dX5_measurePair_32 : decode cX5_measurePair 32 = .ok (.iload 4, 2) := by decide +kernel
theorem dX5_measurePair_34 : decode cX5_measurePair 34 = .ok (.aload_n 0, 1) := by decide +kernel
theorem dX5_measurePair_35 : decode cX5_measurePair 35 = .ok (.getfield 19, 3) := by decide +kernel
theorem dX5_measurePair_38 : decode cX5_measurePair 38 = .ok (.iload 4, 2) := by decide +kernel
theorem dX5_measurePair_40 : decode cX5_measurePair 40 = .ok (.iaload, 1) := by decide +kernel
theorem dX5_measurePair_41 : decode cX5_measurePair 41 = .ok (.iastore, 1) := by decide +kernel
theorem dX5_measurePair_42 : decode cX5_measurePair 42 = .ok (.aload_n 0, 1) := by decide +kernel
theorem dX5_measurePair_43 : decode cX5_measurePair 43 = .ok (.getfield 19, 3) := by decide +kernel
theorem dX5_measurePair_46 : decode cX5_measurePair 46 = .ok (.iload 4, 2) := by decide +kernel
theorem dX5_measurePair_48 : decode cX5_measurePair 48 = .ok (.iaload, 1) := by decide +kernel
theorem dX5_measurePair_49 : decode cX5_measurePair 49 = .ok (.ireturn, 1) := by decide +kernel
set_option maxRecDepth 20000 in
theorem ggX5_forgetPair_X5_refused : GoodIn wsX5_forgetPair wsX5_refused := goodIn_r _ [7, 8, 9, 10, 6, 11, 12, 13, 14, 15, 16, 17, 18, 19, 20, 21, 22, 23, 24, 25, 26, 27, 28, 29, 30, 31, 32, 33, 34, 35] (by decide +kernel) (by decide +kernel)
set_option maxRecDepth 20000 in
theorem gX5_forgetPair_X5_refused : GoodIn wsX5_forgetPair (wsV RX5 75 RX5 yX5_refused wsX5_refused) := goodIn_app (goodIn_of _ (by decide +kernel)) ggX5_forgetPair_X5_refused
theorem dX5_forgetPair_0 : decode cX5_forgetPair 0 = .ok (.aload_n 0, 1) := by decide +kernel
theorem dX5_forgetPair_1 : decode cX5_forgetPair 1 = .ok (.iload_n 1, 1) := by decide +kernel
theorem dX5_forgetPair_2 : decode cX5_forgetPair 2 = .ok (.iload_n 2, 1) := by decide +kernel
theorem dX5_forgetPair_3 : decode cX5_forgetPair 3 = .ok (.invokevirtual 75, 3) := by decide +kernel
theorem dX5_forgetPair_6 : decode cX5_forgetPair 6 = .ok (.istore_n 3, 1) := by decide +kernel
theorem dX5_forgetPair_7 : decode cX5_forgetPair 7 = .ok (.iload_n 3, 1) := by decide +kernel
theorem dX5_forgetPair_8 : decode cX5_forgetPair 8 = .ok (.ifCond .eq 5, 3) := by decide +kernel
theorem dX5_forgetPair_11 : decode cX5_forgetPair 11 = .ok (.iload_n 3, 1) := by decide +kernel
theorem dX5_forgetPair_12 : decode cX5_forgetPair 12 = .ok (.ireturn, 1) := by decide +kernel
theorem dX5_forgetPair_13 : decode cX5_forgetPair 13 = .ok (.iconst 5, 1) := by decide +kernel
theorem dX5_forgetPair_14 : decode cX5_forgetPair 14 = .ok (.iload_n 1, 1) := by decide +kernel
theorem dX5_forgetPair_15 : decode cX5_forgetPair 15 = .ok (.imul, 1) := by decide +kernel
theorem dX5_forgetPair_16 : decode cX5_forgetPair 16 = .ok (.iload_n 2, 1) := by decide +kernel
theorem dX5_forgetPair_17 : decode cX5_forgetPair 17 = .ok (.iadd, 1) := by decide +kernel
theorem dX5_forgetPair_18 : decode cX5_forgetPair 18 = .ok (.istore 4, 2) := by decide +kernel
theorem dX5_forgetPair_20 : decode cX5_forgetPair 20 = .ok (.aload_n 0, 1) := by decide +kernel
theorem dX5_forgetPair_21 : decode cX5_forgetPair 21 = .ok (.getfield 31, 3) := by decide +kernel
theorem dX5_forgetPair_24 : decode cX5_forgetPair 24 = .ok (.iload 4, 2) := by decide +kernel
theorem dX5_forgetPair_26 : decode cX5_forgetPair 26 = .ok (.baload, 1) := by decide +kernel
theorem dX5_forgetPair_27 : decode cX5_forgetPair 27 = .ok (.ifCond .ne 6, 3) := by decide +kernel
theorem dX5_forgetPair_30 : decode cX5_forgetPair 30 = .ok (.bipush (-7), 2) := by decide +kernel
theorem dX5_forgetPair_32 : decode cX5_forgetPair 32 = .ok (.ireturn, 1) := by decide +kernel
theorem dX5_forgetPair_33 : decode cX5_forgetPair 33 = .ok (.aload_n 0, 1) := by decide +kernel
theorem dX5_forgetPair_34 : decode cX5_forgetPair 34 = .ok (.getfield 31, 3) := by decide +kernel
theorem dX5_forgetPair_37 : decode cX5_forgetPair 37 = .ok (.iload 4, 2) := by decide +kernel
theorem dX5_forgetPair_39 : decode cX5_forgetPair 39 = .ok (.iconst 0, 1) := by decide +kernel
theorem dX5_forgetPair_40 : decode cX5_forgetPair 40 = .ok (.bastore, 1) := by decide +kernel
theorem dX5_forgetPair_41 : decode cX5_forgetPair 41 = .ok (.aload_n 0, 1) := by decide +kernel
theorem dX5_forgetPair_42 : decode cX5_forgetPair 42 = .ok (.getfield 35, 3) := by decide +kernel
theorem dX5_forgetPair_45 : decode cX5_forgetPair 45 = .ok (.iload 4, 2) := by decide +kernel
theorem dX5_forgetPair_47 : decode cX5_forgetPair 47 = .ok (.iaload, 1) := by decide +kernel
theorem dX5_forgetPair_48 : decode cX5_forgetPair 48 = .ok (.ireturn, 1) := by decide +kernel
set_option maxRecDepth 20000 in
theorem ggX5_laysOut_X5_hasRoute : GoodIn wsX5_laysOut wsX5_hasRoute := goodIn_r _ [12, 13, 18, 19, 20, 21, 22, 23, 24, 25, 26, 27, 28, 29, 30, 31, 32, 33, 34, 35, 36, 37] (by decide +kernel) (by decide +kernel)
set_option maxRecDepth 20000 in
theorem gX5_laysOut_X5_hasRoute : GoodIn wsX5_laysOut (wsV RX5 99 RX5 yX5_hasRoute wsX5_hasRoute) := goodIn_app (goodIn_of _ (by decide +kernel)) ggX5_laysOut_X5_hasRoute
set_option maxRecDepth 20000 in
theorem ggX5_laysOut_X5_uses : GoodIn wsX5_laysOut wsX5_uses := goodIn_r _ [17, 13, 18, 19, 20, 21, 22, 23, 24, 25, 26, 27, 28, 29, 30, 31, 32, 33, 34, 35, 36, 37] (by decide +kernel) (by decide +kernel)
set_option maxRecDepth 20000 in
theorem gX5_laysOut_X5_uses : GoodIn wsX5_laysOut (wsV RX5 105 RX5 yX5_uses wsX5_uses) := goodIn_app (goodIn_of _ (by decide +kernel)) ggX5_laysOut_X5_uses
theorem dX5_laysOut_0 : decode cX5_laysOut 0 = .ok (.aload_n 0, 1) := by decide +kernel
theorem dX5_laysOut_1 : decode cX5_laysOut 1 = .ok (.iconst 0, 1) := by decide +kernel
theorem dX5_laysOut_2 : decode cX5_laysOut 2 = .ok (.putfield 113, 3) := by decide +kernel
theorem dX5_laysOut_5 : decode cX5_laysOut 5 = .ok (.iconst 0, 1) := by decide +kernel
theorem dX5_laysOut_6 : decode cX5_laysOut 6 = .ok (.istore_n 2, 1) := by decide +kernel
theorem dX5_laysOut_7 : decode cX5_laysOut 7 = .ok (.iload_n 2, 1) := by decide +kernel
theorem dX5_laysOut_8 : decode cX5_laysOut 8 = .ok (.bipush 25, 2) := by decide +kernel
theorem dX5_laysOut_10 : decode cX5_laysOut 10 = .ok (.if_icmp .ge 53, 3) := by decide +kernel
theorem dX5_laysOut_13 : decode cX5_laysOut 13 = .ok (.aload_n 0, 1) := by decide +kernel
theorem dX5_laysOut_14 : decode cX5_laysOut 14 = .ok (.getfield 51, 3) := by decide +kernel
theorem dX5_laysOut_17 : decode cX5_laysOut 17 = .ok (.iload_n 2, 1) := by decide +kernel
theorem dX5_laysOut_18 : decode cX5_laysOut 18 = .ok (.bipush (-7), 2) := by decide +kernel
theorem dX5_laysOut_20 : decode cX5_laysOut 20 = .ok (.iastore, 1) := by decide +kernel
theorem dX5_laysOut_21 : decode cX5_laysOut 21 = .ok (.aload_n 0, 1) := by decide +kernel
theorem dX5_laysOut_22 : decode cX5_laysOut 22 = .ok (.dup, 1) := by decide +kernel
theorem dX5_laysOut_23 : decode cX5_laysOut 23 = .ok (.getfield 113, 3) := by decide +kernel
theorem dX5_laysOut_26 : decode cX5_laysOut 26 = .ok (.aload_n 0, 1) := by decide +kernel
theorem dX5_laysOut_27 : decode cX5_laysOut 27 = .ok (.iload_n 2, 1) := by decide +kernel
theorem dX5_laysOut_28 : decode cX5_laysOut 28 = .ok (.invokevirtual 99, 3) := by decide +kernel
theorem dX5_laysOut_31 : decode cX5_laysOut 31 = .ok (.ifCond .eq 21, 3) := by decide +kernel
theorem dX5_laysOut_34 : decode cX5_laysOut 34 = .ok (.aload_n 0, 1) := by decide +kernel
theorem dX5_laysOut_35 : decode cX5_laysOut 35 = .ok (.getfield 31, 3) := by decide +kernel
theorem dX5_laysOut_38 : decode cX5_laysOut 38 = .ok (.iload_n 2, 1) := by decide +kernel
theorem dX5_laysOut_39 : decode cX5_laysOut 39 = .ok (.baload, 1) := by decide +kernel
theorem dX5_laysOut_40 : decode cX5_laysOut 40 = .ok (.ifCond .ne 8, 3) := by decide +kernel
theorem dX5_laysOut_43 : decode cX5_laysOut 43 = .ok (.iload_n 2, 1) := by decide +kernel
theorem dX5_laysOut_44 : decode cX5_laysOut 44 = .ok (.iload_n 1, 1) := by decide +kernel
theorem dX5_laysOut_45 : decode cX5_laysOut 45 = .ok (.if_icmp .ne 7, 3) := by decide +kernel
theorem dX5_laysOut_48 : decode cX5_laysOut 48 = .ok (.iconst 1, 1) := by decide +kernel
theorem dX5_laysOut_49 : decode cX5_laysOut 49 = .ok (.goto 4, 3) := by decide +kernel
theorem dX5_laysOut_52 : decode cX5_laysOut 52 = .ok (.iconst 0, 1) := by decide +kernel
theorem dX5_laysOut_53 : decode cX5_laysOut 53 = .ok (.iadd, 1) := by decide +kernel
theorem dX5_laysOut_54 : decode cX5_laysOut 54 = .ok (.putfield 113, 3) := by decide +kernel
theorem dX5_laysOut_57 : decode cX5_laysOut 57 = .ok (.iinc 2 1, 3) := by decide +kernel
theorem dX5_laysOut_60 : decode cX5_laysOut 60 = .ok (.goto (-53), 3) := by decide +kernel
theorem dX5_laysOut_63 : decode cX5_laysOut 63 = .ok (.iconst 0, 1) := by decide +kernel
theorem dX5_laysOut_64 : decode cX5_laysOut 64 = .ok (.istore_n 2, 1) := by decide +kernel
theorem dX5_laysOut_65 : decode cX5_laysOut 65 = .ok (.iload_n 2, 1) := by decide +kernel
theorem dX5_laysOut_66 : decode cX5_laysOut 66 = .ok (.aload_n 0, 1) := by decide +kernel
theorem dX5_laysOut_67 : decode cX5_laysOut 67 = .ok (.getfield 68, 3) := by decide +kernel
theorem dX5_laysOut_70 : decode cX5_laysOut 70 = .ok (.if_icmp .ge 135, 3) := by decide +kernel
theorem dX5_laysOut_73 : decode cX5_laysOut 73 = .ok (.aload_n 0, 1) := by decide +kernel
theorem dX5_laysOut_74 : decode cX5_laysOut 74 = .ok (.getfield 22, 3) := by decide +kernel
theorem dX5_laysOut_77 : decode cX5_laysOut 77 = .ok (.iload_n 2, 1) := by decide +kernel
theorem dX5_laysOut_78 : decode cX5_laysOut 78 = .ok (.iaload, 1) := by decide +kernel
theorem dX5_laysOut_79 : decode cX5_laysOut 79 = .ok (.i2l, 1) := by decide +kernel
theorem dX5_laysOut_80 : decode cX5_laysOut 80 = .ok (.lstore_n 3, 1) := by decide +kernel
theorem dX5_laysOut_81 : decode cX5_laysOut 81 = .ok (.iconst 0, 1) := by decide +kernel
theorem dX5_laysOut_82 : decode cX5_laysOut 82 = .ok (.istore 5, 2) := by decide +kernel
theorem dX5_laysOut_84 : decode cX5_laysOut 84 = .ok (.iload 5, 2) := by decide +kernel
theorem dX5_laysOut_86 : decode cX5_laysOut 86 = .ok (.bipush 25, 2) := by decide +kernel
theorem dX5_laysOut_88 : decode cX5_laysOut 88 = .ok (.if_icmp .ge 98, 3) := by decide +kernel
theorem dX5_laysOut_91 : decode cX5_laysOut 91 = .ok (.aload_n 0, 1) := by decide +kernel
theorem dX5_laysOut_92 : decode cX5_laysOut 92 = .ok (.iload 5, 2) := by decide +kernel
theorem dX5_laysOut_94 : decode cX5_laysOut 94 = .ok (.iload_n 2, 1) := by decide +kernel
theorem dX5_laysOut_95 : decode cX5_laysOut 95 = .ok (.invokevirtual 105, 3) := by decide +kernel
theorem dX5_laysOut_98 : decode cX5_laysOut 98 = .ok (.istore 6, 2) := by decide +kernel
theorem dX5_laysOut_100 : decode cX5_laysOut 100 = .ok (.aload_n 0, 1) := by decide +kernel
theorem dX5_laysOut_101 : decode cX5_laysOut 101 = .ok (.getfield 31, 3) := by decide +kernel
theorem dX5_laysOut_104 : decode cX5_laysOut 104 = .ok (.iload 5, 2) := by decide +kernel
theorem dX5_laysOut_106 : decode cX5_laysOut 106 = .ok (.baload, 1) := by decide +kernel
theorem dX5_laysOut_107 : decode cX5_laysOut 107 = .ok (.ifCond .ne 9, 3) := by decide +kernel
theorem dX5_laysOut_110 : decode cX5_laysOut 110 = .ok (.iload 5, 2) := by decide +kernel
theorem dX5_laysOut_112 : decode cX5_laysOut 112 = .ok (.iload_n 1, 1) := by decide +kernel
theorem dX5_laysOut_113 : decode cX5_laysOut 113 = .ok (.if_icmp .ne 7, 3) := by decide +kernel
theorem dX5_laysOut_116 : decode cX5_laysOut 116 = .ok (.iconst 1, 1) := by decide +kernel
theorem dX5_laysOut_117 : decode cX5_laysOut 117 = .ok (.goto 4, 3) := by decide +kernel
theorem dX5_laysOut_120 : decode cX5_laysOut 120 = .ok (.iconst 0, 1) := by decide +kernel
theorem dX5_laysOut_121 : decode cX5_laysOut 121 = .ok (.istore 7, 2) := by decide +kernel
theorem dX5_laysOut_123 : decode cX5_laysOut 123 = .ok (.aload_n 0, 1) := by decide +kernel
theorem dX5_laysOut_124 : decode cX5_laysOut 124 = .ok (.getfield 48, 3) := by decide +kernel
theorem dX5_laysOut_127 : decode cX5_laysOut 127 = .ok (.bipush 26, 2) := by decide +kernel
theorem dX5_laysOut_129 : decode cX5_laysOut 129 = .ok (.iload_n 2, 1) := by decide +kernel
theorem dX5_laysOut_130 : decode cX5_laysOut 130 = .ok (.imul, 1) := by decide +kernel
theorem dX5_laysOut_131 : decode cX5_laysOut 131 = .ok (.iload 5, 2) := by decide +kernel
theorem dX5_laysOut_133 : decode cX5_laysOut 133 = .ok (.iadd, 1) := by decide +kernel
theorem dX5_laysOut_134 : decode cX5_laysOut 134 = .ok (.iload 6, 2) := by decide +kernel
theorem dX5_laysOut_136 : decode cX5_laysOut 136 = .ok (.ifCond .eq 12, 3) := by decide +kernel
theorem dX5_laysOut_139 : decode cX5_laysOut 139 = .ok (.iload 7, 2) := by decide +kernel
theorem dX5_laysOut_141 : decode cX5_laysOut 141 = .ok (.ifCond .ne 7, 3) := by decide +kernel
theorem dX5_laysOut_144 : decode cX5_laysOut 144 = .ok (.lconst 1, 1) := by decide +kernel
theorem dX5_laysOut_145 : decode cX5_laysOut 145 = .ok (.goto 4, 3) := by decide +kernel
theorem dX5_laysOut_148 : decode cX5_laysOut 148 = .ok (.lconst 0, 1) := by decide +kernel
theorem dX5_laysOut_149 : decode cX5_laysOut 149 = .ok (.lastore, 1) := by decide +kernel
theorem dX5_laysOut_150 : decode cX5_laysOut 150 = .ok (.lload_n 3, 1) := by decide +kernel
theorem dX5_laysOut_151 : decode cX5_laysOut 151 = .ok (.iload 6, 2) := by decide +kernel
theorem dX5_laysOut_153 : decode cX5_laysOut 153 = .ok (.ifCond .eq 24, 3) := by decide +kernel
theorem dX5_laysOut_156 : decode cX5_laysOut 156 = .ok (.aload_n 0, 1) := by decide +kernel
theorem dX5_laysOut_157 : decode cX5_laysOut 157 = .ok (.getfield 31, 3) := by decide +kernel
theorem dX5_laysOut_160 : decode cX5_laysOut 160 = .ok (.iload 5, 2) := by decide +kernel
theorem dX5_laysOut_162 : decode cX5_laysOut 162 = .ok (.baload, 1) := by decide +kernel
theorem dX5_laysOut_163 : decode cX5_laysOut 163 = .ok (.ifCond .eq 14, 3) := by decide +kernel
theorem dX5_laysOut_166 : decode cX5_laysOut 166 = .ok (.aload_n 0, 1) := by decide +kernel
theorem dX5_laysOut_167 : decode cX5_laysOut 167 = .ok (.getfield 35, 3) := by decide +kernel
theorem dX5_laysOut_170 : decode cX5_laysOut 170 = .ok (.iload 5, 2) := by decide +kernel
theorem dX5_laysOut_172 : decode cX5_laysOut 172 = .ok (.iaload, 1) := by decide +kernel
theorem dX5_laysOut_173 : decode cX5_laysOut 173 = .ok (.i2l, 1) := by decide +kernel
theorem dX5_laysOut_174 : decode cX5_laysOut 174 = .ok (.goto 4, 3) := by decide +kernel
theorem dX5_laysOut_177 : decode cX5_laysOut 177 = .ok (.lconst 0, 1) := by decide +kernel
theorem dX5_laysOut_178 : decode cX5_laysOut 178 = .ok (.lsub, 1) := by decide +kernel
theorem dX5_laysOut_179 : decode cX5_laysOut 179 = .ok (.lstore_n 3, 1) := by decide +kernel
theorem dX5_laysOut_180 : decode cX5_laysOut 180 = .ok (.iinc 5 1, 3) := by decide +kernel
theorem dX5_laysOut_183 : decode cX5_laysOut 183 = .ok (.goto (-99), 3) := by decide +kernel
theorem dX5_laysOut_186 : decode cX5_laysOut 186 = .ok (.aload_n 0, 1) := by decide +kernel
theorem dX5_laysOut_187 : decode cX5_laysOut 187 = .ok (.getfield 48, 3) := by decide +kernel
theorem dX5_laysOut_190 : decode cX5_laysOut 190 = .ok (.bipush 26, 2) := by decide +kernel
theorem dX5_laysOut_192 : decode cX5_laysOut 192 = .ok (.iload_n 2, 1) := by decide +kernel
theorem dX5_laysOut_193 : decode cX5_laysOut 193 = .ok (.imul, 1) := by decide +kernel
theorem dX5_laysOut_194 : decode cX5_laysOut 194 = .ok (.bipush 25, 2) := by decide +kernel
theorem dX5_laysOut_196 : decode cX5_laysOut 196 = .ok (.iadd, 1) := by decide +kernel
theorem dX5_laysOut_197 : decode cX5_laysOut 197 = .ok (.lload_n 3, 1) := by decide +kernel
theorem dX5_laysOut_198 : decode cX5_laysOut 198 = .ok (.lastore, 1) := by decide +kernel
theorem dX5_laysOut_199 : decode cX5_laysOut 199 = .ok (.iinc 2 1, 3) := by decide +kernel
theorem dX5_laysOut_202 : decode cX5_laysOut 202 = .ok (.goto (-137), 3) := by decide +kernel
theorem dX5_laysOut_205 : decode cX5_laysOut 205 = .ok (.return_, 1) := by decide +kernel
