theorem dX0_init_0 : decode cX0_init 0 = .ok (.aload_n 0, 1) := by decide +kernel
theorem dX0_init_1 : decode cX0_init 1 = .ok (.invokespecial 3, 3) := by decide +kernel
theorem dX0_init_4 : decode cX0_init 4 = .ok (.aload_n 0, 1) := by decide +kernel
theorem dX0_init_5 : decode cX0_init 5 = .ok (.bipush 12, 2) := by decide +kernel
theorem dX0_init_7 : decode cX0_init 7 = .ok (.bipush 26, 2) := by decide +kernel
theorem dX0_init_9 : decode cX0_init 9 = .ok (.multianewarray 9 2, 4) := by decide +kernel
theorem dX0_init_13 : decode cX0_init 13 = .ok (.putfield 11, 3) := by decide +kernel
theorem dX0_init_16 : decode cX0_init 16 = .ok (.aload_n 0, 1) := by decide +kernel
theorem dX0_init_17 : decode cX0_init 17 = .ok (.bipush 25, 2) := by decide +kernel
theorem dX0_init_19 : decode cX0_init 19 = .ok (.newarray .int, 2) := by decide +kernel
theorem dX0_init_21 : decode cX0_init 21 = .ok (.putfield 16, 3) := by decide +kernel
theorem dX0_init_24 : decode cX0_init 24 = .ok (.aload_n 0, 1) := by decide +kernel
theorem dX0_init_25 : decode cX0_init 25 = .ok (.bipush 12, 2) := by decide +kernel
theorem dX0_init_27 : decode cX0_init 27 = .ok (.newarray .int, 2) := by decide +kernel
theorem dX0_init_29 : decode cX0_init 29 = .ok (.putfield 20, 3) := by decide +kernel
theorem dX0_init_32 : decode cX0_init 32 = .ok (.aload_n 0, 1) := by decide +kernel
theorem dX0_init_33 : decode cX0_init 33 = .ok (.bipush 25, 2) := by decide +kernel
theorem dX0_init_35 : decode cX0_init 35 = .ok (.newarray .boolean, 2) := by decide +kernel
theorem dX0_init_37 : decode cX0_init 37 = .ok (.putfield 23, 3) := by decide +kernel
theorem dX0_init_40 : decode cX0_init 40 = .ok (.return_, 1) := by decide +kernel
set_option maxRecDepth 20000 in
theorem ggX0_solve_X0_findKnown : GoodIn wsX0_solve wsX0_findKnown := goodIn_r _ [7, 8, 9, 10, 11, 12, 13, 14, 15, 16, 17, 18, 19, 20, 21, 72, 73, 74, 75, 76, 77, 78, 79, 64, 65, 66, 67, 68, 69, 70, 71, 80, 81, 82, 83] (by decide +kernel) (by decide +kernel)
set_option maxRecDepth 20000 in
theorem gX0_solve_X0_findKnown : GoodIn wsX0_solve (wsV RX0 36 RX0 yX0_findKnown wsX0_findKnown) := goodIn_app (goodIn_of _ (by decide +kernel)) ggX0_solve_X0_findKnown
set_option maxRecDepth 20000 in
theorem ggX0_solve_X0_fillRow : GoodIn wsX0_solve wsX0_fillRow := goodIn_r _ [25, 26, 27, 9, 28, 29, 30, 31, 32, 33, 34, 35, 13, 36, 15, 37, 72, 73, 74, 75, 76, 77, 78, 79, 80, 81, 82, 83, 64, 65, 66, 67, 68, 69, 70, 71] (by decide +kernel) (by decide +kernel)
set_option maxRecDepth 20000 in
theorem gX0_solve_X0_fillRow : GoodIn wsX0_solve (wsV RX0 40 RX0 yX0_fillRow wsX0_fillRow) := goodIn_app (goodIn_of _ (by decide +kernel)) ggX0_solve_X0_fillRow
set_option maxRecDepth 20000 in
theorem ggX0_solve_X0_eliminate : GoodIn wsX0_solve wsX0_eliminate := goodIn_r _ [41, 42, 43, 44, 45, 46, 47, 31, 48, 49, 50, 51, 6, 52, 2, 26, 53, 54, 55, 56, 57, 58, 59, 60, 61, 62, 63, 72, 73, 74, 75, 76, 77, 78, 79] (by decide +kernel) (by decide +kernel)
set_option maxRecDepth 20000 in
theorem gX0_solve_X0_eliminate : GoodIn wsX0_solve (wsV RX0 44 RX0 yX0_eliminate wsX0_eliminate) := goodIn_app (goodIn_of _ (by decide +kernel)) ggX0_solve_X0_eliminate
theorem dX0_solve_0 : decode cX0_solve 0 = .ok (.aload_n 0, 1) := by decide +kernel
theorem dX0_solve_1 : decode cX0_solve 1 = .ok (.aload_n 1, 1) := by decide +kernel
theorem dX0_solve_2 : decode cX0_solve 2 = .ok (.getfield 27, 3) := by decide +kernel
theorem dX0_solve_5 : decode cX0_solve 5 = .ok (.putfield 33, 3) := by decide +kernel
theorem dX0_solve_8 : decode cX0_solve 8 = .ok (.aload_n 0, 1) := by decide +kernel
theorem dX0_solve_9 : decode cX0_solve 9 = .ok (.aload_n 1, 1) := by decide +kernel
theorem dX0_solve_10 : decode cX0_solve 10 = .ok (.aload_n 2, 1) := by decide +kernel
theorem dX0_solve_11 : decode cX0_solve 11 = .ok (.invokevirtual 36, 3) := by decide +kernel
theorem dX0_solve_14 : decode cX0_solve 14 = .ok (.iconst 0, 1) := by decide +kernel
theorem dX0_solve_15 : decode cX0_solve 15 = .ok (.istore_n 3, 1) := by decide +kernel
theorem dX0_solve_16 : decode cX0_solve 16 = .ok (.iload_n 3, 1) := by decide +kernel
theorem dX0_solve_17 : decode cX0_solve 17 = .ok (.aload_n 0, 1) := by decide +kernel
theorem dX0_solve_18 : decode cX0_solve 18 = .ok (.getfield 33, 3) := by decide +kernel
theorem dX0_solve_21 : decode cX0_solve 21 = .ok (.if_icmp .ge 16, 3) := by decide +kernel
theorem dX0_solve_24 : decode cX0_solve 24 = .ok (.aload_n 0, 1) := by decide +kernel
theorem dX0_solve_25 : decode cX0_solve 25 = .ok (.iload_n 3, 1) := by decide +kernel
theorem dX0_solve_26 : decode cX0_solve 26 = .ok (.aload_n 1, 1) := by decide +kernel
theorem dX0_solve_27 : decode cX0_solve 27 = .ok (.aload_n 2, 1) := by decide +kernel
theorem dX0_solve_28 : decode cX0_solve 28 = .ok (.invokevirtual 40, 3) := by decide +kernel
theorem dX0_solve_31 : decode cX0_solve 31 = .ok (.iinc 3 1, 3) := by decide +kernel
theorem dX0_solve_34 : decode cX0_solve 34 = .ok (.goto (-18), 3) := by decide +kernel
theorem dX0_solve_37 : decode cX0_solve 37 = .ok (.aload_n 0, 1) := by decide +kernel
theorem dX0_solve_38 : decode cX0_solve 38 = .ok (.invokevirtual 44, 3) := by decide +kernel
theorem dX0_solve_41 : decode cX0_solve 41 = .ok (.return_, 1) := by decide +kernel
set_option maxRecDepth 20000 in
theorem ggX0_findKnown_X3_hasRoute : GoodIn wsX0_findKnown wsX3_hasRoute := goodIn_r _ [7, 8, 23, 24, 25, 26, 27, 28, 29, 30] (by decide +kernel) (by decide +kernel)
set_option maxRecDepth 20000 in
theorem gX0_findKnown_X3_hasRoute : GoodIn wsX0_findKnown (wsV RX0 50 RX3 yX3_hasRoute wsX3_hasRoute) := goodIn_app (goodIn_of _ (by decide +kernel)) ggX0_findKnown_X3_hasRoute
set_option maxRecDepth 20000 in
theorem ggX0_findKnown_X2_hasPair : GoodIn wsX0_findKnown wsX2_hasPair := goodIn_r _ [13, 14, 31, 32, 33, 34] (by decide +kernel) (by decide +kernel)
set_option maxRecDepth 20000 in
theorem gX0_findKnown_X2_hasPair : GoodIn wsX0_findKnown (wsV RX0 54 RX2 yX2_hasPair wsX2_hasPair) := goodIn_app (goodIn_of _ (by decide +kernel)) ggX0_findKnown_X2_hasPair
theorem dX0_findKnown_0 : decode cX0_findKnown 0 = .ok (.aload_n 0, 1) := by decide +kernel
theorem dX0_findKnown_1 : decode cX0_findKnown 1 = .ok (.iconst 0, 1) := by decide +kernel
theorem dX0_findKnown_2 : decode cX0_findKnown 2 = .ok (.putfield 47, 3) := by decide +kernel
theorem dX0_findKnown_5 : decode cX0_findKnown 5 = .ok (.iconst 0, 1) := by decide +kernel
theorem dX0_findKnown_6 : decode cX0_findKnown 6 = .ok (.istore_n 3, 1) := by decide +kernel
theorem dX0_findKnown_7 : decode cX0_findKnown 7 = .ok (.iload_n 3, 1) := by decide +kernel
theorem dX0_findKnown_8 : decode cX0_findKnown 8 = .ok (.bipush 25, 2) := by decide +kernel
theorem dX0_findKnown_10 : decode cX0_findKnown 10 = .ok (.if_icmp .ge 55, 3) := by decide +kernel
theorem dX0_findKnown_13 : decode cX0_findKnown 13 = .ok (.aload_n 0, 1) := by decide +kernel
theorem dX0_findKnown_14 : decode cX0_findKnown 14 = .ok (.getfield 23, 3) := by decide +kernel
theorem dX0_findKnown_17 : decode cX0_findKnown 17 = .ok (.iload_n 3, 1) := by decide +kernel
theorem dX0_findKnown_18 : decode cX0_findKnown 18 = .ok (.aload_n 1, 1) := by decide +kernel
theorem dX0_findKnown_19 : decode cX0_findKnown 19 = .ok (.iload_n 3, 1) := by decide +kernel
theorem dX0_findKnown_20 : decode cX0_findKnown 20 = .ok (.invokevirtual 50, 3) := by decide +kernel
theorem dX0_findKnown_23 : decode cX0_findKnown 23 = .ok (.ifCond .eq 15, 3) := by decide +kernel
theorem dX0_findKnown_26 : decode cX0_findKnown 26 = .ok (.aload_n 2, 1) := by decide +kernel
theorem dX0_findKnown_27 : decode cX0_findKnown 27 = .ok (.iload_n 3, 1) := by decide +kernel
theorem dX0_findKnown_28 : decode cX0_findKnown 28 = .ok (.invokevirtual 54, 3) := by decide +kernel
theorem dX0_findKnown_31 : decode cX0_findKnown 31 = .ok (.ifCond .eq 7, 3) := by decide +kernel
theorem dX0_findKnown_34 : decode cX0_findKnown 34 = .ok (.iconst 1, 1) := by decide +kernel
theorem dX0_findKnown_35 : decode cX0_findKnown 35 = .ok (.goto 4, 3) := by decide +kernel
theorem dX0_findKnown_38 : decode cX0_findKnown 38 = .ok (.iconst 0, 1) := by decide +kernel
theorem dX0_findKnown_39 : decode cX0_findKnown 39 = .ok (.bastore, 1) := by decide +kernel
theorem dX0_findKnown_40 : decode cX0_findKnown 40 = .ok (.aload_n 0, 1) := by decide +kernel
theorem dX0_findKnown_41 : decode cX0_findKnown 41 = .ok (.getfield 23, 3) := by decide +kernel
theorem dX0_findKnown_44 : decode cX0_findKnown 44 = .ok (.iload_n 3, 1) := by decide +kernel
theorem dX0_findKnown_45 : decode cX0_findKnown 45 = .ok (.baload, 1) := by decide +kernel
theorem dX0_findKnown_46 : decode cX0_findKnown 46 = .ok (.ifCond .eq 13, 3) := by decide +kernel
theorem dX0_findKnown_49 : decode cX0_findKnown 49 = .ok (.aload_n 0, 1) := by decide +kernel
theorem dX0_findKnown_50 : decode cX0_findKnown 50 = .ok (.dup, 1) := by decide +kernel
theorem dX0_findKnown_51 : decode cX0_findKnown 51 = .ok (.getfield 47, 3) := by decide +kernel
theorem dX0_findKnown_54 : decode cX0_findKnown 54 = .ok (.iconst 1, 1) := by decide +kernel
theorem dX0_findKnown_55 : decode cX0_findKnown 55 = .ok (.iadd, 1) := by decide +kernel
theorem dX0_findKnown_56 : decode cX0_findKnown 56 = .ok (.putfield 47, 3) := by decide +kernel
theorem dX0_findKnown_59 : decode cX0_findKnown 59 = .ok (.iinc 3 1, 3) := by decide +kernel
theorem dX0_findKnown_62 : decode cX0_findKnown 62 = .ok (.goto (-55), 3) := by decide +kernel
theorem dX0_findKnown_65 : decode cX0_findKnown 65 = .ok (.return_, 1) := by decide +kernel
set_option maxRecDepth 20000 in
theorem ggX0_fillRow_J7_fill_d0a16 : GoodIn wsX0_fillRow wsJ7_fill_d0a16 := goodIn_r _ [8] (by decide +kernel) (by decide +kernel)
set_option maxRecDepth 20000 in
theorem gX0_fillRow_J7_fill_d0a16 : GoodIn wsX0_fillRow (va_wsS RX0 59 yJ7_fill_d0a16 wsJ7_fill_d0a16) := goodIn_app (goodIn_of _ (by decide +kernel)) ggX0_fillRow_J7_fill_d0a16
set_option maxRecDepth 20000 in
theorem ggX0_fillRow_X3_routeUses : GoodIn wsX0_fillRow wsX3_routeUses := goodIn_r _ [13, 14, 15, 28, 29, 30, 31, 32, 33, 34, 35] (by decide +kernel) (by decide +kernel)
set_option maxRecDepth 20000 in
theorem gX0_fillRow_X3_routeUses : GoodIn wsX0_fillRow (wsV RX0 68 RX3 yX3_routeUses wsX3_routeUses) := goodIn_app (goodIn_of _ (by decide +kernel)) ggX0_fillRow_X3_routeUses
theorem dX0_fillRow_0 : decode cX0_fillRow 0 = .ok (.aload_n 0, 1) := by decide +kernel
theorem dX0_fillRow_1 : decode cX0_fillRow 1 = .ok (.getfield 11, 3) := by decide +kernel
theorem dX0_fillRow_4 : decode cX0_fillRow 4 = .ok (.iload_n 1, 1) := by decide +kernel
theorem dX0_fillRow_5 : decode cX0_fillRow 5 = .ok (.aaload, 1) := by decide +kernel
theorem dX0_fillRow_6 : decode cX0_fillRow 6 = .ok (.astore 4, 2) := by decide +kernel
theorem dX0_fillRow_8 : decode cX0_fillRow 8 = .ok (.aload 4, 2) := by decide +kernel
theorem dX0_fillRow_10 : decode cX0_fillRow 10 = .ok (.lconst 0, 1) := by decide +kernel
theorem dX0_fillRow_11 : decode cX0_fillRow 11 = .ok (.invokestatic 59, 3) := by decide +kernel
theorem dX0_fillRow_14 : decode cX0_fillRow 14 = .ok (.aload 4, 2) := by decide +kernel
theorem dX0_fillRow_16 : decode cX0_fillRow 16 = .ok (.bipush 25, 2) := by decide +kernel
theorem dX0_fillRow_18 : decode cX0_fillRow 18 = .ok (.aload_n 3, 1) := by decide +kernel
theorem dX0_fillRow_19 : decode cX0_fillRow 19 = .ok (.getfield 65, 3) := by decide +kernel
theorem dX0_fillRow_22 : decode cX0_fillRow 22 = .ok (.iload_n 1, 1) := by decide +kernel
theorem dX0_fillRow_23 : decode cX0_fillRow 23 = .ok (.iaload, 1) := by decide +kernel
theorem dX0_fillRow_24 : decode cX0_fillRow 24 = .ok (.i2l, 1) := by decide +kernel
theorem dX0_fillRow_25 : decode cX0_fillRow 25 = .ok (.lastore, 1) := by decide +kernel
theorem dX0_fillRow_26 : decode cX0_fillRow 26 = .ok (.iconst 0, 1) := by decide +kernel
theorem dX0_fillRow_27 : decode cX0_fillRow 27 = .ok (.istore 5, 2) := by decide +kernel
theorem dX0_fillRow_29 : decode cX0_fillRow 29 = .ok (.iload 5, 2) := by decide +kernel
theorem dX0_fillRow_31 : decode cX0_fillRow 31 = .ok (.bipush 25, 2) := by decide +kernel
theorem dX0_fillRow_33 : decode cX0_fillRow 33 = .ok (.if_icmp .ge 54, 3) := by decide +kernel
theorem dX0_fillRow_36 : decode cX0_fillRow 36 = .ok (.aload_n 2, 1) := by decide +kernel
theorem dX0_fillRow_37 : decode cX0_fillRow 37 = .ok (.iload 5, 2) := by decide +kernel
theorem dX0_fillRow_39 : decode cX0_fillRow 39 = .ok (.iload_n 1, 1) := by decide +kernel
theorem dX0_fillRow_40 : decode cX0_fillRow 40 = .ok (.invokevirtual 68, 3) := by decide +kernel
theorem dX0_fillRow_43 : decode cX0_fillRow 43 = .ok (.ifCond .eq 38, 3) := by decide +kernel
theorem dX0_fillRow_46 : decode cX0_fillRow 46 = .ok (.aload_n 0, 1) := by decide +kernel
theorem dX0_fillRow_47 : decode cX0_fillRow 47 = .ok (.getfield 23, 3) := by decide +kernel
theorem dX0_fillRow_50 : decode cX0_fillRow 50 = .ok (.iload 5, 2) := by decide +kernel
theorem dX0_fillRow_52 : decode cX0_fillRow 52 = .ok (.baload, 1) := by decide +kernel
theorem dX0_fillRow_53 : decode cX0_fillRow 53 = .ok (.ifCond .eq 22, 3) := by decide +kernel
theorem dX0_fillRow_56 : decode cX0_fillRow 56 = .ok (.aload 4, 2) := by decide +kernel
theorem dX0_fillRow_58 : decode cX0_fillRow 58 = .ok (.bipush 25, 2) := by decide +kernel
theorem dX0_fillRow_60 : decode cX0_fillRow 60 = .ok (.dup2, 1) := by decide +kernel
theorem dX0_fillRow_61 : decode cX0_fillRow 61 = .ok (.laload, 1) := by decide +kernel
theorem dX0_fillRow_62 : decode cX0_fillRow 62 = .ok (.aload_n 3, 1) := by decide +kernel
theorem dX0_fillRow_63 : decode cX0_fillRow 63 = .ok (.getfield 72, 3) := by decide +kernel
theorem dX0_fillRow_66 : decode cX0_fillRow 66 = .ok (.iload 5, 2) := by decide +kernel
theorem dX0_fillRow_68 : decode cX0_fillRow 68 = .ok (.iaload, 1) := by decide +kernel
theorem dX0_fillRow_69 : decode cX0_fillRow 69 = .ok (.i2l, 1) := by decide +kernel
theorem dX0_fillRow_70 : decode cX0_fillRow 70 = .ok (.lsub, 1) := by decide +kernel
theorem dX0_fillRow_71 : decode cX0_fillRow 71 = .ok (.lastore, 1) := by decide +kernel
theorem dX0_fillRow_72 : decode cX0_fillRow 72 = .ok (.goto 9, 3) := by decide +kernel
theorem dX0_fillRow_75 : decode cX0_fillRow 75 = .ok (.aload 4, 2) := by decide +kernel
theorem dX0_fillRow_77 : decode cX0_fillRow 77 = .ok (.iload 5, 2) := by decide +kernel
theorem dX0_fillRow_79 : decode cX0_fillRow 79 = .ok (.lconst 1, 1) := by decide +kernel
theorem dX0_fillRow_80 : decode cX0_fillRow 80 = .ok (.lastore, 1) := by decide +kernel
theorem dX0_fillRow_81 : decode cX0_fillRow 81 = .ok (.iinc 5 1, 3) := by decide +kernel
theorem dX0_fillRow_84 : decode cX0_fillRow 84 = .ok (.goto (-55), 3) := by decide +kernel
theorem dX0_fillRow_87 : decode cX0_fillRow 87 = .ok (.return_, 1) := by decide +kernel
set_option maxRecDepth 20000 in
theorem ggX0_eliminate_J7_fill_53178 : GoodIn wsX0_eliminate wsJ7_fill_53178 := goodIn_r _ [8] (by decide +kernel) (by decide +kernel)
set_option maxRecDepth 20000 in
theorem gX0_eliminate_J7_fill_53178 : GoodIn wsX0_eliminate (va_wsS RX0 82 yJ7_fill_53178 wsJ7_fill_53178) := goodIn_app (goodIn_of _ (by decide +kernel)) ggX0_eliminate_J7_fill_53178
set_option maxRecDepth 20000 in
theorem ggX0_eliminate_X0_findPivotRow : GoodIn wsX0_eliminate wsX0_findPivotRow := goodIn_r _ [13, 14, 4, 15, 27, 28, 29, 30, 31, 32, 33, 34] (by decide +kernel) (by decide +kernel)
set_option maxRecDepth 20000 in
theorem gX0_eliminate_X0_findPivotRow : GoodIn wsX0_eliminate (wsV RX0 85 RX0 yX0_findPivotRow wsX0_findPivotRow) := goodIn_app (goodIn_of _ (by decide +kernel)) ggX0_eliminate_X0_findPivotRow
set_option maxRecDepth 20000 in
theorem ggX0_eliminate_X0_clearColumn : GoodIn wsX0_eliminate wsX0_clearColumn := goodIn_r _ [19, 15, 14, 2, 20, 21, 22, 12, 23, 24, 25, 26, 27, 28, 29, 30, 31, 32, 33, 34] (by decide +kernel) (by decide +kernel)
set_option maxRecDepth 20000 in
theorem gX0_eliminate_X0_clearColumn : GoodIn wsX0_eliminate (wsV RX0 89 RX0 yX0_clearColumn wsX0_clearColumn) := goodIn_app (goodIn_of _ (by decide +kernel)) ggX0_eliminate_X0_clearColumn
theorem dX0_eliminate_0 : decode cX0_eliminate 0 = .ok (.aload_n 0, 1) := by decide +kernel
theorem dX0_eliminate_1 : decode cX0_eliminate 1 = .ok (.iconst 0, 1) := by decide +kernel
theorem dX0_eliminate_2 : decode cX0_eliminate 2 = .ok (.putfield 75, 3) := by decide +kernel
theorem dX0_eliminate_5 : decode cX0_eliminate 5 = .ok (.aload_n 0, 1) := by decide +kernel
theorem dX0_eliminate_6 : decode cX0_eliminate 6 = .ok (.lconst 1, 1) := by decide +kernel
theorem dX0_eliminate_7 : decode cX0_eliminate 7 = .ok (.putfield 78, 3) := by decide +kernel
theorem dX0_eliminate_10 : decode cX0_eliminate 10 = .ok (.aload_n 0, 1) := by decide +kernel
theorem dX0_eliminate_11 : decode cX0_eliminate 11 = .ok (.getfield 16, 3) := by decide +kernel
theorem dX0_eliminate_14 : decode cX0_eliminate 14 = .ok (.iconst (-1), 1) := by decide +kernel
theorem dX0_eliminate_15 : decode cX0_eliminate 15 = .ok (.invokestatic 82, 3) := by decide +kernel
theorem dX0_eliminate_18 : decode cX0_eliminate 18 = .ok (.aload_n 0, 1) := by decide +kernel
theorem dX0_eliminate_19 : decode cX0_eliminate 19 = .ok (.getfield 20, 3) := by decide +kernel
theorem dX0_eliminate_22 : decode cX0_eliminate 22 = .ok (.iconst (-1), 1) := by decide +kernel
theorem dX0_eliminate_23 : decode cX0_eliminate 23 = .ok (.invokestatic 82, 3) := by decide +kernel
theorem dX0_eliminate_26 : decode cX0_eliminate 26 = .ok (.iconst 0, 1) := by decide +kernel
theorem dX0_eliminate_27 : decode cX0_eliminate 27 = .ok (.istore_n 1, 1) := by decide +kernel
theorem dX0_eliminate_28 : decode cX0_eliminate 28 = .ok (.iload_n 1, 1) := by decide +kernel
theorem dX0_eliminate_29 : decode cX0_eliminate 29 = .ok (.bipush 25, 2) := by decide +kernel
theorem dX0_eliminate_31 : decode cX0_eliminate 31 = .ok (.if_icmp .ge 50, 3) := by decide +kernel
theorem dX0_eliminate_34 : decode cX0_eliminate 34 = .ok (.aload_n 0, 1) := by decide +kernel
theorem dX0_eliminate_35 : decode cX0_eliminate 35 = .ok (.iload_n 1, 1) := by decide +kernel
theorem dX0_eliminate_36 : decode cX0_eliminate 36 = .ok (.invokevirtual 85, 3) := by decide +kernel
theorem dX0_eliminate_39 : decode cX0_eliminate 39 = .ok (.istore_n 2, 1) := by decide +kernel
theorem dX0_eliminate_40 : decode cX0_eliminate 40 = .ok (.iload_n 2, 1) := by decide +kernel
theorem dX0_eliminate_41 : decode cX0_eliminate 41 = .ok (.iconst (-1), 1) := by decide +kernel
theorem dX0_eliminate_42 : decode cX0_eliminate 42 = .ok (.if_icmp .eq 33, 3) := by decide +kernel
theorem dX0_eliminate_45 : decode cX0_eliminate 45 = .ok (.aload_n 0, 1) := by decide +kernel
theorem dX0_eliminate_46 : decode cX0_eliminate 46 = .ok (.iload_n 1, 1) := by decide +kernel
theorem dX0_eliminate_47 : decode cX0_eliminate 47 = .ok (.iload_n 2, 1) := by decide +kernel
theorem dX0_eliminate_48 : decode cX0_eliminate 48 = .ok (.invokevirtual 89, 3) := by decide +kernel
theorem dX0_eliminate_51 : decode cX0_eliminate 51 = .ok (.aload_n 0, 1) := by decide +kernel
theorem dX0_eliminate_52 : decode cX0_eliminate 52 = .ok (.getfield 16, 3) := by decide +kernel
theorem dX0_eliminate_55 : decode cX0_eliminate 55 = .ok (.iload_n 1, 1) := by decide +kernel
theorem dX0_eliminate_56 : decode cX0_eliminate 56 = .ok (.iload_n 2, 1) := by decide +kernel
theorem dX0_eliminate_57 : decode cX0_eliminate 57 = .ok (.iastore, 1) := by decide +kernel
theorem dX0_eliminate_58 : decode cX0_eliminate 58 = .ok (.aload_n 0, 1) := by decide +kernel
theorem dX0_eliminate_59 : decode cX0_eliminate 59 = .ok (.getfield 20, 3) := by decide +kernel
theorem dX0_eliminate_62 : decode cX0_eliminate 62 = .ok (.iload_n 2, 1) := by decide +kernel
theorem dX0_eliminate_63 : decode cX0_eliminate 63 = .ok (.iload_n 1, 1) := by decide +kernel
theorem dX0_eliminate_64 : decode cX0_eliminate 64 = .ok (.iastore, 1) := by decide +kernel
theorem dX0_eliminate_65 : decode cX0_eliminate 65 = .ok (.aload_n 0, 1) := by decide +kernel
theorem dX0_eliminate_66 : decode cX0_eliminate 66 = .ok (.dup, 1) := by decide +kernel
theorem dX0_eliminate_67 : decode cX0_eliminate 67 = .ok (.getfield 75, 3) := by decide +kernel
theorem dX0_eliminate_70 : decode cX0_eliminate 70 = .ok (.iconst 1, 1) := by decide +kernel
theorem dX0_eliminate_71 : decode cX0_eliminate 71 = .ok (.iadd, 1) := by decide +kernel
theorem dX0_eliminate_72 : decode cX0_eliminate 72 = .ok (.putfield 75, 3) := by decide +kernel
theorem dX0_eliminate_75 : decode cX0_eliminate 75 = .ok (.iinc 1 1, 3) := by decide +kernel
theorem dX0_eliminate_78 : decode cX0_eliminate 78 = .ok (.goto (-50), 3) := by decide +kernel
theorem dX0_eliminate_81 : decode cX0_eliminate 81 = .ok (.return_, 1) := by decide +kernel
theorem dX0_findPivotRow_0 : decode cX0_findPivotRow 0 = .ok (.iconst 0, 1) := by decide +kernel
theorem dX0_findPivotRow_1 : decode cX0_findPivotRow 1 = .ok (.istore_n 2, 1) := by decide +kernel
theorem dX0_findPivotRow_2 : decode cX0_findPivotRow 2 = .ok (.iload_n 2, 1) := by decide +kernel
theorem dX0_findPivotRow_3 : decode cX0_findPivotRow 3 = .ok (.aload_n 0, 1) := by decide +kernel
theorem dX0_findPivotRow_4 : decode cX0_findPivotRow 4 = .ok (.getfield 33, 3) := by decide +kernel
theorem dX0_findPivotRow_7 : decode cX0_findPivotRow 7 = .ok (.if_icmp .ge 34, 3) := by decide +kernel
theorem dX0_findPivotRow_10 : decode cX0_findPivotRow 10 = .ok (.aload_n 0, 1) := by decide +kernel
theorem dX0_findPivotRow_11 : decode cX0_findPivotRow 11 = .ok (.getfield 20, 3) := by decide +kernel
theorem dX0_findPivotRow_14 : decode cX0_findPivotRow 14 = .ok (.iload_n 2, 1) := by decide +kernel
theorem dX0_findPivotRow_15 : decode cX0_findPivotRow 15 = .ok (.iaload, 1) := by decide +kernel
theorem dX0_findPivotRow_16 : decode cX0_findPivotRow 16 = .ok (.iconst (-1), 1) := by decide +kernel
theorem dX0_findPivotRow_17 : decode cX0_findPivotRow 17 = .ok (.if_icmp .ne 18, 3) := by decide +kernel
theorem dX0_findPivotRow_20 : decode cX0_findPivotRow 20 = .ok (.aload_n 0, 1) := by decide +kernel
theorem dX0_findPivotRow_21 : decode cX0_findPivotRow 21 = .ok (.getfield 11, 3) := by decide +kernel
theorem dX0_findPivotRow_24 : decode cX0_findPivotRow 24 = .ok (.iload_n 2, 1) := by decide +kernel
theorem dX0_findPivotRow_25 : decode cX0_findPivotRow 25 = .ok (.aaload, 1) := by decide +kernel
theorem dX0_findPivotRow_26 : decode cX0_findPivotRow 26 = .ok (.iload_n 1, 1) := by decide +kernel
theorem dX0_findPivotRow_27 : decode cX0_findPivotRow 27 = .ok (.laload, 1) := by decide +kernel
theorem dX0_findPivotRow_28 : decode cX0_findPivotRow 28 = .ok (.lconst 0, 1) := by decide +kernel
theorem dX0_findPivotRow_29 : decode cX0_findPivotRow 29 = .ok (.lcmp, 1) := by decide +kernel
theorem dX0_findPivotRow_30 : decode cX0_findPivotRow 30 = .ok (.ifCond .eq 5, 3) := by decide +kernel
theorem dX0_findPivotRow_33 : decode cX0_findPivotRow 33 = .ok (.iload_n 2, 1) := by decide +kernel
theorem dX0_findPivotRow_34 : decode cX0_findPivotRow 34 = .ok (.ireturn, 1) := by decide +kernel
theorem dX0_findPivotRow_35 : decode cX0_findPivotRow 35 = .ok (.iinc 2 1, 3) := by decide +kernel
theorem dX0_findPivotRow_38 : decode cX0_findPivotRow 38 = .ok (.goto (-36), 3) := by decide +kernel
theorem dX0_findPivotRow_41 : decode cX0_findPivotRow 41 = .ok (.iconst (-1), 1) := by decide +kernel
theorem dX0_findPivotRow_42 : decode cX0_findPivotRow 42 = .ok (.ireturn, 1) := by decide +kernel
set_option maxRecDepth 20000 in
theorem ggX0_clearColumn_X0_combine : GoodIn wsX0_clearColumn wsX0_combine := goodIn_r _ [8, 3, 9, 10, 7, 11, 12, 13, 14, 15, 16, 17, 18, 19] (by decide +kernel) (by decide +kernel)
set_option maxRecDepth 20000 in
theorem gX0_clearColumn_X0_combine : GoodIn wsX0_clearColumn (wsV RX0 93 RX0 yX0_combine wsX0_combine) := goodIn_app (goodIn_of _ (by decide +kernel)) ggX0_clearColumn_X0_combine
theorem dX0_clearColumn_0 : decode cX0_clearColumn 0 = .ok (.aload_n 0, 1) := by decide +kernel
theorem dX0_clearColumn_1 : decode cX0_clearColumn 1 = .ok (.getfield 11, 3) := by decide +kernel
theorem dX0_clearColumn_4 : decode cX0_clearColumn 4 = .ok (.iload_n 2, 1) := by decide +kernel
theorem dX0_clearColumn_5 : decode cX0_clearColumn 5 = .ok (.aaload, 1) := by decide +kernel
theorem dX0_clearColumn_6 : decode cX0_clearColumn 6 = .ok (.iload_n 1, 1) := by decide +kernel
theorem dX0_clearColumn_7 : decode cX0_clearColumn 7 = .ok (.laload, 1) := by decide +kernel
theorem dX0_clearColumn_8 : decode cX0_clearColumn 8 = .ok (.lstore_n 3, 1) := by decide +kernel
theorem dX0_clearColumn_9 : decode cX0_clearColumn 9 = .ok (.iconst 0, 1) := by decide +kernel
theorem dX0_clearColumn_10 : decode cX0_clearColumn 10 = .ok (.istore 5, 2) := by decide +kernel
theorem dX0_clearColumn_12 : decode cX0_clearColumn 12 = .ok (.iload 5, 2) := by decide +kernel
theorem dX0_clearColumn_14 : decode cX0_clearColumn 14 = .ok (.aload_n 0, 1) := by decide +kernel
theorem dX0_clearColumn_15 : decode cX0_clearColumn 15 = .ok (.getfield 33, 3) := by decide +kernel
theorem dX0_clearColumn_18 : decode cX0_clearColumn 18 = .ok (.if_icmp .ge 56, 3) := by decide +kernel
theorem dX0_clearColumn_21 : decode cX0_clearColumn 21 = .ok (.iload 5, 2) := by decide +kernel
theorem dX0_clearColumn_23 : decode cX0_clearColumn 23 = .ok (.iload_n 2, 1) := by decide +kernel
theorem dX0_clearColumn_24 : decode cX0_clearColumn 24 = .ok (.if_icmp .eq 44, 3) := by decide +kernel
theorem dX0_clearColumn_27 : decode cX0_clearColumn 27 = .ok (.lload_n 3, 1) := by decide +kernel
theorem dX0_clearColumn_28 : decode cX0_clearColumn 28 = .ok (.aload_n 0, 1) := by decide +kernel
theorem dX0_clearColumn_29 : decode cX0_clearColumn 29 = .ok (.getfield 78, 3) := by decide +kernel
theorem dX0_clearColumn_32 : decode cX0_clearColumn 32 = .ok (.lcmp, 1) := by decide +kernel
theorem dX0_clearColumn_33 : decode cX0_clearColumn 33 = .ok (.ifCond .ne 17, 3) := by decide +kernel
theorem dX0_clearColumn_36 : decode cX0_clearColumn 36 = .ok (.aload_n 0, 1) := by decide +kernel
theorem dX0_clearColumn_37 : decode cX0_clearColumn 37 = .ok (.getfield 11, 3) := by decide +kernel
theorem dX0_clearColumn_40 : decode cX0_clearColumn 40 = .ok (.iload 5, 2) := by decide +kernel
theorem dX0_clearColumn_42 : decode cX0_clearColumn 42 = .ok (.aaload, 1) := by decide +kernel
theorem dX0_clearColumn_43 : decode cX0_clearColumn 43 = .ok (.iload_n 1, 1) := by decide +kernel
theorem dX0_clearColumn_44 : decode cX0_clearColumn 44 = .ok (.laload, 1) := by decide +kernel
theorem dX0_clearColumn_45 : decode cX0_clearColumn 45 = .ok (.lconst 0, 1) := by decide +kernel
theorem dX0_clearColumn_46 : decode cX0_clearColumn 46 = .ok (.lcmp, 1) := by decide +kernel
theorem dX0_clearColumn_47 : decode cX0_clearColumn 47 = .ok (.ifCond .eq 21, 3) := by decide +kernel
theorem dX0_clearColumn_50 : decode cX0_clearColumn 50 = .ok (.aload_n 0, 1) := by decide +kernel
theorem dX0_clearColumn_51 : decode cX0_clearColumn 51 = .ok (.aload_n 0, 1) := by decide +kernel
theorem dX0_clearColumn_52 : decode cX0_clearColumn 52 = .ok (.getfield 11, 3) := by decide +kernel
theorem dX0_clearColumn_55 : decode cX0_clearColumn 55 = .ok (.iload 5, 2) := by decide +kernel
theorem dX0_clearColumn_57 : decode cX0_clearColumn 57 = .ok (.aaload, 1) := by decide +kernel
theorem dX0_clearColumn_58 : decode cX0_clearColumn 58 = .ok (.aload_n 0, 1) := by decide +kernel
theorem dX0_clearColumn_59 : decode cX0_clearColumn 59 = .ok (.getfield 11, 3) := by decide +kernel
theorem dX0_clearColumn_62 : decode cX0_clearColumn 62 = .ok (.iload_n 2, 1) := by decide +kernel
theorem dX0_clearColumn_63 : decode cX0_clearColumn 63 = .ok (.aaload, 1) := by decide +kernel
theorem dX0_clearColumn_64 : decode cX0_clearColumn 64 = .ok (.iload_n 1, 1) := by decide +kernel
theorem dX0_clearColumn_65 : decode cX0_clearColumn 65 = .ok (.invokevirtual 93, 3) := by decide +kernel
theorem dX0_clearColumn_68 : decode cX0_clearColumn 68 = .ok (.iinc 5 1, 3) := by decide +kernel
theorem dX0_clearColumn_71 : decode cX0_clearColumn 71 = .ok (.goto (-59), 3) := by decide +kernel
theorem dX0_clearColumn_74 : decode cX0_clearColumn 74 = .ok (.aload_n 0, 1) := by decide +kernel
theorem dX0_clearColumn_75 : decode cX0_clearColumn 75 = .ok (.lload_n 3, 1) := by decide +kernel
theorem dX0_clearColumn_76 : decode cX0_clearColumn 76 = .ok (.putfield 78, 3) := by decide +kernel
theorem dX0_clearColumn_79 : decode cX0_clearColumn 79 = .ok (.return_, 1) := by decide +kernel
set_option maxRecDepth 20000 in
theorem ggX0_combine_X0_quotient : GoodIn wsX0_combine wsX0_quotient := goodIn_r _ [5] (by decide +kernel) (by decide +kernel)
set_option maxRecDepth 20000 in
theorem gX0_combine_X0_quotient : GoodIn wsX0_combine (va_wsS RX0 97 yX0_quotient wsX0_quotient) := goodIn_app (goodIn_of _ (by decide +kernel)) ggX0_combine_X0_quotient
theorem dX0_combine_0 : decode cX0_combine 0 = .ok (.aload_n 2, 1) := by decide +kernel
theorem dX0_combine_1 : decode cX0_combine 1 = .ok (.iload_n 3, 1) := by decide +kernel
theorem dX0_combine_2 : decode cX0_combine 2 = .ok (.laload, 1) := by decide +kernel
theorem dX0_combine_3 : decode cX0_combine 3 = .ok (.lstore 4, 2) := by decide +kernel
theorem dX0_combine_5 : decode cX0_combine 5 = .ok (.aload_n 1, 1) := by decide +kernel
theorem dX0_combine_6 : decode cX0_combine 6 = .ok (.iload_n 3, 1) := by decide +kernel
theorem dX0_combine_7 : decode cX0_combine 7 = .ok (.laload, 1) := by decide +kernel
theorem dX0_combine_8 : decode cX0_combine 8 = .ok (.lstore 6, 2) := by decide +kernel
theorem dX0_combine_10 : decode cX0_combine 10 = .ok (.iconst 0, 1) := by decide +kernel
theorem dX0_combine_11 : decode cX0_combine 11 = .ok (.istore 8, 2) := by decide +kernel
theorem dX0_combine_13 : decode cX0_combine 13 = .ok (.iload 8, 2) := by decide +kernel
theorem dX0_combine_15 : decode cX0_combine 15 = .ok (.bipush 25, 2) := by decide +kernel
theorem dX0_combine_17 : decode cX0_combine 17 = .ok (.if_icmp .gt 35, 3) := by decide +kernel
theorem dX0_combine_20 : decode cX0_combine 20 = .ok (.aload_n 1, 1) := by decide +kernel
theorem dX0_combine_21 : decode cX0_combine 21 = .ok (.iload 8, 2) := by decide +kernel
theorem dX0_combine_23 : decode cX0_combine 23 = .ok (.lload 4, 2) := by decide +kernel
theorem dX0_combine_25 : decode cX0_combine 25 = .ok (.aload_n 1, 1) := by decide +kernel
theorem dX0_combine_26 : decode cX0_combine 26 = .ok (.iload 8, 2) := by decide +kernel
theorem dX0_combine_28 : decode cX0_combine 28 = .ok (.laload, 1) := by decide +kernel
theorem dX0_combine_29 : decode cX0_combine 29 = .ok (.lmul, 1) := by decide +kernel
theorem dX0_combine_30 : decode cX0_combine 30 = .ok (.lload 6, 2) := by decide +kernel
theorem dX0_combine_32 : decode cX0_combine 32 = .ok (.aload_n 2, 1) := by decide +kernel
theorem dX0_combine_33 : decode cX0_combine 33 = .ok (.iload 8, 2) := by decide +kernel
theorem dX0_combine_35 : decode cX0_combine 35 = .ok (.laload, 1) := by decide +kernel
theorem dX0_combine_36 : decode cX0_combine 36 = .ok (.lmul, 1) := by decide +kernel
theorem dX0_combine_37 : decode cX0_combine 37 = .ok (.lsub, 1) := by decide +kernel
theorem dX0_combine_38 : decode cX0_combine 38 = .ok (.aload_n 0, 1) := by decide +kernel
theorem dX0_combine_39 : decode cX0_combine 39 = .ok (.getfield 78, 3) := by decide +kernel
theorem dX0_combine_42 : decode cX0_combine 42 = .ok (.invokestatic 97, 3) := by decide +kernel
theorem dX0_combine_45 : decode cX0_combine 45 = .ok (.lastore, 1) := by decide +kernel
theorem dX0_combine_46 : decode cX0_combine 46 = .ok (.iinc 8 1, 3) := by decide +kernel
theorem dX0_combine_49 : decode cX0_combine 49 = .ok (.goto (-36), 3) := by decide +kernel
theorem dX0_combine_52 : decode cX0_combine 52 = .ok (.return_, 1) := by decide +kernel
theorem dX0_quotient_0 : decode cX0_quotient 0 = .ok (.lload_n 2, 1) := by decide +kernel
theorem dX0_quotient_1 : decode cX0_quotient 1 = .ok (.lconst 0, 1) := by decide +kernel
theorem dX0_quotient_2 : decode cX0_quotient 2 = .ok (.lcmp, 1) := by decide +kernel
theorem dX0_quotient_3 : decode cX0_quotient 3 = .ok (.ifCond .ne 7, 3) := by decide +kernel
theorem dX0_quotient_6 : decode cX0_quotient 6 = .ok (.lconst 0, 1) := by decide +kernel
theorem dX0_quotient_7 : decode cX0_quotient 7 = .ok (.goto 6, 3) := by decide +kernel
theorem dX0_quotient_10 : decode cX0_quotient 10 = .ok (.lload_n 0, 1) := by decide +kernel
theorem dX0_quotient_11 : decode cX0_quotient 11 = .ok (.lload_n 2, 1) := by decide +kernel
theorem dX0_quotient_12 : decode cX0_quotient 12 = .ok (.ldiv, 1) := by decide +kernel
theorem dX0_quotient_13 : decode cX0_quotient 13 = .ok (.lreturn, 1) := by decide +kernel
theorem dX0_haveSolution_0 : decode cX0_haveSolution 0 = .ok (.iconst 0, 1) := by decide +kernel
theorem dX0_haveSolution_1 : decode cX0_haveSolution 1 = .ok (.istore_n 1, 1) := by decide +kernel
theorem dX0_haveSolution_2 : decode cX0_haveSolution 2 = .ok (.iload_n 1, 1) := by decide +kernel
theorem dX0_haveSolution_3 : decode cX0_haveSolution 3 = .ok (.aload_n 0, 1) := by decide +kernel
theorem dX0_haveSolution_4 : decode cX0_haveSolution 4 = .ok (.getfield 33, 3) := by decide +kernel
theorem dX0_haveSolution_7 : decode cX0_haveSolution 7 = .ok (.if_icmp .ge 35, 3) := by decide +kernel
theorem dX0_haveSolution_10 : decode cX0_haveSolution 10 = .ok (.aload_n 0, 1) := by decide +kernel
theorem dX0_haveSolution_11 : decode cX0_haveSolution 11 = .ok (.getfield 20, 3) := by decide +kernel
theorem dX0_haveSolution_14 : decode cX0_haveSolution 14 = .ok (.iload_n 1, 1) := by decide +kernel
theorem dX0_haveSolution_15 : decode cX0_haveSolution 15 = .ok (.iaload, 1) := by decide +kernel
theorem dX0_haveSolution_16 : decode cX0_haveSolution 16 = .ok (.iconst (-1), 1) := by decide +kernel
theorem dX0_haveSolution_17 : decode cX0_haveSolution 17 = .ok (.if_icmp .ne 19, 3) := by decide +kernel
theorem dX0_haveSolution_20 : decode cX0_haveSolution 20 = .ok (.aload_n 0, 1) := by decide +kernel
theorem dX0_haveSolution_21 : decode cX0_haveSolution 21 = .ok (.getfield 11, 3) := by decide +kernel
theorem dX0_haveSolution_24 : decode cX0_haveSolution 24 = .ok (.iload_n 1, 1) := by decide +kernel
theorem dX0_haveSolution_25 : decode cX0_haveSolution 25 = .ok (.aaload, 1) := by decide +kernel
theorem dX0_haveSolution_26 : decode cX0_haveSolution 26 = .ok (.bipush 25, 2) := by decide +kernel
theorem dX0_haveSolution_28 : decode cX0_haveSolution 28 = .ok (.laload, 1) := by decide +kernel
theorem dX0_haveSolution_29 : decode cX0_haveSolution 29 = .ok (.lconst 0, 1) := by decide +kernel
theorem dX0_haveSolution_30 : decode cX0_haveSolution 30 = .ok (.lcmp, 1) := by decide +kernel
theorem dX0_haveSolution_31 : decode cX0_haveSolution 31 = .ok (.ifCond .eq 5, 3) := by decide +kernel
theorem dX0_haveSolution_34 : decode cX0_haveSolution 34 = .ok (.iconst 0, 1) := by decide +kernel
theorem dX0_haveSolution_35 : decode cX0_haveSolution 35 = .ok (.ireturn, 1) := by decide +kernel
theorem dX0_haveSolution_36 : decode cX0_haveSolution 36 = .ok (.iinc 1 1, 3) := by decide +kernel
theorem dX0_haveSolution_39 : decode cX0_haveSolution 39 = .ok (.goto (-37), 3) := by decide +kernel
theorem dX0_haveSolution_42 : decode cX0_haveSolution 42 = .ok (.iconst 1, 1) := by decide +kernel
theorem dX0_haveSolution_43 : decode cX0_haveSolution 43 = .ok (.ireturn, 1) := by decide +kernel
set_option maxRecDepth 20000 in
theorem ggX0_determine_X0_firstFreePart : GoodIn wsX0_determine wsX0_firstFreePart := goodIn_r _ [5, 6, 7, 8, 4, 9, 10, 11, 12, 13, 14, 15, 16, 17, 18, 19, 20] (by decide +kernel) (by decide +kernel)
set_option maxRecDepth 20000 in
theorem gX0_determine_X0_firstFreePart : GoodIn wsX0_determine (wsV RX0 101 RX0 yX0_firstFreePart wsX0_firstFreePart) := goodIn_app (goodIn_of _ (by decide +kernel)) ggX0_determine_X0_firstFreePart
theorem dX0_determine_0 : decode cX0_determine 0 = .ok (.aload_n 0, 1) := by decide +kernel
theorem dX0_determine_1 : decode cX0_determine 1 = .ok (.iload_n 1, 1) := by decide +kernel
theorem dX0_determine_2 : decode cX0_determine 2 = .ok (.invokevirtual 101, 3) := by decide +kernel
theorem dX0_determine_5 : decode cX0_determine 5 = .ok (.iconst (-1), 1) := by decide +kernel
theorem dX0_determine_6 : decode cX0_determine 6 = .ok (.if_icmp .ne 7, 3) := by decide +kernel
theorem dX0_determine_9 : decode cX0_determine 9 = .ok (.iconst 1, 1) := by decide +kernel
theorem dX0_determine_10 : decode cX0_determine 10 = .ok (.goto 4, 3) := by decide +kernel
theorem dX0_determine_13 : decode cX0_determine 13 = .ok (.iconst 0, 1) := by decide +kernel
theorem dX0_determine_14 : decode cX0_determine 14 = .ok (.ireturn, 1) := by decide +kernel
set_option maxRecDepth 20000 in
theorem ggX0_determineWith_X0_firstFreePart : GoodIn wsX0_determineWith wsX0_firstFreePart := goodIn_r _ [5, 6, 7, 8, 4, 9, 10, 11, 12, 17, 18, 19, 20, 21, 22, 23, 24] (by decide +kernel) (by decide +kernel)
set_option maxRecDepth 20000 in
theorem gX0_determineWith_X0_firstFreePart : GoodIn wsX0_determineWith (wsV RX0 101 RX0 yX0_firstFreePart wsX0_firstFreePart) := goodIn_app (goodIn_of _ (by decide +kernel)) ggX0_determineWith_X0_firstFreePart
set_option maxRecDepth 20000 in
theorem ggX0_determineWith_X0_determine : GoodIn wsX0_determineWith wsX0_determine := goodIn_r _ [16, 1, 2, 3, 4, 5, 6, 7, 8, 9, 10, 11, 12, 17, 18, 19, 20, 21, 22, 23, 24] (by decide +kernel) (by decide +kernel)
set_option maxRecDepth 20000 in
theorem gX0_determineWith_X0_determine : GoodIn wsX0_determineWith (wsV RX0 104 RX0 yX0_determine wsX0_determine) := goodIn_app (goodIn_of _ (by decide +kernel)) ggX0_determineWith_X0_determine
set_option maxRecDepth 20000 in
theorem ggX0_determineWith_X0_freePart : GoodIn wsX0_determineWith wsX0_freePart := goodIn_r _ [9, 10, 11, 12, 17, 18, 19, 20, 21, 22, 23, 24] (by decide +kernel) (by decide +kernel)
set_option maxRecDepth 20000 in
theorem gX0_determineWith_X0_freePart : GoodIn wsX0_determineWith (wsV RX0 107 RX0 yX0_freePart wsX0_freePart) := goodIn_app (goodIn_of _ (by decide +kernel)) ggX0_determineWith_X0_freePart
theorem dX0_determineWith_0 : decode cX0_determineWith 0 = .ok (.aload_n 0, 1) := by decide +kernel
theorem dX0_determineWith_1 : decode cX0_determineWith 1 = .ok (.iload_n 1, 1) := by decide +kernel
theorem dX0_determineWith_2 : decode cX0_determineWith 2 = .ok (.invokevirtual 101, 3) := by decide +kernel
theorem dX0_determineWith_5 : decode cX0_determineWith 5 = .ok (.istore_n 3, 1) := by decide +kernel
theorem dX0_determineWith_6 : decode cX0_determineWith 6 = .ok (.iload_n 3, 1) := by decide +kernel
theorem dX0_determineWith_7 : decode cX0_determineWith 7 = .ok (.iconst (-1), 1) := by decide +kernel
theorem dX0_determineWith_8 : decode cX0_determineWith 8 = .ok (.if_icmp .ne 9, 3) := by decide +kernel
theorem dX0_determineWith_11 : decode cX0_determineWith 11 = .ok (.aload_n 0, 1) := by decide +kernel
theorem dX0_determineWith_12 : decode cX0_determineWith 12 = .ok (.iload_n 2, 1) := by decide +kernel
theorem dX0_determineWith_13 : decode cX0_determineWith 13 = .ok (.invokevirtual 104, 3) := by decide +kernel
theorem dX0_determineWith_16 : decode cX0_determineWith 16 = .ok (.ireturn, 1) := by decide +kernel
theorem dX0_determineWith_17 : decode cX0_determineWith 17 = .ok (.iconst 0, 1) := by decide +kernel
theorem dX0_determineWith_18 : decode cX0_determineWith 18 = .ok (.istore 4, 2) := by decide +kernel
theorem dX0_determineWith_20 : decode cX0_determineWith 20 = .ok (.iload 4, 2) := by decide +kernel
theorem dX0_determineWith_22 : decode cX0_determineWith 22 = .ok (.bipush 25, 2) := by decide +kernel
theorem dX0_determineWith_24 : decode cX0_determineWith 24 = .ok (.if_icmp .ge 43, 3) := by decide +kernel
theorem dX0_determineWith_27 : decode cX0_determineWith 27 = .ok (.aload_n 0, 1) := by decide +kernel
theorem dX0_determineWith_28 : decode cX0_determineWith 28 = .ok (.iload_n 2, 1) := by decide +kernel
theorem dX0_determineWith_29 : decode cX0_determineWith 29 = .ok (.iload 4, 2) := by decide +kernel
theorem dX0_determineWith_31 : decode cX0_determineWith 31 = .ok (.invokevirtual 107, 3) := by decide +kernel
theorem dX0_determineWith_34 : decode cX0_determineWith 34 = .ok (.aload_n 0, 1) := by decide +kernel
theorem dX0_determineWith_35 : decode cX0_determineWith 35 = .ok (.iload_n 1, 1) := by decide +kernel
theorem dX0_determineWith_36 : decode cX0_determineWith 36 = .ok (.iload_n 3, 1) := by decide +kernel
theorem dX0_determineWith_37 : decode cX0_determineWith 37 = .ok (.invokevirtual 107, 3) := by decide +kernel
theorem dX0_determineWith_40 : decode cX0_determineWith 40 = .ok (.lmul, 1) := by decide +kernel
theorem dX0_determineWith_41 : decode cX0_determineWith 41 = .ok (.aload_n 0, 1) := by decide +kernel
theorem dX0_determineWith_42 : decode cX0_determineWith 42 = .ok (.iload_n 2, 1) := by decide +kernel
theorem dX0_determineWith_43 : decode cX0_determineWith 43 = .ok (.iload_n 3, 1) := by decide +kernel
theorem dX0_determineWith_44 : decode cX0_determineWith 44 = .ok (.invokevirtual 107, 3) := by decide +kernel
theorem dX0_determineWith_47 : decode cX0_determineWith 47 = .ok (.aload_n 0, 1) := by decide +kernel
theorem dX0_determineWith_48 : decode cX0_determineWith 48 = .ok (.iload_n 1, 1) := by decide +kernel
theorem dX0_determineWith_49 : decode cX0_determineWith 49 = .ok (.iload 4, 2) := by decide +kernel
theorem dX0_determineWith_51 : decode cX0_determineWith 51 = .ok (.invokevirtual 107, 3) := by decide +kernel
theorem dX0_determineWith_54 : decode cX0_determineWith 54 = .ok (.lmul, 1) := by decide +kernel
theorem dX0_determineWith_55 : decode cX0_determineWith 55 = .ok (.lcmp, 1) := by decide +kernel
theorem dX0_determineWith_56 : decode cX0_determineWith 56 = .ok (.ifCond .eq 5, 3) := by decide +kernel
theorem dX0_determineWith_59 : decode cX0_determineWith 59 = .ok (.iconst 0, 1) := by decide +kernel
theorem dX0_determineWith_60 : decode cX0_determineWith 60 = .ok (.ireturn, 1) := by decide +kernel
theorem dX0_determineWith_61 : decode cX0_determineWith 61 = .ok (.iinc 4 1, 3) := by decide +kernel
theorem dX0_determineWith_64 : decode cX0_determineWith 64 = .ok (.goto (-44), 3) := by decide +kernel
theorem dX0_determineWith_67 : decode cX0_determineWith 67 = .ok (.iconst 1, 1) := by decide +kernel
theorem dX0_determineWith_68 : decode cX0_determineWith 68 = .ok (.ireturn, 1) := by decide +kernel
set_option maxRecDepth 20000 in
theorem ggX0_firstFreePart_X0_freePart : GoodIn wsX0_firstFreePart wsX0_freePart := goodIn_r _ [5, 6, 7, 8, 9, 10, 11, 12, 13, 14, 15, 16] (by decide +kernel) (by decide +kernel)
set_option maxRecDepth 20000 in
theorem gX0_firstFreePart_X0_freePart : GoodIn wsX0_firstFreePart (wsV RX0 107 RX0 yX0_freePart wsX0_freePart) := goodIn_app (goodIn_of _ (by decide +kernel)) ggX0_firstFreePart_X0_freePart
theorem dX0_firstFreePart_0 : decode cX0_firstFreePart 0 = .ok (.iconst 0, 1) := by decide +kernel
theorem dX0_firstFreePart_1 : decode cX0_firstFreePart 1 = .ok (.istore_n 2, 1) := by decide +kernel
theorem dX0_firstFreePart_2 : decode cX0_firstFreePart 2 = .ok (.iload_n 2, 1) := by decide +kernel
theorem dX0_firstFreePart_3 : decode cX0_firstFreePart 3 = .ok (.bipush 25, 2) := by decide +kernel
theorem dX0_firstFreePart_5 : decode cX0_firstFreePart 5 = .ok (.if_icmp .ge 22, 3) := by decide +kernel
theorem dX0_firstFreePart_8 : decode cX0_firstFreePart 8 = .ok (.aload_n 0, 1) := by decide +kernel
theorem dX0_firstFreePart_9 : decode cX0_firstFreePart 9 = .ok (.iload_n 1, 1) := by decide +kernel
theorem dX0_firstFreePart_10 : decode cX0_firstFreePart 10 = .ok (.iload_n 2, 1) := by decide +kernel
theorem dX0_firstFreePart_11 : decode cX0_firstFreePart 11 = .ok (.invokevirtual 107, 3) := by decide +kernel
theorem dX0_firstFreePart_14 : decode cX0_firstFreePart 14 = .ok (.lconst 0, 1) := by decide +kernel
theorem dX0_firstFreePart_15 : decode cX0_firstFreePart 15 = .ok (.lcmp, 1) := by decide +kernel
theorem dX0_firstFreePart_16 : decode cX0_firstFreePart 16 = .ok (.ifCond .eq 5, 3) := by decide +kernel
theorem dX0_firstFreePart_19 : decode cX0_firstFreePart 19 = .ok (.iload_n 2, 1) := by decide +kernel
theorem dX0_firstFreePart_20 : decode cX0_firstFreePart 20 = .ok (.ireturn, 1) := by decide +kernel
theorem dX0_firstFreePart_21 : decode cX0_firstFreePart 21 = .ok (.iinc 2 1, 3) := by decide +kernel
theorem dX0_firstFreePart_24 : decode cX0_firstFreePart 24 = .ok (.goto (-22), 3) := by decide +kernel
theorem dX0_firstFreePart_27 : decode cX0_firstFreePart 27 = .ok (.iconst (-1), 1) := by decide +kernel
theorem dX0_firstFreePart_28 : decode cX0_firstFreePart 28 = .ok (.ireturn, 1) := by decide +kernel
theorem dX0_freePart_0 : decode cX0_freePart 0 = .ok (.aload_n 0, 1) := by decide +kernel
theorem dX0_freePart_1 : decode cX0_freePart 1 = .ok (.getfield 23, 3) := by decide +kernel
theorem dX0_freePart_4 : decode cX0_freePart 4 = .ok (.iload_n 1, 1) := by decide +kernel
theorem dX0_freePart_5 : decode cX0_freePart 5 = .ok (.baload, 1) := by decide +kernel
theorem dX0_freePart_6 : decode cX0_freePart 6 = .ok (.ifCond .eq 5, 3) := by decide +kernel
theorem dX0_freePart_9 : decode cX0_freePart 9 = .ok (.lconst 0, 1) := by decide +kernel
theorem dX0_freePart_10 : decode cX0_freePart 10 = .ok (.lreturn, 1) := by decide +kernel
theorem dX0_freePart_11 : decode cX0_freePart 11 = .ok (.aload_n 0, 1) := by decide +kernel
theorem dX0_freePart_12 : decode cX0_freePart 12 = .ok (.getfield 16, 3) := by decide +kernel
theorem dX0_freePart_15 : decode cX0_freePart 15 = .ok (.iload_n 1, 1) := by decide +kernel
theorem dX0_freePart_16 : decode cX0_freePart 16 = .ok (.iaload, 1) := by decide +kernel
theorem dX0_freePart_17 : decode cX0_freePart 17 = .ok (.istore_n 3, 1) := by decide +kernel
theorem dX0_freePart_18 : decode cX0_freePart 18 = .ok (.iload_n 3, 1) := by decide +kernel
theorem dX0_freePart_19 : decode cX0_freePart 19 = .ok (.iconst (-1), 1) := by decide +kernel
theorem dX0_freePart_20 : decode cX0_freePart 20 = .ok (.if_icmp .ne 14, 3) := by decide +kernel
theorem dX0_freePart_23 : decode cX0_freePart 23 = .ok (.iload_n 1, 1) := by decide +kernel
theorem dX0_freePart_24 : decode cX0_freePart 24 = .ok (.iload_n 2, 1) := by decide +kernel
theorem dX0_freePart_25 : decode cX0_freePart 25 = .ok (.if_icmp .ne 7, 3) := by decide +kernel
theorem dX0_freePart_28 : decode cX0_freePart 28 = .ok (.lconst 1, 1) := by decide +kernel
theorem dX0_freePart_29 : decode cX0_freePart 29 = .ok (.goto 4, 3) := by decide +kernel
theorem dX0_freePart_32 : decode cX0_freePart 32 = .ok (.lconst 0, 1) := by decide +kernel
theorem dX0_freePart_33 : decode cX0_freePart 33 = .ok (.lreturn, 1) := by decide +kernel
theorem dX0_freePart_34 : decode cX0_freePart 34 = .ok (.iload_n 1, 1) := by decide +kernel
theorem dX0_freePart_35 : decode cX0_freePart 35 = .ok (.iload_n 2, 1) := by decide +kernel
theorem dX0_freePart_36 : decode cX0_freePart 36 = .ok (.if_icmp .ne 7, 3) := by decide +kernel
theorem dX0_freePart_39 : decode cX0_freePart 39 = .ok (.lconst 0, 1) := by decide +kernel
theorem dX0_freePart_40 : decode cX0_freePart 40 = .ok (.goto 11, 3) := by decide +kernel
theorem dX0_freePart_43 : decode cX0_freePart 43 = .ok (.aload_n 0, 1) := by decide +kernel
theorem dX0_freePart_44 : decode cX0_freePart 44 = .ok (.getfield 11, 3) := by decide +kernel
theorem dX0_freePart_47 : decode cX0_freePart 47 = .ok (.iload_n 3, 1) := by decide +kernel
theorem dX0_freePart_48 : decode cX0_freePart 48 = .ok (.aaload, 1) := by decide +kernel
theorem dX0_freePart_49 : decode cX0_freePart 49 = .ok (.iload_n 2, 1) := by decide +kernel
theorem dX0_freePart_50 : decode cX0_freePart 50 = .ok (.laload, 1) := by decide +kernel
theorem dX0_freePart_51 : decode cX0_freePart 51 = .ok (.lreturn, 1) := by decide +kernel
set_option maxRecDepth 20000 in
theorem ggX0_numeratorOf_X0_divisorOfPivotAnd : GoodIn wsX0_numeratorOf wsX0_divisorOfPivotAnd := goodIn_r _ [9, 4, 10, 11, 12, 13, 17, 18, 19, 20, 21, 22, 23, 24] (by decide +kernel) (by decide +kernel)
set_option maxRecDepth 20000 in
theorem gX0_numeratorOf_X0_divisorOfPivotAnd : GoodIn wsX0_numeratorOf (wsV RX0 111 RX0 yX0_divisorOfPivotAnd wsX0_divisorOfPivotAnd) := goodIn_app (goodIn_of _ (by decide +kernel)) ggX0_numeratorOf_X0_divisorOfPivotAnd
set_option maxRecDepth 20000 in
theorem ggX0_numeratorOf_X0_quotient : GoodIn wsX0_numeratorOf wsX0_quotient := goodIn_r _ [16] (by decide +kernel) (by decide +kernel)
set_option maxRecDepth 20000 in
theorem gX0_numeratorOf_X0_quotient : GoodIn wsX0_numeratorOf (va_wsS RX0 97 yX0_quotient wsX0_quotient) := goodIn_app (goodIn_of _ (by decide +kernel)) ggX0_numeratorOf_X0_quotient
theorem dX0_numeratorOf_0 : decode cX0_numeratorOf 0 = .ok (.aload_n 0, 1) := by decide +kernel
theorem dX0_numeratorOf_1 : decode cX0_numeratorOf 1 = .ok (.getfield 16, 3) := by decide +kernel
theorem dX0_numeratorOf_4 : decode cX0_numeratorOf 4 = .ok (.iload_n 1, 1) := by decide +kernel
theorem dX0_numeratorOf_5 : decode cX0_numeratorOf 5 = .ok (.iaload, 1) := by decide +kernel
theorem dX0_numeratorOf_6 : decode cX0_numeratorOf 6 = .ok (.istore_n 3, 1) := by decide +kernel
theorem dX0_numeratorOf_7 : decode cX0_numeratorOf 7 = .ok (.iload_n 3, 1) := by decide +kernel
theorem dX0_numeratorOf_8 : decode cX0_numeratorOf 8 = .ok (.iconst (-1), 1) := by decide +kernel
theorem dX0_numeratorOf_9 : decode cX0_numeratorOf 9 = .ok (.if_icmp .ne 11, 3) := by decide +kernel
theorem dX0_numeratorOf_12 : decode cX0_numeratorOf 12 = .ok (.aload_n 2, 1) := by decide +kernel
theorem dX0_numeratorOf_13 : decode cX0_numeratorOf 13 = .ok (.getfield 72, 3) := by decide +kernel
theorem dX0_numeratorOf_16 : decode cX0_numeratorOf 16 = .ok (.iload_n 1, 1) := by decide +kernel
theorem dX0_numeratorOf_17 : decode cX0_numeratorOf 17 = .ok (.iaload, 1) := by decide +kernel
theorem dX0_numeratorOf_18 : decode cX0_numeratorOf 18 = .ok (.i2l, 1) := by decide +kernel
theorem dX0_numeratorOf_19 : decode cX0_numeratorOf 19 = .ok (.lreturn, 1) := by decide +kernel
theorem dX0_numeratorOf_20 : decode cX0_numeratorOf 20 = .ok (.aload_n 0, 1) := by decide +kernel
theorem dX0_numeratorOf_21 : decode cX0_numeratorOf 21 = .ok (.getfield 11, 3) := by decide +kernel
theorem dX0_numeratorOf_24 : decode cX0_numeratorOf 24 = .ok (.iload_n 3, 1) := by decide +kernel
theorem dX0_numeratorOf_25 : decode cX0_numeratorOf 25 = .ok (.aaload, 1) := by decide +kernel
theorem dX0_numeratorOf_26 : decode cX0_numeratorOf 26 = .ok (.bipush 25, 2) := by decide +kernel
theorem dX0_numeratorOf_28 : decode cX0_numeratorOf 28 = .ok (.laload, 1) := by decide +kernel
theorem dX0_numeratorOf_29 : decode cX0_numeratorOf 29 = .ok (.lstore 4, 2) := by decide +kernel
theorem dX0_numeratorOf_31 : decode cX0_numeratorOf 31 = .ok (.aload_n 0, 1) := by decide +kernel
theorem dX0_numeratorOf_32 : decode cX0_numeratorOf 32 = .ok (.getfield 78, 3) := by decide +kernel
theorem dX0_numeratorOf_35 : decode cX0_numeratorOf 35 = .ok (.lconst 0, 1) := by decide +kernel
theorem dX0_numeratorOf_36 : decode cX0_numeratorOf 36 = .ok (.lcmp, 1) := by decide +kernel
theorem dX0_numeratorOf_37 : decode cX0_numeratorOf 37 = .ok (.ifCond .ge 9, 3) := by decide +kernel
theorem dX0_numeratorOf_40 : decode cX0_numeratorOf 40 = .ok (.lload 4, 2) := by decide +kernel
theorem dX0_numeratorOf_42 : decode cX0_numeratorOf 42 = .ok (.lneg, 1) := by decide +kernel
theorem dX0_numeratorOf_43 : decode cX0_numeratorOf 43 = .ok (.goto 5, 3) := by decide +kernel
theorem dX0_numeratorOf_46 : decode cX0_numeratorOf 46 = .ok (.lload 4, 2) := by decide +kernel
theorem dX0_numeratorOf_48 : decode cX0_numeratorOf 48 = .ok (.aload_n 0, 1) := by decide +kernel
theorem dX0_numeratorOf_49 : decode cX0_numeratorOf 49 = .ok (.lload 4, 2) := by decide +kernel
theorem dX0_numeratorOf_51 : decode cX0_numeratorOf 51 = .ok (.invokevirtual 111, 3) := by decide +kernel
theorem dX0_numeratorOf_54 : decode cX0_numeratorOf 54 = .ok (.invokestatic 97, 3) := by decide +kernel
theorem dX0_numeratorOf_57 : decode cX0_numeratorOf 57 = .ok (.lreturn, 1) := by decide +kernel
set_option maxRecDepth 20000 in
theorem ggX0_denominatorOf_X0_divisorOfPivotAnd : GoodIn wsX0_denominatorOf wsX0_divisorOfPivotAnd := goodIn_r _ [12, 2, 3, 4, 5, 6, 16, 17, 18, 19, 20, 21, 22, 23] (by decide +kernel) (by decide +kernel)
set_option maxRecDepth 20000 in
theorem gX0_denominatorOf_X0_divisorOfPivotAnd : GoodIn wsX0_denominatorOf (wsV RX0 111 RX0 yX0_divisorOfPivotAnd wsX0_divisorOfPivotAnd) := goodIn_app (goodIn_of _ (by decide +kernel)) ggX0_denominatorOf_X0_divisorOfPivotAnd
set_option maxRecDepth 20000 in
theorem ggX0_denominatorOf_X0_quotient : GoodIn wsX0_denominatorOf wsX0_quotient := goodIn_r _ [15] (by decide +kernel) (by decide +kernel)
set_option maxRecDepth 20000 in
theorem gX0_denominatorOf_X0_quotient : GoodIn wsX0_denominatorOf (va_wsS RX0 97 yX0_quotient wsX0_quotient) := goodIn_app (goodIn_of _ (by decide +kernel)) ggX0_denominatorOf_X0_quotient
theorem dX0_denominatorOf_0 : decode cX0_denominatorOf 0 = .ok (.aload_n 0, 1) := by decide +kernel
theorem dX0_denominatorOf_1 : decode cX0_denominatorOf 1 = .ok (.getfield 16, 3) := by decide +kernel
theorem dX0_denominatorOf_4 : decode cX0_denominatorOf 4 = .ok (.iload_n 1, 1) := by decide +kernel
theorem dX0_denominatorOf_5 : decode cX0_denominatorOf 5 = .ok (.iaload, 1) := by decide +kernel
theorem dX0_denominatorOf_6 : decode cX0_denominatorOf 6 = .ok (.istore_n 2, 1) := by decide +kernel
theorem dX0_denominatorOf_7 : decode cX0_denominatorOf 7 = .ok (.iload_n 2, 1) := by decide +kernel
theorem dX0_denominatorOf_8 : decode cX0_denominatorOf 8 = .ok (.iconst (-1), 1) := by decide +kernel
theorem dX0_denominatorOf_9 : decode cX0_denominatorOf 9 = .ok (.if_icmp .ne 5, 3) := by decide +kernel
theorem dX0_denominatorOf_12 : decode cX0_denominatorOf 12 = .ok (.lconst 1, 1) := by decide +kernel
theorem dX0_denominatorOf_13 : decode cX0_denominatorOf 13 = .ok (.lreturn, 1) := by decide +kernel
theorem dX0_denominatorOf_14 : decode cX0_denominatorOf 14 = .ok (.aload_n 0, 1) := by decide +kernel
theorem dX0_denominatorOf_15 : decode cX0_denominatorOf 15 = .ok (.getfield 78, 3) := by decide +kernel
theorem dX0_denominatorOf_18 : decode cX0_denominatorOf 18 = .ok (.invokestatic 115, 3) := by decide +kernel
theorem dX0_denominatorOf_21 : decode cX0_denominatorOf 21 = .ok (.aload_n 0, 1) := by decide +kernel
theorem dX0_denominatorOf_22 : decode cX0_denominatorOf 22 = .ok (.aload_n 0, 1) := by decide +kernel
theorem dX0_denominatorOf_23 : decode cX0_denominatorOf 23 = .ok (.getfield 11, 3) := by decide +kernel
theorem dX0_denominatorOf_26 : decode cX0_denominatorOf 26 = .ok (.iload_n 2, 1) := by decide +kernel
theorem dX0_denominatorOf_27 : decode cX0_denominatorOf 27 = .ok (.aaload, 1) := by decide +kernel
theorem dX0_denominatorOf_28 : decode cX0_denominatorOf 28 = .ok (.bipush 25, 2) := by decide +kernel
theorem dX0_denominatorOf_30 : decode cX0_denominatorOf 30 = .ok (.laload, 1) := by decide +kernel
theorem dX0_denominatorOf_31 : decode cX0_denominatorOf 31 = .ok (.invokevirtual 111, 3) := by decide +kernel
theorem dX0_denominatorOf_34 : decode cX0_denominatorOf 34 = .ok (.invokestatic 97, 3) := by decide +kernel
theorem dX0_denominatorOf_37 : decode cX0_denominatorOf 37 = .ok (.lreturn, 1) := by decide +kernel
theorem dX0_divisorOfPivotAnd_0 : decode cX0_divisorOfPivotAnd 0 = .ok (.aload_n 0, 1) := by decide +kernel
theorem dX0_divisorOfPivotAnd_1 : decode cX0_divisorOfPivotAnd 1 = .ok (.getfield 78, 3) := by decide +kernel
theorem dX0_divisorOfPivotAnd_4 : decode cX0_divisorOfPivotAnd 4 = .ok (.invokestatic 115, 3) := by decide +kernel
theorem dX0_divisorOfPivotAnd_7 : decode cX0_divisorOfPivotAnd 7 = .ok (.lstore_n 3, 1) := by decide +kernel
theorem dX0_divisorOfPivotAnd_8 : decode cX0_divisorOfPivotAnd 8 = .ok (.lload_n 1, 1) := by decide +kernel
theorem dX0_divisorOfPivotAnd_9 : decode cX0_divisorOfPivotAnd 9 = .ok (.invokestatic 115, 3) := by decide +kernel
theorem dX0_divisorOfPivotAnd_12 : decode cX0_divisorOfPivotAnd 12 = .ok (.lstore 5, 2) := by decide +kernel
theorem dX0_divisorOfPivotAnd_14 : decode cX0_divisorOfPivotAnd 14 = .ok (.iconst 0, 1) := by decide +kernel
theorem dX0_divisorOfPivotAnd_15 : decode cX0_divisorOfPivotAnd 15 = .ok (.istore 7, 2) := by decide +kernel
theorem dX0_divisorOfPivotAnd_17 : decode cX0_divisorOfPivotAnd 17 = .ok (.iload 7, 2) := by decide +kernel
theorem dX0_divisorOfPivotAnd_19 : decode cX0_divisorOfPivotAnd 19 = .ok (.bipush 100, 2) := by decide +kernel
theorem dX0_divisorOfPivotAnd_21 : decode cX0_divisorOfPivotAnd 21 = .ok (.if_icmp .ge 29, 3) := by decide +kernel
theorem dX0_divisorOfPivotAnd_24 : decode cX0_divisorOfPivotAnd 24 = .ok (.lload 5, 2) := by decide +kernel
theorem dX0_divisorOfPivotAnd_26 : decode cX0_divisorOfPivotAnd 26 = .ok (.lconst 0, 1) := by decide +kernel
theorem dX0_divisorOfPivotAnd_27 : decode cX0_divisorOfPivotAnd 27 = .ok (.lcmp, 1) := by decide +kernel
theorem dX0_divisorOfPivotAnd_28 : decode cX0_divisorOfPivotAnd 28 = .ok (.ifCond .eq 22, 3) := by decide +kernel
theorem dX0_divisorOfPivotAnd_31 : decode cX0_divisorOfPivotAnd 31 = .ok (.lload_n 3, 1) := by decide +kernel
theorem dX0_divisorOfPivotAnd_32 : decode cX0_divisorOfPivotAnd 32 = .ok (.lload 5, 2) := by decide +kernel
theorem dX0_divisorOfPivotAnd_34 : decode cX0_divisorOfPivotAnd 34 = .ok (.lrem, 1) := by decide +kernel
theorem dX0_divisorOfPivotAnd_35 : decode cX0_divisorOfPivotAnd 35 = .ok (.lstore 8, 2) := by decide +kernel
theorem dX0_divisorOfPivotAnd_37 : decode cX0_divisorOfPivotAnd 37 = .ok (.lload 5, 2) := by decide +kernel
theorem dX0_divisorOfPivotAnd_39 : decode cX0_divisorOfPivotAnd 39 = .ok (.lstore_n 3, 1) := by decide +kernel
theorem dX0_divisorOfPivotAnd_40 : decode cX0_divisorOfPivotAnd 40 = .ok (.lload 8, 2) := by decide +kernel
theorem dX0_divisorOfPivotAnd_42 : decode cX0_divisorOfPivotAnd 42 = .ok (.lstore 5, 2) := by decide +kernel
theorem dX0_divisorOfPivotAnd_44 : decode cX0_divisorOfPivotAnd 44 = .ok (.iinc 7 1, 3) := by decide +kernel
theorem dX0_divisorOfPivotAnd_47 : decode cX0_divisorOfPivotAnd 47 = .ok (.goto (-30), 3) := by decide +kernel
theorem dX0_divisorOfPivotAnd_50 : decode cX0_divisorOfPivotAnd 50 = .ok (.lload_n 3, 1) := by decide +kernel
theorem dX0_divisorOfPivotAnd_51 : decode cX0_divisorOfPivotAnd 51 = .ok (.lreturn, 1) := by decide +kernel
