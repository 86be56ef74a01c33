set_option maxRecDepth 20000 in
theorem ggX4_init_X3_init : GoodIn wsX4_init wsX3_init := goodIn_r _ [23, 24, 2, 3, 8, 25, 26, 27, 28, 29, 30, 31, 69, 70, 71, 72, 73, 74, 75, 76] (by decide +kernel) (by decide +kernel)
set_option maxRecDepth 20000 in
theorem gX4_init_X3_init_n13 : GoodIn wsX4_init (wsX3_init) := ggX4_init_X3_init
set_option maxRecDepth 20000 in
theorem ggX4_init_X2_init : GoodIn wsX4_init wsX2_init := goodIn_r _ [33, 34, 2, 3, 8, 35, 36, 37, 38, 82, 83, 84, 85] (by decide +kernel) (by decide +kernel)
set_option maxRecDepth 20000 in
theorem gX4_init_X2_init_n24 : GoodIn wsX4_init (wsX2_init) := ggX4_init_X2_init
set_option maxRecDepth 20000 in
theorem ggX4_init_X0_init : GoodIn wsX4_init wsX0_init := goodIn_r _ [40, 41, 2, 3, 42, 43, 44, 8, 45, 46, 47, 48, 86, 87, 88, 89, 90, 91, 92, 93] (by decide +kernel) (by decide +kernel)
set_option maxRecDepth 20000 in
theorem gX4_init_X0_init_n31 : GoodIn wsX4_init (wsX0_init) := ggX4_init_X0_init
set_option maxRecDepth 20000 in
theorem ggX4_init_X1_init : GoodIn wsX4_init wsX1_init := goodIn_r _ [50, 51, 2, 3, 43, 52, 53, 94, 95] (by decide +kernel) (by decide +kernel)
set_option maxRecDepth 20000 in
theorem gX4_init_X1_init_n38 : GoodIn wsX4_init (wsX1_init) := ggX4_init_X1_init
set_option maxRecDepth 20000 in
theorem ggX4_init_X3_startAnew : GoodIn wsX4_init wsX3_startAnew := goodIn_r _ [57, 58, 59, 28, 60, 61, 62, 63, 69, 70, 71, 72, 73, 74, 75, 76] (by decide +kernel) (by decide +kernel)
set_option maxRecDepth 20000 in
theorem gX4_init_X3_startAnew : GoodIn wsX4_init (wsV RX4 43 RX3 yX3_startAnew wsX3_startAnew) := goodIn_app (goodIn_of _ (by decide +kernel)) ggX4_init_X3_startAnew
set_option maxRecDepth 20000 in
theorem ggX4_init_X2_startAnew : GoodIn wsX4_init wsX2_startAnew := goodIn_r _ [67, 35, 36, 37, 38, 68, 61, 62, 63, 82, 83, 84, 85] (by decide +kernel) (by decide +kernel)
set_option maxRecDepth 20000 in
theorem gX4_init_X2_startAnew : GoodIn wsX4_init (wsV RX4 47 RX2 yX2_startAnew wsX2_startAnew) := goodIn_app (goodIn_of _ (by decide +kernel)) ggX4_init_X2_startAnew
theorem dX4_init_0 : decode cX4_init 0 = .ok (.aload_n 0, 1) := by decide +kernel
theorem dX4_init_1 : decode cX4_init 1 = .ok (.invokespecial 5, 3) := by decide +kernel
theorem dX4_init_4 : decode cX4_init 4 = .ok (.aload_n 0, 1) := by decide +kernel
theorem dX4_init_5 : decode cX4_init 5 = .ok (.new 11, 3) := by decide +kernel
theorem dX4_init_8 : decode cX4_init 8 = .ok (.dup, 1) := by decide +kernel
theorem dX4_init_9 : decode cX4_init 9 = .ok (.invokespecial 13, 3) := by decide +kernel
theorem dX4_init_12 : decode cX4_init 12 = .ok (.putfield 14, 3) := by decide +kernel
theorem dX4_init_15 : decode cX4_init 15 = .ok (.aload_n 0, 1) := by decide +kernel
theorem dX4_init_16 : decode cX4_init 16 = .ok (.bipush 25, 2) := by decide +kernel
theorem dX4_init_18 : decode cX4_init 18 = .ok (.newarray .int, 2) := by decide +kernel
theorem dX4_init_20 : decode cX4_init 20 = .ok (.putfield 18, 3) := by decide +kernel
theorem dX4_init_23 : decode cX4_init 23 = .ok (.aload_n 0, 1) := by decide +kernel
theorem dX4_init_24 : decode cX4_init 24 = .ok (.new 22, 3) := by decide +kernel
theorem dX4_init_27 : decode cX4_init 27 = .ok (.dup, 1) := by decide +kernel
theorem dX4_init_28 : decode cX4_init 28 = .ok (.invokespecial 24, 3) := by decide +kernel
theorem dX4_init_31 : decode cX4_init 31 = .ok (.putfield 25, 3) := by decide +kernel
theorem dX4_init_34 : decode cX4_init 34 = .ok (.aload_n 0, 1) := by decide +kernel
theorem dX4_init_35 : decode cX4_init 35 = .ok (.new 29, 3) := by decide +kernel
theorem dX4_init_38 : decode cX4_init 38 = .ok (.dup, 1) := by decide +kernel
theorem dX4_init_39 : decode cX4_init 39 = .ok (.invokespecial 31, 3) := by decide +kernel
theorem dX4_init_42 : decode cX4_init 42 = .ok (.putfield 32, 3) := by decide +kernel
theorem dX4_init_45 : decode cX4_init 45 = .ok (.aload_n 0, 1) := by decide +kernel
theorem dX4_init_46 : decode cX4_init 46 = .ok (.new 36, 3) := by decide +kernel
theorem dX4_init_49 : decode cX4_init 49 = .ok (.dup, 1) := by decide +kernel
theorem dX4_init_50 : decode cX4_init 50 = .ok (.invokespecial 38, 3) := by decide +kernel
theorem dX4_init_53 : decode cX4_init 53 = .ok (.putfield 39, 3) := by decide +kernel
theorem dX4_init_56 : decode cX4_init 56 = .ok (.aload_n 0, 1) := by decide +kernel
theorem dX4_init_57 : decode cX4_init 57 = .ok (.getfield 14, 3) := by decide +kernel
theorem dX4_init_60 : decode cX4_init 60 = .ok (.iconst 3, 1) := by decide +kernel
theorem dX4_init_61 : decode cX4_init 61 = .ok (.invokevirtual 43, 3) := by decide +kernel
theorem dX4_init_64 : decode cX4_init 64 = .ok (.aload_n 0, 1) := by decide +kernel
theorem dX4_init_65 : decode cX4_init 65 = .ok (.getfield 25, 3) := by decide +kernel
theorem dX4_init_68 : decode cX4_init 68 = .ok (.invokevirtual 47, 3) := by decide +kernel
theorem dX4_init_71 : decode cX4_init 71 = .ok (.return_, 1) := by decide +kernel
set_option maxRecDepth 20000 in
theorem ggX4_reset_X3_startAnew : GoodIn wsX4_reset wsX3_startAnew := goodIn_r _ [10, 11, 12, 13, 14, 15, 16, 17, 43, 44, 45, 46, 47, 48, 49, 50] (by decide +kernel) (by decide +kernel)
set_option maxRecDepth 20000 in
theorem gX4_reset_X3_startAnew : GoodIn wsX4_reset (wsV RX4 43 RX3 yX3_startAnew wsX3_startAnew) := goodIn_app (goodIn_of _ (by decide +kernel)) ggX4_reset_X3_startAnew
set_option maxRecDepth 20000 in
theorem ggX4_reset_J7_fill_53178 : GoodIn wsX4_reset wsJ7_fill_53178 := goodIn_r _ [17] (by decide +kernel) (by decide +kernel)
set_option maxRecDepth 20000 in
theorem gX4_reset_J7_fill_53178 : GoodIn wsX4_reset (va_wsS RX4 53 yJ7_fill_53178 wsJ7_fill_53178) := goodIn_app (goodIn_of _ (by decide +kernel)) ggX4_reset_J7_fill_53178
set_option maxRecDepth 20000 in
theorem ggX4_reset_X2_startAnew : GoodIn wsX4_reset wsX2_startAnew := goodIn_r _ [23, 24, 25, 26, 27, 28, 15, 16, 17, 51, 52, 53, 54] (by decide +kernel) (by decide +kernel)
set_option maxRecDepth 20000 in
theorem gX4_reset_X2_startAnew : GoodIn wsX4_reset (wsV RX4 47 RX2 yX2_startAnew wsX2_startAnew) := goodIn_app (goodIn_of _ (by decide +kernel)) ggX4_reset_X2_startAnew
set_option maxRecDepth 20000 in
theorem ggX4_reset_X1_startAnew : GoodIn wsX4_reset wsX1_startAnew := goodIn_r _ [33, 34, 35, 36, 16, 37, 55, 56] (by decide +kernel) (by decide +kernel)
set_option maxRecDepth 20000 in
theorem gX4_reset_X1_startAnew : GoodIn wsX4_reset (wsV RX4 59 RX1 yX1_startAnew wsX1_startAnew) := goodIn_app (goodIn_of _ (by decide +kernel)) ggX4_reset_X1_startAnew
theorem dX4_reset_0 : decode cX4_reset 0 = .ok (.iload_n 1, 1) := by decide +kernel
theorem dX4_reset_1 : decode cX4_reset 1 = .ok (.iconst 2, 1) := by decide +kernel
theorem dX4_reset_2 : decode cX4_reset 2 = .ok (.if_icmp .lt 8, 3) := by decide +kernel
theorem dX4_reset_5 : decode cX4_reset 5 = .ok (.iload_n 1, 1) := by decide +kernel
theorem dX4_reset_6 : decode cX4_reset 6 = .ok (.iconst 5, 1) := by decide +kernel
theorem dX4_reset_7 : decode cX4_reset 7 = .ok (.if_icmp .le 6, 3) := by decide +kernel
theorem dX4_reset_10 : decode cX4_reset 10 = .ok (.bipush (-4), 2) := by decide +kernel
theorem dX4_reset_12 : decode cX4_reset 12 = .ok (.ireturn, 1) := by decide +kernel
theorem dX4_reset_13 : decode cX4_reset 13 = .ok (.aload_n 0, 1) := by decide +kernel
theorem dX4_reset_14 : decode cX4_reset 14 = .ok (.getfield 14, 3) := by decide +kernel
theorem dX4_reset_17 : decode cX4_reset 17 = .ok (.getfield 49, 3) := by decide +kernel
theorem dX4_reset_20 : decode cX4_reset 20 = .ok (.istore_n 2, 1) := by decide +kernel
theorem dX4_reset_21 : decode cX4_reset 21 = .ok (.aload_n 0, 1) := by decide +kernel
theorem dX4_reset_22 : decode cX4_reset 22 = .ok (.getfield 14, 3) := by decide +kernel
theorem dX4_reset_25 : decode cX4_reset 25 = .ok (.iload_n 1, 1) := by decide +kernel
theorem dX4_reset_26 : decode cX4_reset 26 = .ok (.invokevirtual 43, 3) := by decide +kernel
theorem dX4_reset_29 : decode cX4_reset 29 = .ok (.aload_n 0, 1) := by decide +kernel
theorem dX4_reset_30 : decode cX4_reset 30 = .ok (.getfield 18, 3) := by decide +kernel
theorem dX4_reset_33 : decode cX4_reset 33 = .ok (.iconst 0, 1) := by decide +kernel
theorem dX4_reset_34 : decode cX4_reset 34 = .ok (.invokestatic 53, 3) := by decide +kernel
theorem dX4_reset_37 : decode cX4_reset 37 = .ok (.aload_n 0, 1) := by decide +kernel
theorem dX4_reset_38 : decode cX4_reset 38 = .ok (.getfield 25, 3) := by decide +kernel
theorem dX4_reset_41 : decode cX4_reset 41 = .ok (.invokevirtual 47, 3) := by decide +kernel
theorem dX4_reset_44 : decode cX4_reset 44 = .ok (.aload_n 0, 1) := by decide +kernel
theorem dX4_reset_45 : decode cX4_reset 45 = .ok (.getfield 39, 3) := by decide +kernel
theorem dX4_reset_48 : decode cX4_reset 48 = .ok (.invokevirtual 59, 3) := by decide +kernel
theorem dX4_reset_51 : decode cX4_reset 51 = .ok (.iload_n 2, 1) := by decide +kernel
theorem dX4_reset_52 : decode cX4_reset 52 = .ok (.ireturn, 1) := by decide +kernel
set_option maxRecDepth 20000 in
theorem ggX4_addLink_X4_pairError : GoodIn wsX4_addLink wsX4_pairError := goodIn_r _ [7, 1, 8, 9, 10, 11, 12, 13, 59, 60, 61, 62, 63, 64, 65, 66, 67, 68, 69, 70, 71] (by decide +kernel) (by decide +kernel)
set_option maxRecDepth 20000 in
theorem gX4_addLink_X4_pairError : GoodIn wsX4_addLink (wsV RX4 60 RX4 yX4_pairError wsX4_pairError) := goodIn_app (goodIn_of _ (by decide +kernel)) ggX4_addLink_X4_pairError
set_option maxRecDepth 20000 in
theorem ggX4_addLink_X4_isMetric : GoodIn wsX4_addLink wsX4_isMetric := goodIn_r _ [16] (by decide +kernel) (by decide +kernel)
set_option maxRecDepth 20000 in
theorem gX4_addLink_X4_isMetric : GoodIn wsX4_addLink (va_wsS RX4 64 yX4_isMetric wsX4_isMetric) := goodIn_app (goodIn_of _ (by decide +kernel)) ggX4_addLink_X4_isMetric
set_option maxRecDepth 20000 in
theorem ggX4_addLink_X3_append : GoodIn wsX4_addLink wsX3_append := goodIn_r _ [20, 21, 22, 23, 24, 25, 26, 27, 11, 28, 13, 29, 30, 31, 32, 33, 34, 35, 36, 37, 38, 39, 40, 41, 42, 43, 44, 45, 46, 47, 48, 49, 50, 51, 52, 53, 6, 54, 55, 56, 57, 58, 64, 65, 66, 67, 68, 69, 70, 71] (by decide +kernel) (by decide +kernel)
set_option maxRecDepth 20000 in
theorem gX4_addLink_X3_append : GoodIn wsX4_addLink (wsV RX4 68 RX3 yX3_append wsX3_append) := goodIn_app (goodIn_of _ (by decide +kernel)) ggX4_addLink_X3_append
theorem dX4_addLink_0 : decode cX4_addLink 0 = .ok (.aload_n 0, 1) := by decide +kernel
theorem dX4_addLink_1 : decode cX4_addLink 1 = .ok (.iload_n 1, 1) := by decide +kernel
theorem dX4_addLink_2 : decode cX4_addLink 2 = .ok (.iload_n 2, 1) := by decide +kernel
theorem dX4_addLink_3 : decode cX4_addLink 3 = .ok (.invokevirtual 60, 3) := by decide +kernel
theorem dX4_addLink_6 : decode cX4_addLink 6 = .ok (.istore 4, 2) := by decide +kernel
theorem dX4_addLink_8 : decode cX4_addLink 8 = .ok (.iload 4, 2) := by decide +kernel
theorem dX4_addLink_10 : decode cX4_addLink 10 = .ok (.ifCond .eq 6, 3) := by decide +kernel
theorem dX4_addLink_13 : decode cX4_addLink 13 = .ok (.iload 4, 2) := by decide +kernel
theorem dX4_addLink_15 : decode cX4_addLink 15 = .ok (.ireturn, 1) := by decide +kernel
theorem dX4_addLink_16 : decode cX4_addLink 16 = .ok (.iload_n 3, 1) := by decide +kernel
theorem dX4_addLink_17 : decode cX4_addLink 17 = .ok (.invokestatic 64, 3) := by decide +kernel
theorem dX4_addLink_20 : decode cX4_addLink 20 = .ok (.ifCond .ne 6, 3) := by decide +kernel
theorem dX4_addLink_23 : decode cX4_addLink 23 = .ok (.bipush (-4), 2) := by decide +kernel
theorem dX4_addLink_25 : decode cX4_addLink 25 = .ok (.ireturn, 1) := by decide +kernel
theorem dX4_addLink_26 : decode cX4_addLink 26 = .ok (.aload_n 0, 1) := by decide +kernel
theorem dX4_addLink_27 : decode cX4_addLink 27 = .ok (.getfield 14, 3) := by decide +kernel
theorem dX4_addLink_30 : decode cX4_addLink 30 = .ok (.getfield 49, 3) := by decide +kernel
theorem dX4_addLink_33 : decode cX4_addLink 33 = .ok (.bipush 12, 2) := by decide +kernel
theorem dX4_addLink_35 : decode cX4_addLink 35 = .ok (.if_icmp .lt 6, 3) := by decide +kernel
theorem dX4_addLink_38 : decode cX4_addLink 38 = .ok (.bipush (-5), 2) := by decide +kernel
theorem dX4_addLink_40 : decode cX4_addLink 40 = .ok (.ireturn, 1) := by decide +kernel
theorem dX4_addLink_41 : decode cX4_addLink 41 = .ok (.aload_n 0, 1) := by decide +kernel
theorem dX4_addLink_42 : decode cX4_addLink 42 = .ok (.getfield 14, 3) := by decide +kernel
theorem dX4_addLink_45 : decode cX4_addLink 45 = .ok (.iload_n 1, 1) := by decide +kernel
theorem dX4_addLink_46 : decode cX4_addLink 46 = .ok (.iload_n 2, 1) := by decide +kernel
theorem dX4_addLink_47 : decode cX4_addLink 47 = .ok (.iload_n 3, 1) := by decide +kernel
theorem dX4_addLink_48 : decode cX4_addLink 48 = .ok (.invokevirtual 68, 3) := by decide +kernel
theorem dX4_addLink_51 : decode cX4_addLink 51 = .ok (.ireturn, 1) := by decide +kernel
set_option maxRecDepth 20000 in
theorem ggX4_setMetric_X3_hasLink : GoodIn wsX4_setMetric wsX3_hasLink := goodIn_r _ [6, 7, 59, 60, 61, 62, 63, 64, 65, 66] (by decide +kernel) (by decide +kernel)
set_option maxRecDepth 20000 in
theorem gX4_setMetric_X3_hasLink : GoodIn wsX4_setMetric (wsV RX4 72 RX3 yX3_hasLink wsX3_hasLink) := goodIn_app (goodIn_of _ (by decide +kernel)) ggX4_setMetric_X3_hasLink
set_option maxRecDepth 20000 in
theorem ggX4_setMetric_X4_isMetric : GoodIn wsX4_setMetric wsX4_isMetric := goodIn_r _ [11] (by decide +kernel) (by decide +kernel)
set_option maxRecDepth 20000 in
theorem gX4_setMetric_X4_isMetric : GoodIn wsX4_setMetric (va_wsS RX4 64 yX4_isMetric wsX4_isMetric) := goodIn_app (goodIn_of _ (by decide +kernel)) ggX4_setMetric_X4_isMetric
set_option maxRecDepth 20000 in
theorem ggX4_setMetric_X3_replaceMetric : GoodIn wsX4_setMetric wsX3_replaceMetric := goodIn_r _ [15, 16, 17, 18, 19, 5, 20, 21, 22, 23, 24, 25, 26, 27, 7, 28, 29, 30, 31, 32, 33, 34, 35, 36, 37, 38, 39, 40, 41, 42, 43, 44, 45, 46, 47, 48, 10, 49, 50, 51, 52, 53, 59, 60, 61, 62, 63, 64, 65, 66] (by decide +kernel) (by decide +kernel)
set_option maxRecDepth 20000 in
theorem gX4_setMetric_X3_replaceMetric : GoodIn wsX4_setMetric (wsV RX4 75 RX3 yX3_replaceMetric wsX3_replaceMetric) := goodIn_app (goodIn_of _ (by decide +kernel)) ggX4_setMetric_X3_replaceMetric
theorem dX4_setMetric_0 : decode cX4_setMetric 0 = .ok (.aload_n 0, 1) := by decide +kernel
theorem dX4_setMetric_1 : decode cX4_setMetric 1 = .ok (.getfield 14, 3) := by decide +kernel
theorem dX4_setMetric_4 : decode cX4_setMetric 4 = .ok (.iload_n 1, 1) := by decide +kernel
theorem dX4_setMetric_5 : decode cX4_setMetric 5 = .ok (.invokevirtual 72, 3) := by decide +kernel
theorem dX4_setMetric_8 : decode cX4_setMetric 8 = .ok (.ifCond .ne 6, 3) := by decide +kernel
theorem dX4_setMetric_11 : decode cX4_setMetric 11 = .ok (.bipush (-3), 2) := by decide +kernel
theorem dX4_setMetric_13 : decode cX4_setMetric 13 = .ok (.ireturn, 1) := by decide +kernel
theorem dX4_setMetric_14 : decode cX4_setMetric 14 = .ok (.iload_n 2, 1) := by decide +kernel
theorem dX4_setMetric_15 : decode cX4_setMetric 15 = .ok (.invokestatic 64, 3) := by decide +kernel
theorem dX4_setMetric_18 : decode cX4_setMetric 18 = .ok (.ifCond .ne 6, 3) := by decide +kernel
theorem dX4_setMetric_21 : decode cX4_setMetric 21 = .ok (.bipush (-4), 2) := by decide +kernel
theorem dX4_setMetric_23 : decode cX4_setMetric 23 = .ok (.ireturn, 1) := by decide +kernel
theorem dX4_setMetric_24 : decode cX4_setMetric 24 = .ok (.aload_n 0, 1) := by decide +kernel
theorem dX4_setMetric_25 : decode cX4_setMetric 25 = .ok (.getfield 14, 3) := by decide +kernel
theorem dX4_setMetric_28 : decode cX4_setMetric 28 = .ok (.iload_n 1, 1) := by decide +kernel
theorem dX4_setMetric_29 : decode cX4_setMetric 29 = .ok (.iload_n 2, 1) := by decide +kernel
theorem dX4_setMetric_30 : decode cX4_setMetric 30 = .ok (.invokevirtual 75, 3) := by decide +kernel
theorem dX4_setMetric_33 : decode cX4_setMetric 33 = .ok (.ireturn, 1) := by decide +kernel
set_option maxRecDepth 20000 in
theorem ggX4_routeLength_X4_routeError : GoodIn wsX4_routeLength wsX4_routeError := goodIn_r _ [7, 1, 8, 9, 10, 6, 11, 12, 13, 14, 15, 16, 17, 18, 19, 20, 21, 22, 23, 24, 25, 26, 27, 28, 29, 30, 31, 32, 33, 34, 35, 36, 37, 38] (by decide +kernel) (by decide +kernel)
set_option maxRecDepth 20000 in
theorem gX4_routeLength_X4_routeError : GoodIn wsX4_routeLength (wsV RX4 78 RX4 yX4_routeError wsX4_routeError) := goodIn_app (goodIn_of _ (by decide +kernel)) ggX4_routeLength_X4_routeError
set_option maxRecDepth 20000 in
theorem ggX4_routeLength_X4_slotOf : GoodIn wsX4_routeLength wsX4_slotOf := goodIn_r _ [20] (by decide +kernel) (by decide +kernel)
set_option maxRecDepth 20000 in
theorem gX4_routeLength_X4_slotOf : GoodIn wsX4_routeLength (va_wsS RX4 84 yX4_slotOf wsX4_slotOf) := goodIn_app (goodIn_of _ (by decide +kernel)) ggX4_routeLength_X4_slotOf
theorem dX4_routeLength_0 : decode cX4_routeLength 0 = .ok (.aload_n 0, 1) := by decide +kernel
theorem dX4_routeLength_1 : decode cX4_routeLength 1 = .ok (.iload_n 1, 1) := by decide +kernel
theorem dX4_routeLength_2 : decode cX4_routeLength 2 = .ok (.iload_n 2, 1) := by decide +kernel
theorem dX4_routeLength_3 : decode cX4_routeLength 3 = .ok (.invokevirtual 78, 3) := by decide +kernel
theorem dX4_routeLength_6 : decode cX4_routeLength 6 = .ok (.istore_n 3, 1) := by decide +kernel
theorem dX4_routeLength_7 : decode cX4_routeLength 7 = .ok (.iload_n 3, 1) := by decide +kernel
theorem dX4_routeLength_8 : decode cX4_routeLength 8 = .ok (.ifCond .eq 5, 3) := by decide +kernel
theorem dX4_routeLength_11 : decode cX4_routeLength 11 = .ok (.iload_n 3, 1) := by decide +kernel
theorem dX4_routeLength_12 : decode cX4_routeLength 12 = .ok (.ireturn, 1) := by decide +kernel
theorem dX4_routeLength_13 : decode cX4_routeLength 13 = .ok (.aload_n 0, 1) := by decide +kernel
theorem dX4_routeLength_14 : decode cX4_routeLength 14 = .ok (.getfield 14, 3) := by decide +kernel
theorem dX4_routeLength_17 : decode cX4_routeLength 17 = .ok (.getfield 81, 3) := by decide +kernel
theorem dX4_routeLength_20 : decode cX4_routeLength 20 = .ok (.iload_n 1, 1) := by decide +kernel
theorem dX4_routeLength_21 : decode cX4_routeLength 21 = .ok (.iload_n 2, 1) := by decide +kernel
theorem dX4_routeLength_22 : decode cX4_routeLength 22 = .ok (.invokestatic 84, 3) := by decide +kernel
theorem dX4_routeLength_25 : decode cX4_routeLength 25 = .ok (.iaload, 1) := by decide +kernel
theorem dX4_routeLength_26 : decode cX4_routeLength 26 = .ok (.ireturn, 1) := by decide +kernel
set_option maxRecDepth 20000 in
theorem ggX4_routeLink_X4_routeError : GoodIn wsX4_routeLink wsX4_routeError := goodIn_r _ [8, 1, 9, 10, 11, 7, 12, 13, 14, 15, 16, 17, 18, 19, 20, 21, 22, 23, 24, 25, 26, 27, 28, 29, 30, 31, 32, 33, 34, 35, 36, 37, 38, 39] (by decide +kernel) (by decide +kernel)
set_option maxRecDepth 20000 in
theorem gX4_routeLink_X4_routeError : GoodIn wsX4_routeLink (wsV RX4 78 RX4 yX4_routeError wsX4_routeError) := goodIn_app (goodIn_of _ (by decide +kernel)) ggX4_routeLink_X4_routeError
set_option maxRecDepth 20000 in
theorem ggX4_routeLink_X4_slotOf : GoodIn wsX4_routeLink wsX4_slotOf := goodIn_r _ [21] (by decide +kernel) (by decide +kernel)
set_option maxRecDepth 20000 in
theorem gX4_routeLink_X4_slotOf : GoodIn wsX4_routeLink (va_wsS RX4 84 yX4_slotOf wsX4_slotOf) := goodIn_app (goodIn_of _ (by decide +kernel)) ggX4_routeLink_X4_slotOf
theorem dX4_routeLink_0 : decode cX4_routeLink 0 = .ok (.aload_n 0, 1) := by decide +kernel
theorem dX4_routeLink_1 : decode cX4_routeLink 1 = .ok (.iload_n 1, 1) := by decide +kernel
theorem dX4_routeLink_2 : decode cX4_routeLink 2 = .ok (.iload_n 2, 1) := by decide +kernel
theorem dX4_routeLink_3 : decode cX4_routeLink 3 = .ok (.invokevirtual 78, 3) := by decide +kernel
theorem dX4_routeLink_6 : decode cX4_routeLink 6 = .ok (.istore 4, 2) := by decide +kernel
theorem dX4_routeLink_8 : decode cX4_routeLink 8 = .ok (.iload 4, 2) := by decide +kernel
theorem dX4_routeLink_10 : decode cX4_routeLink 10 = .ok (.ifCond .eq 6, 3) := by decide +kernel
theorem dX4_routeLink_13 : decode cX4_routeLink 13 = .ok (.iload 4, 2) := by decide +kernel
theorem dX4_routeLink_15 : decode cX4_routeLink 15 = .ok (.ireturn, 1) := by decide +kernel
theorem dX4_routeLink_16 : decode cX4_routeLink 16 = .ok (.iload_n 1, 1) := by decide +kernel
theorem dX4_routeLink_17 : decode cX4_routeLink 17 = .ok (.iload_n 2, 1) := by decide +kernel
theorem dX4_routeLink_18 : decode cX4_routeLink 18 = .ok (.invokestatic 84, 3) := by decide +kernel
theorem dX4_routeLink_21 : decode cX4_routeLink 21 = .ok (.istore 5, 2) := by decide +kernel
theorem dX4_routeLink_23 : decode cX4_routeLink 23 = .ok (.iload_n 3, 1) := by decide +kernel
theorem dX4_routeLink_24 : decode cX4_routeLink 24 = .ok (.ifCond .lt 17, 3) := by decide +kernel
theorem dX4_routeLink_27 : decode cX4_routeLink 27 = .ok (.iload_n 3, 1) := by decide +kernel
theorem dX4_routeLink_28 : decode cX4_routeLink 28 = .ok (.aload_n 0, 1) := by decide +kernel
theorem dX4_routeLink_29 : decode cX4_routeLink 29 = .ok (.getfield 14, 3) := by decide +kernel
theorem dX4_routeLink_32 : decode cX4_routeLink 32 = .ok (.getfield 81, 3) := by decide +kernel
theorem dX4_routeLink_35 : decode cX4_routeLink 35 = .ok (.iload 5, 2) := by decide +kernel
theorem dX4_routeLink_37 : decode cX4_routeLink 37 = .ok (.iaload, 1) := by decide +kernel
theorem dX4_routeLink_38 : decode cX4_routeLink 38 = .ok (.if_icmp .lt 6, 3) := by decide +kernel
theorem dX4_routeLink_41 : decode cX4_routeLink 41 = .ok (.bipush (-4), 2) := by decide +kernel
theorem dX4_routeLink_43 : decode cX4_routeLink 43 = .ok (.ireturn, 1) := by decide +kernel
theorem dX4_routeLink_44 : decode cX4_routeLink 44 = .ok (.aload_n 0, 1) := by decide +kernel
theorem dX4_routeLink_45 : decode cX4_routeLink 45 = .ok (.getfield 14, 3) := by decide +kernel
theorem dX4_routeLink_48 : decode cX4_routeLink 48 = .ok (.getfield 87, 3) := by decide +kernel
theorem dX4_routeLink_51 : decode cX4_routeLink 51 = .ok (.iload 5, 2) := by decide +kernel
theorem dX4_routeLink_53 : decode cX4_routeLink 53 = .ok (.aaload, 1) := by decide +kernel
theorem dX4_routeLink_54 : decode cX4_routeLink 54 = .ok (.iload_n 3, 1) := by decide +kernel
theorem dX4_routeLink_55 : decode cX4_routeLink 55 = .ok (.iaload, 1) := by decide +kernel
theorem dX4_routeLink_56 : decode cX4_routeLink 56 = .ok (.ireturn, 1) := by decide +kernel
set_option maxRecDepth 20000 in
theorem ggX4_setDemand_X4_pairError : GoodIn wsX4_setDemand wsX4_pairError := goodIn_r _ [6, 7, 8, 9, 10, 11, 12, 13, 17, 18, 19, 20, 21, 22, 23, 24, 25, 26, 27, 28, 29] (by decide +kernel) (by decide +kernel)
set_option maxRecDepth 20000 in
theorem gX4_setDemand_X4_pairError : GoodIn wsX4_setDemand (wsV RX4 60 RX4 yX4_pairError wsX4_pairError) := goodIn_app (goodIn_of _ (by decide +kernel)) ggX4_setDemand_X4_pairError
set_option maxRecDepth 20000 in
theorem ggX4_setDemand_X4_slotOf : GoodIn wsX4_setDemand wsX4_slotOf := goodIn_r _ [16] (by decide +kernel) (by decide +kernel)
set_option maxRecDepth 20000 in
theorem gX4_setDemand_X4_slotOf : GoodIn wsX4_setDemand (va_wsS RX4 84 yX4_slotOf wsX4_slotOf) := goodIn_app (goodIn_of _ (by decide +kernel)) ggX4_setDemand_X4_slotOf
theorem dX4_setDemand_0 : decode cX4_setDemand 0 = .ok (.aload_n 0, 1) := by decide +kernel
theorem dX4_setDemand_1 : decode cX4_setDemand 1 = .ok (.iload_n 1, 1) := by decide +kernel
theorem dX4_setDemand_2 : decode cX4_setDemand 2 = .ok (.iload_n 2, 1) := by decide +kernel
theorem dX4_setDemand_3 : decode cX4_setDemand 3 = .ok (.invokevirtual 60, 3) := by decide +kernel
theorem dX4_setDemand_6 : decode cX4_setDemand 6 = .ok (.istore 4, 2) := by decide +kernel
theorem dX4_setDemand_8 : decode cX4_setDemand 8 = .ok (.iload 4, 2) := by decide +kernel
theorem dX4_setDemand_10 : decode cX4_setDemand 10 = .ok (.ifCond .eq 6, 3) := by decide +kernel
theorem dX4_setDemand_13 : decode cX4_setDemand 13 = .ok (.iload 4, 2) := by decide +kernel
theorem dX4_setDemand_15 : decode cX4_setDemand 15 = .ok (.ireturn, 1) := by decide +kernel
theorem dX4_setDemand_16 : decode cX4_setDemand 16 = .ok (.iload_n 3, 1) := by decide +kernel
theorem dX4_setDemand_17 : decode cX4_setDemand 17 = .ok (.ifCond .lt 10, 3) := by decide +kernel
theorem dX4_setDemand_20 : decode cX4_setDemand 20 = .ok (.iload_n 3, 1) := by decide +kernel
theorem dX4_setDemand_21 : decode cX4_setDemand 21 = .ok (.sipush 9999, 3) := by decide +kernel
theorem dX4_setDemand_24 : decode cX4_setDemand 24 = .ok (.if_icmp .le 6, 3) := by decide +kernel
theorem dX4_setDemand_27 : decode cX4_setDemand 27 = .ok (.bipush (-4), 2) := by decide +kernel
theorem dX4_setDemand_29 : decode cX4_setDemand 29 = .ok (.ireturn, 1) := by decide +kernel
theorem dX4_setDemand_30 : decode cX4_setDemand 30 = .ok (.iload_n 1, 1) := by decide +kernel
theorem dX4_setDemand_31 : decode cX4_setDemand 31 = .ok (.iload_n 2, 1) := by decide +kernel
theorem dX4_setDemand_32 : decode cX4_setDemand 32 = .ok (.invokestatic 84, 3) := by decide +kernel
theorem dX4_setDemand_35 : decode cX4_setDemand 35 = .ok (.istore 5, 2) := by decide +kernel
theorem dX4_setDemand_37 : decode cX4_setDemand 37 = .ok (.aload_n 0, 1) := by decide +kernel
theorem dX4_setDemand_38 : decode cX4_setDemand 38 = .ok (.getfield 18, 3) := by decide +kernel
theorem dX4_setDemand_41 : decode cX4_setDemand 41 = .ok (.iload 5, 2) := by decide +kernel
theorem dX4_setDemand_43 : decode cX4_setDemand 43 = .ok (.iaload, 1) := by decide +kernel
theorem dX4_setDemand_44 : decode cX4_setDemand 44 = .ok (.istore 6, 2) := by decide +kernel
theorem dX4_setDemand_46 : decode cX4_setDemand 46 = .ok (.aload_n 0, 1) := by decide +kernel
theorem dX4_setDemand_47 : decode cX4_setDemand 47 = .ok (.getfield 18, 3) := by decide +kernel
theorem dX4_setDemand_50 : decode cX4_setDemand 50 = .ok (.iload 5, 2) := by decide +kernel
theorem dX4_setDemand_52 : decode cX4_setDemand 52 = .ok (.iload_n 3, 1) := by decide +kernel
theorem dX4_setDemand_53 : decode cX4_setDemand 53 = .ok (.iastore, 1) := by decide +kernel
theorem dX4_setDemand_54 : decode cX4_setDemand 54 = .ok (.iload 6, 2) := by decide +kernel
theorem dX4_setDemand_56 : decode cX4_setDemand 56 = .ok (.ireturn, 1) := by decide +kernel
set_option maxRecDepth 20000 in
theorem ggX4_carriedLoad_X3_hasLink : GoodIn wsX4_carriedLoad wsX3_hasLink := goodIn_r _ [7, 8, 24, 25, 26, 27, 28, 29, 30, 31] (by decide +kernel) (by decide +kernel)
set_option maxRecDepth 20000 in
theorem gX4_carriedLoad_X3_hasLink : GoodIn wsX4_carriedLoad (wsV RX4 72 RX3 yX3_hasLink wsX3_hasLink) := goodIn_app (goodIn_of _ (by decide +kernel)) ggX4_carriedLoad_X3_hasLink
set_option maxRecDepth 20000 in
theorem ggX4_carriedLoad_X3_loadOf : GoodIn wsX4_carriedLoad wsX3_loadOf := goodIn_r _ [12, 13, 14, 15, 6, 16, 17, 18, 24, 25, 26, 27, 28, 29, 30, 31] (by decide +kernel) (by decide +kernel)
set_option maxRecDepth 20000 in
theorem gX4_carriedLoad_X3_loadOf : GoodIn wsX4_carriedLoad (wsV RX4 91 RX3 yX3_loadOf wsX3_loadOf) := goodIn_app (goodIn_of _ (by decide +kernel)) ggX4_carriedLoad_X3_loadOf
theorem dX4_carriedLoad_0 : decode cX4_carriedLoad 0 = .ok (.aload_n 0, 1) := by decide +kernel
theorem dX4_carriedLoad_1 : decode cX4_carriedLoad 1 = .ok (.getfield 14, 3) := by decide +kernel
theorem dX4_carriedLoad_4 : decode cX4_carriedLoad 4 = .ok (.iload_n 1, 1) := by decide +kernel
theorem dX4_carriedLoad_5 : decode cX4_carriedLoad 5 = .ok (.invokevirtual 72, 3) := by decide +kernel
theorem dX4_carriedLoad_8 : decode cX4_carriedLoad 8 = .ok (.ifCond .eq 18, 3) := by decide +kernel
theorem dX4_carriedLoad_11 : decode cX4_carriedLoad 11 = .ok (.aload_n 0, 1) := by decide +kernel
theorem dX4_carriedLoad_12 : decode cX4_carriedLoad 12 = .ok (.getfield 14, 3) := by decide +kernel
theorem dX4_carriedLoad_15 : decode cX4_carriedLoad 15 = .ok (.iload_n 1, 1) := by decide +kernel
theorem dX4_carriedLoad_16 : decode cX4_carriedLoad 16 = .ok (.aload_n 0, 1) := by decide +kernel
theorem dX4_carriedLoad_17 : decode cX4_carriedLoad 17 = .ok (.getfield 18, 3) := by decide +kernel
theorem dX4_carriedLoad_20 : decode cX4_carriedLoad 20 = .ok (.invokevirtual 91, 3) := by decide +kernel
theorem dX4_carriedLoad_23 : decode cX4_carriedLoad 23 = .ok (.goto 5, 3) := by decide +kernel
theorem dX4_carriedLoad_26 : decode cX4_carriedLoad 26 = .ok (.bipush (-3), 2) := by decide +kernel
theorem dX4_carriedLoad_28 : decode cX4_carriedLoad 28 = .ok (.ireturn, 1) := by decide +kernel
set_option maxRecDepth 20000 in
theorem ggX4_measure_X2_take : GoodIn wsX4_measure wsX2_take := goodIn_r _ [8, 9, 10, 11, 12, 13, 14, 15, 16, 17, 18, 19, 20, 21, 22, 23, 24, 25, 26, 27, 28, 29, 30, 31, 41, 42, 43, 44, 45, 46, 47, 48, 49, 50, 51, 52] (by decide +kernel) (by decide +kernel)
set_option maxRecDepth 20000 in
theorem gX4_measure_X2_take : GoodIn wsX4_measure (wsV RX4 95 RX2 yX2_take wsX2_take) := goodIn_app (goodIn_of _ (by decide +kernel)) ggX4_measure_X2_take
set_option maxRecDepth 20000 in
theorem ggX4_measure_X2_sumOfOutTotals : GoodIn wsX4_measure wsX2_sumOfOutTotals := goodIn_r _ [35, 11, 49, 50, 51, 52] (by decide +kernel) (by decide +kernel)
set_option maxRecDepth 20000 in
theorem gX4_measure_X2_sumOfOutTotals : GoodIn wsX4_measure (wsV RX4 99 RX2 yX2_sumOfOutTotals wsX2_sumOfOutTotals) := goodIn_app (goodIn_of _ (by decide +kernel)) ggX4_measure_X2_sumOfOutTotals
theorem dX4_measure_0 : decode cX4_measure 0 = .ok (.aload_n 0, 1) := by decide +kernel
theorem dX4_measure_1 : decode cX4_measure 1 = .ok (.getfield 25, 3) := by decide +kernel
theorem dX4_measure_4 : decode cX4_measure 4 = .ok (.aload_n 0, 1) := by decide +kernel
theorem dX4_measure_5 : decode cX4_measure 5 = .ok (.getfield 14, 3) := by decide +kernel
theorem dX4_measure_8 : decode cX4_measure 8 = .ok (.aload_n 0, 1) := by decide +kernel
theorem dX4_measure_9 : decode cX4_measure 9 = .ok (.getfield 18, 3) := by decide +kernel
theorem dX4_measure_12 : decode cX4_measure 12 = .ok (.invokevirtual 95, 3) := by decide +kernel
theorem dX4_measure_15 : decode cX4_measure 15 = .ok (.aload_n 0, 1) := by decide +kernel
theorem dX4_measure_16 : decode cX4_measure 16 = .ok (.getfield 25, 3) := by decide +kernel
theorem dX4_measure_19 : decode cX4_measure 19 = .ok (.invokevirtual 99, 3) := by decide +kernel
theorem dX4_measure_22 : decode cX4_measure 22 = .ok (.ireturn, 1) := by decide +kernel
set_option maxRecDepth 20000 in
theorem ggX4_setMeasuredLoad_X3_hasLink : GoodIn wsX4_setMeasuredLoad wsX3_hasLink := goodIn_r _ [9, 10, 20, 21, 22, 23, 24, 25, 26, 27] (by decide +kernel) (by decide +kernel)
set_option maxRecDepth 20000 in
theorem gX4_setMeasuredLoad_X3_hasLink : GoodIn wsX4_setMeasuredLoad (wsV RX4 72 RX3 yX3_hasLink wsX3_hasLink) := goodIn_app (goodIn_of _ (by decide +kernel)) ggX4_setMeasuredLoad_X3_hasLink
theorem dX4_setMeasuredLoad_0 : decode cX4_setMeasuredLoad 0 = .ok (.aload_n 0, 1) := by decide +kernel
theorem dX4_setMeasuredLoad_1 : decode cX4_setMeasuredLoad 1 = .ok (.getfield 14, 3) := by decide +kernel
theorem dX4_setMeasuredLoad_4 : decode cX4_setMeasuredLoad 4 = .ok (.iload_n 1, 1) := by decide +kernel
theorem dX4_setMeasuredLoad_5 : decode cX4_setMeasuredLoad 5 = .ok (.invokevirtual 72, 3) := by decide +kernel
theorem dX4_setMeasuredLoad_8 : decode cX4_setMeasuredLoad 8 = .ok (.ifCond .ne 6, 3) := by decide +kernel
theorem dX4_setMeasuredLoad_11 : decode cX4_setMeasuredLoad 11 = .ok (.bipush (-3), 2) := by decide +kernel
theorem dX4_setMeasuredLoad_13 : decode cX4_setMeasuredLoad 13 = .ok (.ireturn, 1) := by decide +kernel
theorem dX4_setMeasuredLoad_14 : decode cX4_setMeasuredLoad 14 = .ok (.iload_n 2, 1) := by decide +kernel
theorem dX4_setMeasuredLoad_15 : decode cX4_setMeasuredLoad 15 = .ok (.ifCond .lt 9, 3) := by decide +kernel
theorem dX4_setMeasuredLoad_18 : decode cX4_setMeasuredLoad 18 = .ok (.iload_n 2, 1) := by decide +kernel
theorem dX4_setMeasuredLoad_19 : decode cX4_setMeasuredLoad 19 = .ok (.ldc 103, 2) := by decide +kernel
theorem dX4_setMeasuredLoad_21 : decode cX4_setMeasuredLoad 21 = .ok (.if_icmp .le 6, 3) := by decide +kernel
theorem dX4_setMeasuredLoad_24 : decode cX4_setMeasuredLoad 24 = .ok (.bipush (-4), 2) := by decide +kernel
theorem dX4_setMeasuredLoad_26 : decode cX4_setMeasuredLoad 26 = .ok (.ireturn, 1) := by decide +kernel
theorem dX4_setMeasuredLoad_27 : decode cX4_setMeasuredLoad 27 = .ok (.aload_n 0, 1) := by decide +kernel
theorem dX4_setMeasuredLoad_28 : decode cX4_setMeasuredLoad 28 = .ok (.getfield 25, 3) := by decide +kernel
theorem dX4_setMeasuredLoad_31 : decode cX4_setMeasuredLoad 31 = .ok (.getfield 104, 3) := by decide +kernel
theorem dX4_setMeasuredLoad_34 : decode cX4_setMeasuredLoad 34 = .ok (.iload_n 1, 1) := by decide +kernel
theorem dX4_setMeasuredLoad_35 : decode cX4_setMeasuredLoad 35 = .ok (.iaload, 1) := by decide +kernel
theorem dX4_setMeasuredLoad_36 : decode cX4_setMeasuredLoad 36 = .ok (.istore_n 3, 1) := by decide +kernel
theorem dX4_setMeasuredLoad_37 : decode cX4_setMeasuredLoad 37 = .ok (.aload_n 0, 1) := by decide +kernel
theorem dX4_setMeasuredLoad_38 : decode cX4_setMeasuredLoad 38 = .ok (.getfield 25, 3) := by decide +kernel
theorem dX4_setMeasuredLoad_41 : decode cX4_setMeasuredLoad 41 = .ok (.getfield 104, 3) := by decide +kernel
theorem dX4_setMeasuredLoad_44 : decode cX4_setMeasuredLoad 44 = .ok (.iload_n 1, 1) := by decide +kernel
theorem dX4_setMeasuredLoad_45 : decode cX4_setMeasuredLoad 45 = .ok (.iload_n 2, 1) := by decide +kernel
theorem dX4_setMeasuredLoad_46 : decode cX4_setMeasuredLoad 46 = .ok (.iastore, 1) := by decide +kernel
theorem dX4_setMeasuredLoad_47 : decode cX4_setMeasuredLoad 47 = .ok (.iload_n 3, 1) := by decide +kernel
theorem dX4_setMeasuredLoad_48 : decode cX4_setMeasuredLoad 48 = .ok (.ireturn, 1) := by decide +kernel
set_option maxRecDepth 20000 in
theorem ggX4_measuredLoad_X3_hasLink : GoodIn wsX4_measuredLoad wsX3_hasLink := goodIn_r _ [8, 9, 19, 20, 21, 22, 23, 24, 25, 26] (by decide +kernel) (by decide +kernel)
set_option maxRecDepth 20000 in
theorem gX4_measuredLoad_X3_hasLink : GoodIn wsX4_measuredLoad (wsV RX4 72 RX3 yX3_hasLink wsX3_hasLink) := goodIn_app (goodIn_of _ (by decide +kernel)) ggX4_measuredLoad_X3_hasLink
theorem dX4_measuredLoad_0 : decode cX4_measuredLoad 0 = .ok (.aload_n 0, 1) := by decide +kernel
theorem dX4_measuredLoad_1 : decode cX4_measuredLoad 1 = .ok (.getfield 14, 3) := by decide +kernel
theorem dX4_measuredLoad_4 : decode cX4_measuredLoad 4 = .ok (.iload_n 1, 1) := by decide +kernel
theorem dX4_measuredLoad_5 : decode cX4_measuredLoad 5 = .ok (.invokevirtual 72, 3) := by decide +kernel
theorem dX4_measuredLoad_8 : decode cX4_measuredLoad 8 = .ok (.ifCond .eq 15, 3) := by decide +kernel
theorem dX4_measuredLoad_11 : decode cX4_measuredLoad 11 = .ok (.aload_n 0, 1) := by decide +kernel
theorem dX4_measuredLoad_12 : decode cX4_measuredLoad 12 = .ok (.getfield 25, 3) := by decide +kernel
theorem dX4_measuredLoad_15 : decode cX4_measuredLoad 15 = .ok (.getfield 104, 3) := by decide +kernel
theorem dX4_measuredLoad_18 : decode cX4_measuredLoad 18 = .ok (.iload_n 1, 1) := by decide +kernel
theorem dX4_measuredLoad_19 : decode cX4_measuredLoad 19 = .ok (.iaload, 1) := by decide +kernel
theorem dX4_measuredLoad_20 : decode cX4_measuredLoad 20 = .ok (.goto 5, 3) := by decide +kernel
theorem dX4_measuredLoad_23 : decode cX4_measuredLoad 23 = .ok (.bipush (-3), 2) := by decide +kernel
theorem dX4_measuredLoad_25 : decode cX4_measuredLoad 25 = .ok (.ireturn, 1) := by decide +kernel
set_option maxRecDepth 20000 in
theorem ggX4_outTotal_X3_hasNode : GoodIn wsX4_outTotal wsX3_hasNode := goodIn_r _ [8, 9, 19, 20, 21, 22, 23, 24, 25, 26] (by decide +kernel) (by decide +kernel)
set_option maxRecDepth 20000 in
theorem gX4_outTotal_X3_hasNode : GoodIn wsX4_outTotal (wsV RX4 107 RX3 yX3_hasNode wsX3_hasNode) := goodIn_app (goodIn_of _ (by decide +kernel)) ggX4_outTotal_X3_hasNode
theorem dX4_outTotal_0 : decode cX4_outTotal 0 = .ok (.aload_n 0, 1) := by decide +kernel
theorem dX4_outTotal_1 : decode cX4_outTotal 1 = .ok (.getfield 14, 3) := by decide +kernel
theorem dX4_outTotal_4 : decode cX4_outTotal 4 = .ok (.iload_n 1, 1) := by decide +kernel
theorem dX4_outTotal_5 : decode cX4_outTotal 5 = .ok (.invokevirtual 107, 3) := by decide +kernel
theorem dX4_outTotal_8 : decode cX4_outTotal 8 = .ok (.ifCond .eq 15, 3) := by decide +kernel
theorem dX4_outTotal_11 : decode cX4_outTotal 11 = .ok (.aload_n 0, 1) := by decide +kernel
theorem dX4_outTotal_12 : decode cX4_outTotal 12 = .ok (.getfield 25, 3) := by decide +kernel
theorem dX4_outTotal_15 : decode cX4_outTotal 15 = .ok (.getfield 110, 3) := by decide +kernel
theorem dX4_outTotal_18 : decode cX4_outTotal 18 = .ok (.iload_n 1, 1) := by decide +kernel
theorem dX4_outTotal_19 : decode cX4_outTotal 19 = .ok (.iaload, 1) := by decide +kernel
theorem dX4_outTotal_20 : decode cX4_outTotal 20 = .ok (.goto 4, 3) := by decide +kernel
theorem dX4_outTotal_23 : decode cX4_outTotal 23 = .ok (.iconst (-1), 1) := by decide +kernel
theorem dX4_outTotal_24 : decode cX4_outTotal 24 = .ok (.ireturn, 1) := by decide +kernel
set_option maxRecDepth 20000 in
theorem ggX4_inTotal_X3_hasNode : GoodIn wsX4_inTotal wsX3_hasNode := goodIn_r _ [8, 9, 19, 20, 21, 22, 23, 24, 25, 26] (by decide +kernel) (by decide +kernel)
set_option maxRecDepth 20000 in
theorem gX4_inTotal_X3_hasNode : GoodIn wsX4_inTotal (wsV RX4 107 RX3 yX3_hasNode wsX3_hasNode) := goodIn_app (goodIn_of _ (by decide +kernel)) ggX4_inTotal_X3_hasNode
theorem dX4_inTotal_0 : decode cX4_inTotal 0 = .ok (.aload_n 0, 1) := by decide +kernel
theorem dX4_inTotal_1 : decode cX4_inTotal 1 = .ok (.getfield 14, 3) := by decide +kernel
theorem dX4_inTotal_4 : decode cX4_inTotal 4 = .ok (.iload_n 1, 1) := by decide +kernel
theorem dX4_inTotal_5 : decode cX4_inTotal 5 = .ok (.invokevirtual 107, 3) := by decide +kernel
theorem dX4_inTotal_8 : decode cX4_inTotal 8 = .ok (.ifCond .eq 15, 3) := by decide +kernel
theorem dX4_inTotal_11 : decode cX4_inTotal 11 = .ok (.aload_n 0, 1) := by decide +kernel
theorem dX4_inTotal_12 : decode cX4_inTotal 12 = .ok (.getfield 25, 3) := by decide +kernel
theorem dX4_inTotal_15 : decode cX4_inTotal 15 = .ok (.getfield 113, 3) := by decide +kernel
theorem dX4_inTotal_18 : decode cX4_inTotal 18 = .ok (.iload_n 1, 1) := by decide +kernel
theorem dX4_inTotal_19 : decode cX4_inTotal 19 = .ok (.iaload, 1) := by decide +kernel
theorem dX4_inTotal_20 : decode cX4_inTotal 20 = .ok (.goto 4, 3) := by decide +kernel
theorem dX4_inTotal_23 : decode cX4_inTotal 23 = .ok (.iconst (-1), 1) := by decide +kernel
theorem dX4_inTotal_24 : decode cX4_inTotal 24 = .ok (.ireturn, 1) := by decide +kernel
set_option maxRecDepth 20000 in
theorem ggX4_measurePair_X4_routeError : GoodIn wsX4_measurePair wsX4_routeError := goodIn_r _ [8, 9, 10, 11, 12, 7, 13, 14, 15, 16, 17, 18, 19, 20, 21, 22, 23, 24, 25, 26, 27, 28, 29, 30, 31, 32, 37, 38, 39, 40, 41, 42, 43, 44] (by decide +kernel) (by decide +kernel)
set_option maxRecDepth 20000 in
theorem gX4_measurePair_X4_routeError : GoodIn wsX4_measurePair (wsV RX4 78 RX4 yX4_routeError wsX4_routeError) := goodIn_app (goodIn_of _ (by decide +kernel)) ggX4_measurePair_X4_routeError
set_option maxRecDepth 20000 in
theorem ggX4_measurePair_X4_slotOf : GoodIn wsX4_measurePair wsX4_slotOf := goodIn_r _ [22] (by decide +kernel) (by decide +kernel)
set_option maxRecDepth 20000 in
theorem gX4_measurePair_X4_slotOf : GoodIn wsX4_measurePair (va_wsS RX4 84 yX4_slotOf wsX4_slotOf) := goodIn_app (goodIn_of _ (by decide +kernel)) ggX4_measurePair_X4_slotOf
theorem dX4_measurePair_0 : decode cX4_measurePair 0 = .ok (.aload_n 0, 1) := by decide +kernel
theorem dX4_measurePair_1 : decode cX4_measurePair 1 = .ok (.iload_n 1, 1) := by decide +kernel
theorem dX4_measurePair_2 : decode cX4_measurePair 2 = .ok (.iload_n 2, 1) := by decide +kernel
theorem dX4_measurePair_3 : decode cX4_measurePair 3 = .ok (.invokevirtual 78, 3) := by decide +kernel
theorem dX4_measurePair_6 : decode cX4_measurePair 6 = .ok (.istore_n 3, 1) := by decide +kernel
theorem dX4_measurePair_7 : decode cX4_measurePair 7 = .ok (.iload_n 3, 1) := by decide +kernel
theorem dX4_measurePair_8 : decode cX4_measurePair 8 = .ok (.ifCond .eq 5, 3) := by decide +kernel
theorem dX4_measurePair_11 : decode cX4_measurePair 11 = .ok (.iload_n 3, 1) := by decide +kernel
theorem dX4_measurePair_12 : decode cX4_measurePair 12 = .ok (.ireturn, 1) := by decide +kernel
theorem dX4_measurePair_13 : decode cX4_measurePair 13 = .ok (.iload_n 1, 1) := by decide +kernel
theorem dX4_measurePair_14 : decode cX4_measurePair 14 = .ok (.iload_n 2, 1) := by decide +kernel
theorem dX4_measurePair_15 : decode cX4_measurePair 15 = .ok (.invokestatic 84, 3) := by decide +kernel
theorem dX4_measurePair_18 : decode cX4_measurePair 18 = .ok (.istore 4, 2) := by decide +kernel
theorem dX4_measurePair_20 : decode cX4_measurePair 20 = .ok (.aload_n 0, 1) := by decide +kernel
theorem dX4_measurePair_21 : decode cX4_measurePair 21 = .ok (.getfield 25, 3) := by decide +kernel
theorem dX4_measurePair_24 : decode cX4_measurePair 24 = .ok (.getfield 116, 3) := by decide +kernel
theorem dX4_measurePair_27 : decode cX4_measurePair 27 = .ok (.iload 4, 2) := by decide +kernel
theorem dX4_measurePair_29 : decode cX4_measurePair 29 = .ok (.aload_n 0, 1) := by decide +kernel
theorem dX4_measurePair_30 : decode cX4_measurePair 30 = .ok (.getfield 18, 3) := by decide +kernel
theorem dX4_measurePair_33 : decode cX4_measurePair 33 = .ok (.iload 4, 2) := by decide +kernel
theorem dX4_measurePair_35 : decode cX4_measurePair 35 = .ok (.iaload, 1) := by decide +kernel
theorem dX4_measurePair_36 : decode cX4_measurePair 36 = .ok (.iastore, 1) := by decide +kernel
theorem dX4_measurePair_37 : decode cX4_measurePair 37 = .ok (.aload_n 0, 1) := by decide +kernel
theorem dX4_measurePair_38 : decode cX4_measurePair 38 = .ok (.getfield 18, 3) := by decide +kernel
theorem dX4_measurePair_41 : decode cX4_measurePair 41 = .ok (.iload 4, 2) := by decide +kernel
theorem dX4_measurePair_43 : decode cX4_measurePair 43 = .ok (.iaload, 1) := by decide +kernel
theorem dX4_measurePair_44 : decode cX4_measurePair 44 = .ok (.ireturn, 1) := by decide +kernel
set_option maxRecDepth 20000 in
theorem ggX4_forgetPair_X4_pairError : GoodIn wsX4_forgetPair wsX4_pairError := goodIn_r _ [7, 8, 9, 10, 11, 12, 13, 14, 24, 25, 26, 27, 28, 33, 34, 35, 36, 37, 38, 39, 40] (by decide +kernel) (by decide +kernel)
set_option maxRecDepth 20000 in
theorem gX4_forgetPair_X4_pairError : GoodIn wsX4_forgetPair (wsV RX4 60 RX4 yX4_pairError wsX4_pairError) := goodIn_app (goodIn_of _ (by decide +kernel)) ggX4_forgetPair_X4_pairError
set_option maxRecDepth 20000 in
theorem ggX4_forgetPair_X4_slotOf : GoodIn wsX4_forgetPair wsX4_slotOf := goodIn_r _ [17] (by decide +kernel) (by decide +kernel)
set_option maxRecDepth 20000 in
theorem gX4_forgetPair_X4_slotOf : GoodIn wsX4_forgetPair (va_wsS RX4 84 yX4_slotOf wsX4_slotOf) := goodIn_app (goodIn_of _ (by decide +kernel)) ggX4_forgetPair_X4_slotOf
set_option maxRecDepth 20000 in
theorem ggX4_forgetPair_X2_hasPair : GoodIn wsX4_forgetPair wsX2_hasPair := goodIn_r _ [22, 23, 29, 30, 31, 32] (by decide +kernel) (by decide +kernel)
set_option maxRecDepth 20000 in
theorem gX4_forgetPair_X2_hasPair : GoodIn wsX4_forgetPair (wsV RX4 119 RX2 yX2_hasPair wsX2_hasPair) := goodIn_app (goodIn_of _ (by decide +kernel)) ggX4_forgetPair_X2_hasPair
theorem dX4_forgetPair_0 : decode cX4_forgetPair 0 = .ok (.aload_n 0, 1) := by decide +kernel
theorem dX4_forgetPair_1 : decode cX4_forgetPair 1 = .ok (.iload_n 1, 1) := by decide +kernel
theorem dX4_forgetPair_2 : decode cX4_forgetPair 2 = .ok (.iload_n 2, 1) := by decide +kernel
theorem dX4_forgetPair_3 : decode cX4_forgetPair 3 = .ok (.invokevirtual 60, 3) := by decide +kernel
theorem dX4_forgetPair_6 : decode cX4_forgetPair 6 = .ok (.istore_n 3, 1) := by decide +kernel
theorem dX4_forgetPair_7 : decode cX4_forgetPair 7 = .ok (.iload_n 3, 1) := by decide +kernel
theorem dX4_forgetPair_8 : decode cX4_forgetPair 8 = .ok (.ifCond .eq 5, 3) := by decide +kernel
theorem dX4_forgetPair_11 : decode cX4_forgetPair 11 = .ok (.iload_n 3, 1) := by decide +kernel
theorem dX4_forgetPair_12 : decode cX4_forgetPair 12 = .ok (.ireturn, 1) := by decide +kernel
theorem dX4_forgetPair_13 : decode cX4_forgetPair 13 = .ok (.iload_n 1, 1) := by decide +kernel
theorem dX4_forgetPair_14 : decode cX4_forgetPair 14 = .ok (.iload_n 2, 1) := by decide +kernel
theorem dX4_forgetPair_15 : decode cX4_forgetPair 15 = .ok (.invokestatic 84, 3) := by decide +kernel
theorem dX4_forgetPair_18 : decode cX4_forgetPair 18 = .ok (.istore 4, 2) := by decide +kernel
theorem dX4_forgetPair_20 : decode cX4_forgetPair 20 = .ok (.aload_n 0, 1) := by decide +kernel
theorem dX4_forgetPair_21 : decode cX4_forgetPair 21 = .ok (.getfield 25, 3) := by decide +kernel
theorem dX4_forgetPair_24 : decode cX4_forgetPair 24 = .ok (.iload 4, 2) := by decide +kernel
theorem dX4_forgetPair_26 : decode cX4_forgetPair 26 = .ok (.invokevirtual 119, 3) := by decide +kernel
theorem dX4_forgetPair_29 : decode cX4_forgetPair 29 = .ok (.ifCond .ne 6, 3) := by decide +kernel
theorem dX4_forgetPair_32 : decode cX4_forgetPair 32 = .ok (.bipush (-7), 2) := by decide +kernel
theorem dX4_forgetPair_34 : decode cX4_forgetPair 34 = .ok (.ireturn, 1) := by decide +kernel
theorem dX4_forgetPair_35 : decode cX4_forgetPair 35 = .ok (.aload_n 0, 1) := by decide +kernel
theorem dX4_forgetPair_36 : decode cX4_forgetPair 36 = .ok (.getfield 25, 3) := by decide +kernel
theorem dX4_forgetPair_39 : decode cX4_forgetPair 39 = .ok (.getfield 116, 3) := by decide +kernel
theorem dX4_forgetPair_42 : decode cX4_forgetPair 42 = .ok (.iload 4, 2) := by decide +kernel
theorem dX4_forgetPair_44 : decode cX4_forgetPair 44 = .ok (.iaload, 1) := by decide +kernel
theorem dX4_forgetPair_45 : decode cX4_forgetPair 45 = .ok (.istore 5, 2) := by decide +kernel
theorem dX4_forgetPair_47 : decode cX4_forgetPair 47 = .ok (.aload_n 0, 1) := by decide +kernel
theorem dX4_forgetPair_48 : decode cX4_forgetPair 48 = .ok (.getfield 25, 3) := by decide +kernel
theorem dX4_forgetPair_51 : decode cX4_forgetPair 51 = .ok (.getfield 116, 3) := by decide +kernel
theorem dX4_forgetPair_54 : decode cX4_forgetPair 54 = .ok (.iload 4, 2) := by decide +kernel
theorem dX4_forgetPair_56 : decode cX4_forgetPair 56 = .ok (.iconst (-1), 1) := by decide +kernel
theorem dX4_forgetPair_57 : decode cX4_forgetPair 57 = .ok (.iastore, 1) := by decide +kernel
theorem dX4_forgetPair_58 : decode cX4_forgetPair 58 = .ok (.iload 5, 2) := by decide +kernel
theorem dX4_forgetPair_60 : decode cX4_forgetPair 60 = .ok (.ireturn, 1) := by decide +kernel
set_option maxRecDepth 20000 in
theorem ggX4_rank_X0_solve : GoodIn wsX4_rank wsX0_solve := goodIn_r _ [10, 11, 12, 13, 14, 15, 9, 16, 17, 18, 19, 20, 21, 22, 23, 24, 25, 26, 27, 28, 29, 30, 31, 32, 33, 34, 35, 36, 37, 38, 39, 40, 41, 42, 43, 44, 45, 46, 47, 48, 49, 50, 51, 52, 53, 54, 55, 56, 57, 58, 59, 60, 61, 62, 63, 64, 65, 66, 67, 68, 69, 70, 71, 72, 86, 87, 88, 89, 90, 91, 92, 93, 78, 79, 80, 81, 82, 83, 84, 85, 94, 95, 96, 97] (by decide +kernel) (by decide +kernel)
set_option maxRecDepth 20000 in
theorem gX4_rank_X0_solve : GoodIn wsX4_rank (wsV RX4 122 RX0 yX0_solve wsX0_solve) := goodIn_app (goodIn_of _ (by decide +kernel)) ggX4_rank_X0_solve
theorem dX4_rank_0 : decode cX4_rank 0 = .ok (.aload_n 0, 1) := by decide +kernel
theorem dX4_rank_1 : decode cX4_rank 1 = .ok (.getfield 32, 3) := by decide +kernel
theorem dX4_rank_4 : decode cX4_rank 4 = .ok (.aload_n 0, 1) := by decide +kernel
theorem dX4_rank_5 : decode cX4_rank 5 = .ok (.getfield 14, 3) := by decide +kernel
theorem dX4_rank_8 : decode cX4_rank 8 = .ok (.aload_n 0, 1) := by decide +kernel
theorem dX4_rank_9 : decode cX4_rank 9 = .ok (.getfield 25, 3) := by decide +kernel
theorem dX4_rank_12 : decode cX4_rank 12 = .ok (.invokevirtual 122, 3) := by decide +kernel
theorem dX4_rank_15 : decode cX4_rank 15 = .ok (.aload_n 0, 1) := by decide +kernel
theorem dX4_rank_16 : decode cX4_rank 16 = .ok (.getfield 32, 3) := by decide +kernel
theorem dX4_rank_19 : decode cX4_rank 19 = .ok (.getfield 126, 3) := by decide +kernel
theorem dX4_rank_22 : decode cX4_rank 22 = .ok (.aload_n 0, 1) := by decide +kernel
theorem dX4_rank_23 : decode cX4_rank 23 = .ok (.getfield 32, 3) := by decide +kernel
theorem dX4_rank_26 : decode cX4_rank 26 = .ok (.getfield 129, 3) := by decide +kernel
theorem dX4_rank_29 : decode cX4_rank 29 = .ok (.iadd, 1) := by decide +kernel
theorem dX4_rank_30 : decode cX4_rank 30 = .ok (.ireturn, 1) := by decide +kernel
set_option maxRecDepth 20000 in
theorem ggX4_isConsistent_X0_solve : GoodIn wsX4_isConsistent wsX0_solve := goodIn_r _ [8, 9, 10, 11, 12, 13, 7, 14, 15, 16, 17, 18, 19, 20, 21, 22, 23, 24, 25, 26, 27, 28, 29, 30, 31, 32, 33, 34, 35, 36, 37, 38, 39, 40, 41, 42, 43, 44, 45, 46, 47, 48, 49, 50, 51, 52, 53, 54, 55, 56, 57, 58, 59, 60, 61, 62, 63, 64, 65, 66, 67, 68, 69, 70, 80, 81, 82, 83, 84, 85, 86, 87, 88, 89, 90, 91, 92, 93, 94, 95, 96, 97, 98, 99] (by decide +kernel) (by decide +kernel)
set_option maxRecDepth 20000 in
theorem gX4_isConsistent_X0_solve : GoodIn wsX4_isConsistent (wsV RX4 122 RX0 yX0_solve wsX0_solve) := goodIn_app (goodIn_of _ (by decide +kernel)) ggX4_isConsistent_X0_solve
set_option maxRecDepth 20000 in
theorem ggX4_isConsistent_X0_haveSolution : GoodIn wsX4_isConsistent wsX0_haveSolution := goodIn_r _ [74, 10, 52, 33, 88, 89, 90, 91, 92, 93, 94, 95] (by decide +kernel) (by decide +kernel)
set_option maxRecDepth 20000 in
theorem gX4_isConsistent_X0_haveSolution : GoodIn wsX4_isConsistent (wsV RX4 132 RX0 yX0_haveSolution wsX0_haveSolution) := goodIn_app (goodIn_of _ (by decide +kernel)) ggX4_isConsistent_X0_haveSolution
theorem dX4_isConsistent_0 : decode cX4_isConsistent 0 = .ok (.aload_n 0, 1) := by decide +kernel
theorem dX4_isConsistent_1 : decode cX4_isConsistent 1 = .ok (.getfield 32, 3) := by decide +kernel
theorem dX4_isConsistent_4 : decode cX4_isConsistent 4 = .ok (.aload_n 0, 1) := by decide +kernel
theorem dX4_isConsistent_5 : decode cX4_isConsistent 5 = .ok (.getfield 14, 3) := by decide +kernel
theorem dX4_isConsistent_8 : decode cX4_isConsistent 8 = .ok (.aload_n 0, 1) := by decide +kernel
theorem dX4_isConsistent_9 : decode cX4_isConsistent 9 = .ok (.getfield 25, 3) := by decide +kernel
theorem dX4_isConsistent_12 : decode cX4_isConsistent 12 = .ok (.invokevirtual 122, 3) := by decide +kernel
theorem dX4_isConsistent_15 : decode cX4_isConsistent 15 = .ok (.aload_n 0, 1) := by decide +kernel
theorem dX4_isConsistent_16 : decode cX4_isConsistent 16 = .ok (.getfield 32, 3) := by decide +kernel
theorem dX4_isConsistent_19 : decode cX4_isConsistent 19 = .ok (.invokevirtual 132, 3) := by decide +kernel
theorem dX4_isConsistent_22 : decode cX4_isConsistent 22 = .ok (.ifCond .eq 7, 3) := by decide +kernel
theorem dX4_isConsistent_25 : decode cX4_isConsistent 25 = .ok (.iconst 1, 1) := by decide +kernel
theorem dX4_isConsistent_26 : decode cX4_isConsistent 26 = .ok (.goto 4, 3) := by decide +kernel
theorem dX4_isConsistent_29 : decode cX4_isConsistent 29 = .ok (.iconst 0, 1) := by decide +kernel
theorem dX4_isConsistent_30 : decode cX4_isConsistent 30 = .ok (.ireturn, 1) := by decide +kernel
set_option maxRecDepth 20000 in
theorem ggX4_isIdentifiable_X4_routeError : GoodIn wsX4_isIdentifiable wsX4_routeError := goodIn_r _ [8, 2, 9, 10, 11, 7, 12, 13, 14, 15, 16, 17, 18, 19, 20, 21, 22, 23, 24, 25, 26, 101, 102, 103, 104, 105, 106, 107, 108, 109, 110, 111, 112, 113] (by decide +kernel) (by decide +kernel)
set_option maxRecDepth 20000 in
theorem gX4_isIdentifiable_X4_routeError : GoodIn wsX4_isIdentifiable (wsV RX4 78 RX4 yX4_routeError wsX4_routeError) := goodIn_app (goodIn_of _ (by decide +kernel)) ggX4_isIdentifiable_X4_routeError
set_option maxRecDepth 20000 in
theorem ggX4_isIdentifiable_X0_solve : GoodIn wsX4_isIdentifiable wsX0_solve := goodIn_r _ [31, 32, 33, 34, 35, 36, 30, 37, 38, 39, 40, 23, 24, 16, 25, 26, 41, 42, 43, 44, 45, 46, 47, 48, 49, 50, 51, 52, 53, 54, 55, 56, 57, 58, 59, 60, 61, 62, 63, 64, 65, 66, 67, 68, 69, 70, 71, 72, 73, 74, 75, 76, 77, 78, 79, 80, 81, 82, 83, 84, 85, 86, 87, 88, 106, 107, 108, 109, 110, 111, 112, 113, 114, 115, 116, 117, 118, 119, 120, 121, 122, 123, 124, 125] (by decide +kernel) (by decide +kernel)
set_option maxRecDepth 20000 in
theorem gX4_isIdentifiable_X0_solve : GoodIn wsX4_isIdentifiable (wsV RX4 122 RX0 yX0_solve wsX0_solve) := goodIn_app (goodIn_of _ (by decide +kernel)) ggX4_isIdentifiable_X0_solve
set_option maxRecDepth 20000 in
theorem ggX4_isIdentifiable_X4_slotOf : GoodIn wsX4_isIdentifiable wsX4_slotOf := goodIn_r _ [21] (by decide +kernel) (by decide +kernel)
set_option maxRecDepth 20000 in
theorem gX4_isIdentifiable_X4_slotOf : GoodIn wsX4_isIdentifiable (va_wsS RX4 84 yX4_slotOf wsX4_slotOf) := goodIn_app (goodIn_of _ (by decide +kernel)) ggX4_isIdentifiable_X4_slotOf
set_option maxRecDepth 20000 in
theorem ggX4_isIdentifiable_X0_determine : GoodIn wsX4_isIdentifiable wsX0_determine := goodIn_r _ [92, 93, 94, 95, 30, 96, 97, 98, 99, 100, 39, 69, 51, 114, 115, 116, 117, 118, 119, 120, 121] (by decide +kernel) (by decide +kernel)
set_option maxRecDepth 20000 in
theorem gX4_isIdentifiable_X0_determine : GoodIn wsX4_isIdentifiable (wsV RX4 136 RX0 yX0_determine wsX0_determine) := goodIn_app (goodIn_of _ (by decide +kernel)) ggX4_isIdentifiable_X0_determine
theorem dX4_isIdentifiable_0 : decode cX4_isIdentifiable 0 = .ok (.aload_n 0, 1) := by decide +kernel
theorem dX4_isIdentifiable_1 : decode cX4_isIdentifiable 1 = .ok (.iload_n 1, 1) := by decide +kernel
theorem dX4_isIdentifiable_2 : decode cX4_isIdentifiable 2 = .ok (.iload_n 2, 1) := by decide +kernel
theorem dX4_isIdentifiable_3 : decode cX4_isIdentifiable 3 = .ok (.invokevirtual 78, 3) := by decide +kernel
theorem dX4_isIdentifiable_6 : decode cX4_isIdentifiable 6 = .ok (.istore_n 3, 1) := by decide +kernel
theorem dX4_isIdentifiable_7 : decode cX4_isIdentifiable 7 = .ok (.iload_n 3, 1) := by decide +kernel
theorem dX4_isIdentifiable_8 : decode cX4_isIdentifiable 8 = .ok (.ifCond .eq 5, 3) := by decide +kernel
theorem dX4_isIdentifiable_11 : decode cX4_isIdentifiable 11 = .ok (.iload_n 3, 1) := by decide +kernel
theorem dX4_isIdentifiable_12 : decode cX4_isIdentifiable 12 = .ok (.ireturn, 1) := by decide +kernel
theorem dX4_isIdentifiable_13 : decode cX4_isIdentifiable 13 = .ok (.aload_n 0, 1) := by decide +kernel
theorem dX4_isIdentifiable_14 : decode cX4_isIdentifiable 14 = .ok (.getfield 32, 3) := by decide +kernel
theorem dX4_isIdentifiable_17 : decode cX4_isIdentifiable 17 = .ok (.aload_n 0, 1) := by decide +kernel
theorem dX4_isIdentifiable_18 : decode cX4_isIdentifiable 18 = .ok (.getfield 14, 3) := by decide +kernel
theorem dX4_isIdentifiable_21 : decode cX4_isIdentifiable 21 = .ok (.aload_n 0, 1) := by decide +kernel
theorem dX4_isIdentifiable_22 : decode cX4_isIdentifiable 22 = .ok (.getfield 25, 3) := by decide +kernel
theorem dX4_isIdentifiable_25 : decode cX4_isIdentifiable 25 = .ok (.invokevirtual 122, 3) := by decide +kernel
theorem dX4_isIdentifiable_28 : decode cX4_isIdentifiable 28 = .ok (.aload_n 0, 1) := by decide +kernel
theorem dX4_isIdentifiable_29 : decode cX4_isIdentifiable 29 = .ok (.getfield 32, 3) := by decide +kernel
theorem dX4_isIdentifiable_32 : decode cX4_isIdentifiable 32 = .ok (.iload_n 1, 1) := by decide +kernel
theorem dX4_isIdentifiable_33 : decode cX4_isIdentifiable 33 = .ok (.iload_n 2, 1) := by decide +kernel
theorem dX4_isIdentifiable_34 : decode cX4_isIdentifiable 34 = .ok (.invokestatic 84, 3) := by decide +kernel
theorem dX4_isIdentifiable_37 : decode cX4_isIdentifiable 37 = .ok (.invokevirtual 136, 3) := by decide +kernel
theorem dX4_isIdentifiable_40 : decode cX4_isIdentifiable 40 = .ok (.ifCond .eq 7, 3) := by decide +kernel
theorem dX4_isIdentifiable_43 : decode cX4_isIdentifiable 43 = .ok (.iconst 1, 1) := by decide +kernel
theorem dX4_isIdentifiable_44 : decode cX4_isIdentifiable 44 = .ok (.goto 4, 3) := by decide +kernel
theorem dX4_isIdentifiable_47 : decode cX4_isIdentifiable 47 = .ok (.iconst 0, 1) := by decide +kernel
theorem dX4_isIdentifiable_48 : decode cX4_isIdentifiable 48 = .ok (.ireturn, 1) := by decide +kernel
set_option maxRecDepth 20000 in
theorem ggX4_identifiableCount_X0_solve : GoodIn wsX4_identifiableCount wsX0_solve := goodIn_r _ [8, 9, 10, 11, 12, 13, 7, 14, 15, 16, 17, 18, 19, 20, 21, 22, 23, 24, 25, 26, 27, 28, 29, 30, 31, 32, 33, 34, 35, 36, 37, 38, 39, 40, 41, 42, 43, 44, 45, 46, 47, 48, 49, 50, 51, 52, 53, 54, 55, 56, 57, 58, 59, 60, 61, 62, 63, 64, 65, 66, 67, 68, 69, 70, 89, 90, 91, 92, 93, 94, 95, 96, 97, 98, 99, 100, 101, 102, 103, 104, 105, 106, 107, 108] (by decide +kernel) (by decide +kernel)
set_option maxRecDepth 20000 in
theorem gX4_identifiableCount_X0_solve : GoodIn wsX4_identifiableCount (wsV RX4 122 RX0 yX0_solve wsX0_solve) := goodIn_app (goodIn_of _ (by decide +kernel)) ggX4_identifiableCount_X0_solve
set_option maxRecDepth 20000 in
theorem ggX4_identifiableCount_X3_hasRoute : GoodIn wsX4_identifiableCount wsX3_hasRoute := goodIn_r _ [21, 22, 89, 90, 91, 92, 93, 94, 95, 96] (by decide +kernel) (by decide +kernel)
set_option maxRecDepth 20000 in
theorem gX4_identifiableCount_X3_hasRoute : GoodIn wsX4_identifiableCount (wsV RX4 139 RX3 yX3_hasRoute wsX3_hasRoute) := goodIn_app (goodIn_of _ (by decide +kernel)) ggX4_identifiableCount_X3_hasRoute
set_option maxRecDepth 20000 in
theorem ggX4_identifiableCount_X0_determine : GoodIn wsX4_identifiableCount wsX0_determine := goodIn_r _ [75, 76, 77, 78, 7, 79, 80, 81, 82, 83, 16, 51, 33, 97, 98, 99, 100, 101, 102, 103, 104] (by decide +kernel) (by decide +kernel)
set_option maxRecDepth 20000 in
theorem gX4_identifiableCount_X0_determine : GoodIn wsX4_identifiableCount (wsV RX4 136 RX0 yX0_determine wsX0_determine) := goodIn_app (goodIn_of _ (by decide +kernel)) ggX4_identifiableCount_X0_determine
theorem dX4_identifiableCount_0 : decode cX4_identifiableCount 0 = .ok (.aload_n 0, 1) := by decide +kernel
theorem dX4_identifiableCount_1 : decode cX4_identifiableCount 1 = .ok (.getfield 32, 3) := by decide +kernel
theorem dX4_identifiableCount_4 : decode cX4_identifiableCount 4 = .ok (.aload_n 0, 1) := by decide +kernel
theorem dX4_identifiableCount_5 : decode cX4_identifiableCount 5 = .ok (.getfield 14, 3) := by decide +kernel
theorem dX4_identifiableCount_8 : decode cX4_identifiableCount 8 = .ok (.aload_n 0, 1) := by decide +kernel
theorem dX4_identifiableCount_9 : decode cX4_identifiableCount 9 = .ok (.getfield 25, 3) := by decide +kernel
theorem dX4_identifiableCount_12 : decode cX4_identifiableCount 12 = .ok (.invokevirtual 122, 3) := by decide +kernel
theorem dX4_identifiableCount_15 : decode cX4_identifiableCount 15 = .ok (.iconst 0, 1) := by decide +kernel
theorem dX4_identifiableCount_16 : decode cX4_identifiableCount 16 = .ok (.istore_n 1, 1) := by decide +kernel
theorem dX4_identifiableCount_17 : decode cX4_identifiableCount 17 = .ok (.iconst 0, 1) := by decide +kernel
theorem dX4_identifiableCount_18 : decode cX4_identifiableCount 18 = .ok (.istore_n 2, 1) := by decide +kernel
theorem dX4_identifiableCount_19 : decode cX4_identifiableCount 19 = .ok (.iload_n 2, 1) := by decide +kernel
theorem dX4_identifiableCount_20 : decode cX4_identifiableCount 20 = .ok (.bipush 25, 2) := by decide +kernel
theorem dX4_identifiableCount_22 : decode cX4_identifiableCount 22 = .ok (.if_icmp .ge 34, 3) := by decide +kernel
theorem dX4_identifiableCount_25 : decode cX4_identifiableCount 25 = .ok (.aload_n 0, 1) := by decide +kernel
theorem dX4_identifiableCount_26 : decode cX4_identifiableCount 26 = .ok (.getfield 14, 3) := by decide +kernel
theorem dX4_identifiableCount_29 : decode cX4_identifiableCount 29 = .ok (.iload_n 2, 1) := by decide +kernel
theorem dX4_identifiableCount_30 : decode cX4_identifiableCount 30 = .ok (.invokevirtual 139, 3) := by decide +kernel
theorem dX4_identifiableCount_33 : decode cX4_identifiableCount 33 = .ok (.ifCond .eq 17, 3) := by decide +kernel
theorem dX4_identifiableCount_36 : decode cX4_identifiableCount 36 = .ok (.aload_n 0, 1) := by decide +kernel
theorem dX4_identifiableCount_37 : decode cX4_identifiableCount 37 = .ok (.getfield 32, 3) := by decide +kernel
theorem dX4_identifiableCount_40 : decode cX4_identifiableCount 40 = .ok (.iload_n 2, 1) := by decide +kernel
theorem dX4_identifiableCount_41 : decode cX4_identifiableCount 41 = .ok (.invokevirtual 136, 3) := by decide +kernel
theorem dX4_identifiableCount_44 : decode cX4_identifiableCount 44 = .ok (.ifCond .eq 6, 3) := by decide +kernel
theorem dX4_identifiableCount_47 : decode cX4_identifiableCount 47 = .ok (.iinc 1 1, 3) := by decide +kernel
theorem dX4_identifiableCount_50 : decode cX4_identifiableCount 50 = .ok (.iinc 2 1, 3) := by decide +kernel
theorem dX4_identifiableCount_53 : decode cX4_identifiableCount 53 = .ok (.goto (-34), 3) := by decide +kernel
theorem dX4_identifiableCount_56 : decode cX4_identifiableCount 56 = .ok (.iload_n 1, 1) := by decide +kernel
theorem dX4_identifiableCount_57 : decode cX4_identifiableCount 57 = .ok (.ireturn, 1) := by decide +kernel
set_option maxRecDepth 20000 in
theorem ggX4_identifiedNumerator_X4_findIdentified : GoodIn wsX4_identifiedNumerator wsX4_findIdentified := goodIn_r _ [8, 2, 9, 3, 10, 11, 12, 7, 13, 14, 15, 16, 17, 18, 19, 20, 21, 22, 23, 24, 25, 26, 27, 28, 29, 30, 31, 32, 33, 34, 35, 36, 37, 38, 39, 40, 41, 42, 43, 44, 45, 46, 47, 48, 49, 50, 51, 52, 53, 54, 55, 56, 57, 58, 59, 60, 61, 62, 63, 64, 65, 66, 67, 68, 69, 70, 71, 72, 73, 74, 75, 76, 77, 78, 79, 80, 81, 82, 83, 84, 85, 86, 87, 88, 89, 90, 91, 92, 93, 94, 95, 96, 97, 98, 99, 100, 101, 102, 103, 104, 105, 106, 107, 108, 109, 122, 123, 124, 125, 126, 127, 128, 129, 130, 131, 132, 133, 134, 135, 136, 137, 138, 139, 140, 141, 142, 143, 144, 145, 146] (by decide +kernel) (by decide +kernel)
set_option maxRecDepth 20000 in
theorem gX4_identifiedNumerator_X4_findIdentified : GoodIn wsX4_identifiedNumerator (wsV RX4 142 RX4 yX4_findIdentified wsX4_findIdentified) := goodIn_app (goodIn_of _ (by decide +kernel)) ggX4_identifiedNumerator_X4_findIdentified
set_option maxRecDepth 20000 in
theorem ggX4_identifiedNumerator_X4_slotOf : GoodIn wsX4_identifiedNumerator wsX4_slotOf := goodIn_r _ [26] (by decide +kernel) (by decide +kernel)
set_option maxRecDepth 20000 in
theorem gX4_identifiedNumerator_X4_slotOf : GoodIn wsX4_identifiedNumerator (va_wsS RX4 84 yX4_slotOf wsX4_slotOf) := goodIn_app (goodIn_of _ (by decide +kernel)) ggX4_identifiedNumerator_X4_slotOf
set_option maxRecDepth 20000 in
theorem ggX4_identifiedNumerator_X0_numeratorOf : GoodIn wsX4_identifiedNumerator wsX0_numeratorOf := goodIn_r _ [113, 74, 58, 56, 73, 114, 115, 116, 35, 117, 118, 119, 120, 121, 91, 92, 93, 135, 136, 137, 138, 139, 140, 141, 142, 143, 144, 145, 146] (by decide +kernel) (by decide +kernel)
set_option maxRecDepth 20000 in
theorem gX4_identifiedNumerator_X0_numeratorOf : GoodIn wsX4_identifiedNumerator (wsV RX4 148 RX0 yX0_numeratorOf wsX0_numeratorOf) := goodIn_app (goodIn_of _ (by decide +kernel)) ggX4_identifiedNumerator_X0_numeratorOf
theorem dX4_identifiedNumerator_0 : decode cX4_identifiedNumerator 0 = .ok (.aload_n 0, 1) := by decide +kernel
theorem dX4_identifiedNumerator_1 : decode cX4_identifiedNumerator 1 = .ok (.iload_n 1, 1) := by decide +kernel
theorem dX4_identifiedNumerator_2 : decode cX4_identifiedNumerator 2 = .ok (.iload_n 2, 1) := by decide +kernel
theorem dX4_identifiedNumerator_3 : decode cX4_identifiedNumerator 3 = .ok (.invokevirtual 142, 3) := by decide +kernel
theorem dX4_identifiedNumerator_6 : decode cX4_identifiedNumerator 6 = .ok (.ifCond .ne 7, 3) := by decide +kernel
theorem dX4_identifiedNumerator_9 : decode cX4_identifiedNumerator 9 = .ok (.ldc2_w 146, 3) := by decide +kernel
theorem dX4_identifiedNumerator_12 : decode cX4_identifiedNumerator 12 = .ok (.lreturn, 1) := by decide +kernel
theorem dX4_identifiedNumerator_13 : decode cX4_identifiedNumerator 13 = .ok (.aload_n 0, 1) := by decide +kernel
theorem dX4_identifiedNumerator_14 : decode cX4_identifiedNumerator 14 = .ok (.getfield 32, 3) := by decide +kernel
theorem dX4_identifiedNumerator_17 : decode cX4_identifiedNumerator 17 = .ok (.iload_n 1, 1) := by decide +kernel
theorem dX4_identifiedNumerator_18 : decode cX4_identifiedNumerator 18 = .ok (.iload_n 2, 1) := by decide +kernel
theorem dX4_identifiedNumerator_19 : decode cX4_identifiedNumerator 19 = .ok (.invokestatic 84, 3) := by decide +kernel
theorem dX4_identifiedNumerator_22 : decode cX4_identifiedNumerator 22 = .ok (.aload_n 0, 1) := by decide +kernel
theorem dX4_identifiedNumerator_23 : decode cX4_identifiedNumerator 23 = .ok (.getfield 25, 3) := by decide +kernel
theorem dX4_identifiedNumerator_26 : decode cX4_identifiedNumerator 26 = .ok (.invokevirtual 148, 3) := by decide +kernel
theorem dX4_identifiedNumerator_29 : decode cX4_identifiedNumerator 29 = .ok (.lreturn, 1) := by decide +kernel
set_option maxRecDepth 20000 in
theorem ggX4_identifiedDenominator_X4_findIdentified : GoodIn wsX4_identifiedDenominator wsX4_findIdentified := goodIn_r _ [7, 2, 8, 9, 10, 11, 12, 6, 13, 14, 15, 16, 17, 18, 19, 20, 21, 22, 23, 24, 25, 26, 27, 28, 29, 30, 31, 32, 33, 34, 35, 36, 37, 38, 39, 40, 41, 42, 43, 44, 45, 46, 47, 48, 49, 50, 51, 52, 53, 54, 55, 56, 57, 58, 59, 60, 61, 62, 63, 64, 65, 66, 67, 68, 69, 70, 71, 72, 73, 74, 75, 76, 77, 78, 79, 80, 81, 82, 83, 84, 85, 86, 87, 88, 89, 90, 91, 92, 93, 94, 95, 96, 97, 98, 99, 100, 101, 102, 103, 104, 105, 106, 107, 108, 109, 122, 123, 124, 125, 126, 127, 128, 129, 130, 131, 132, 133, 134, 135, 136, 137, 138, 139, 140, 141, 142, 143, 144, 145, 146] (by decide +kernel) (by decide +kernel)
set_option maxRecDepth 20000 in
theorem gX4_identifiedDenominator_X4_findIdentified : GoodIn wsX4_identifiedDenominator (wsV RX4 142 RX4 yX4_findIdentified wsX4_findIdentified) := goodIn_app (goodIn_of _ (by decide +kernel)) ggX4_identifiedDenominator_X4_findIdentified
set_option maxRecDepth 20000 in
theorem ggX4_identifiedDenominator_X4_slotOf : GoodIn wsX4_identifiedDenominator wsX4_slotOf := goodIn_r _ [26] (by decide +kernel) (by decide +kernel)
set_option maxRecDepth 20000 in
theorem gX4_identifiedDenominator_X4_slotOf : GoodIn wsX4_identifiedDenominator (va_wsS RX4 84 yX4_slotOf wsX4_slotOf) := goodIn_app (goodIn_of _ (by decide +kernel)) ggX4_identifiedDenominator_X4_slotOf
set_option maxRecDepth 20000 in
theorem ggX4_identifiedDenominator_X0_denominatorOf : GoodIn wsX4_identifiedDenominator wsX0_denominatorOf := goodIn_r _ [113, 74, 73, 114, 115, 116, 117, 56, 118, 119, 120, 35, 121, 91, 92, 93, 135, 136, 137, 138, 139, 140, 141, 142] (by decide +kernel) (by decide +kernel)
set_option maxRecDepth 20000 in
theorem gX4_identifiedDenominator_X0_denominatorOf : GoodIn wsX4_identifiedDenominator (wsV RX4 152 RX0 yX0_denominatorOf wsX0_denominatorOf) := goodIn_app (goodIn_of _ (by decide +kernel)) ggX4_identifiedDenominator_X0_denominatorOf
theorem dX4_identifiedDenominator_0 : decode cX4_identifiedDenominator 0 = .ok (.aload_n 0, 1) := by decide +kernel
theorem dX4_identifiedDenominator_1 : decode cX4_identifiedDenominator 1 = .ok (.iload_n 1, 1) := by decide +kernel
theorem dX4_identifiedDenominator_2 : decode cX4_identifiedDenominator 2 = .ok (.iload_n 2, 1) := by decide +kernel
theorem dX4_identifiedDenominator_3 : decode cX4_identifiedDenominator 3 = .ok (.invokevirtual 142, 3) := by decide +kernel
theorem dX4_identifiedDenominator_6 : decode cX4_identifiedDenominator 6 = .ok (.ifCond .ne 7, 3) := by decide +kernel
theorem dX4_identifiedDenominator_9 : decode cX4_identifiedDenominator 9 = .ok (.ldc2_w 146, 3) := by decide +kernel
theorem dX4_identifiedDenominator_12 : decode cX4_identifiedDenominator 12 = .ok (.lreturn, 1) := by decide +kernel
theorem dX4_identifiedDenominator_13 : decode cX4_identifiedDenominator 13 = .ok (.aload_n 0, 1) := by decide +kernel
theorem dX4_identifiedDenominator_14 : decode cX4_identifiedDenominator 14 = .ok (.getfield 32, 3) := by decide +kernel
theorem dX4_identifiedDenominator_17 : decode cX4_identifiedDenominator 17 = .ok (.iload_n 1, 1) := by decide +kernel
theorem dX4_identifiedDenominator_18 : decode cX4_identifiedDenominator 18 = .ok (.iload_n 2, 1) := by decide +kernel
theorem dX4_identifiedDenominator_19 : decode cX4_identifiedDenominator 19 = .ok (.invokestatic 84, 3) := by decide +kernel
theorem dX4_identifiedDenominator_22 : decode cX4_identifiedDenominator 22 = .ok (.invokevirtual 152, 3) := by decide +kernel
theorem dX4_identifiedDenominator_25 : decode cX4_identifiedDenominator 25 = .ok (.lreturn, 1) := by decide +kernel
set_option maxRecDepth 20000 in
theorem ggX4_bestPair_X0_solve : GoodIn wsX4_bestPair wsX0_solve := goodIn_r _ [8, 9, 10, 11, 12, 13, 7, 14, 15, 16, 17, 18, 19, 20, 21, 22, 23, 24, 25, 26, 27, 28, 29, 30, 31, 32, 33, 34, 35, 36, 37, 38, 39, 40, 41, 42, 43, 44, 45, 46, 47, 48, 49, 50, 51, 52, 53, 54, 55, 56, 57, 58, 59, 60, 61, 62, 63, 64, 65, 66, 67, 68, 69, 70, 99, 100, 101, 102, 103, 104, 105, 106, 107, 108, 109, 110, 111, 112, 113, 114, 115, 116, 117, 118] (by decide +kernel) (by decide +kernel)
set_option maxRecDepth 20000 in
theorem gX4_bestPair_X0_solve : GoodIn wsX4_bestPair (wsV RX4 122 RX0 yX0_solve wsX0_solve) := goodIn_app (goodIn_of _ (by decide +kernel)) ggX4_bestPair_X0_solve
set_option maxRecDepth 20000 in
theorem ggX4_bestPair_X3_hasRoute : GoodIn wsX4_bestPair wsX3_hasRoute := goodIn_r _ [21, 22, 99, 100, 101, 102, 103, 104, 105, 106] (by decide +kernel) (by decide +kernel)
set_option maxRecDepth 20000 in
theorem gX4_bestPair_X3_hasRoute : GoodIn wsX4_bestPair (wsV RX4 139 RX3 yX3_hasRoute wsX3_hasRoute) := goodIn_app (goodIn_of _ (by decide +kernel)) ggX4_bestPair_X3_hasRoute
set_option maxRecDepth 20000 in
theorem ggX4_bestPair_X0_determine : GoodIn wsX4_bestPair wsX0_determine := goodIn_r _ [75, 76, 77, 78, 7, 79, 80, 81, 82, 83, 16, 51, 33, 107, 108, 109, 110, 111, 112, 113, 114] (by decide +kernel) (by decide +kernel)
set_option maxRecDepth 20000 in
theorem gX4_bestPair_X0_determine : GoodIn wsX4_bestPair (wsV RX4 136 RX0 yX0_determine wsX0_determine) := goodIn_app (goodIn_of _ (by decide +kernel)) ggX4_bestPair_X0_determine
set_option maxRecDepth 20000 in
theorem ggX4_bestPair_X4_countWith : GoodIn wsX4_bestPair wsX4_countWith := goodIn_r _ [88, 2, 1, 71, 18, 19, 20, 21, 22, 89, 90, 91, 7, 92, 76, 77, 78, 79, 80, 81, 82, 83, 16, 51, 33, 93, 73, 74, 75, 94, 95, 96, 97, 98, 99, 100, 101, 102, 103, 104, 105, 106, 107, 108, 109, 110, 111, 112, 113, 114] (by decide +kernel) (by decide +kernel)
set_option maxRecDepth 20000 in
theorem gX4_bestPair_X4_countWith : GoodIn wsX4_bestPair (wsV RX4 156 RX4 yX4_countWith wsX4_countWith) := goodIn_app (goodIn_of _ (by decide +kernel)) ggX4_bestPair_X4_countWith
theorem dX4_bestPair_0 : decode cX4_bestPair 0 = .ok (.aload_n 0, 1) := by decide +kernel
theorem dX4_bestPair_1 : decode cX4_bestPair 1 = .ok (.getfield 32, 3) := by decide +kernel
theorem dX4_bestPair_4 : decode cX4_bestPair 4 = .ok (.aload_n 0, 1) := by decide +kernel
theorem dX4_bestPair_5 : decode cX4_bestPair 5 = .ok (.getfield 14, 3) := by decide +kernel
theorem dX4_bestPair_8 : decode cX4_bestPair 8 = .ok (.aload_n 0, 1) := by decide +kernel
theorem dX4_bestPair_9 : decode cX4_bestPair 9 = .ok (.getfield 25, 3) := by decide +kernel
theorem dX4_bestPair_12 : decode cX4_bestPair 12 = .ok (.invokevirtual 122, 3) := by decide +kernel
theorem dX4_bestPair_15 : decode cX4_bestPair 15 = .ok (.bipush (-7), 2) := by decide +kernel
theorem dX4_bestPair_17 : decode cX4_bestPair 17 = .ok (.istore_n 1, 1) := by decide +kernel
theorem dX4_bestPair_18 : decode cX4_bestPair 18 = .ok (.iconst 0, 1) := by decide +kernel
theorem dX4_bestPair_19 : decode cX4_bestPair 19 = .ok (.istore_n 2, 1) := by decide +kernel
theorem dX4_bestPair_20 : decode cX4_bestPair 20 = .ok (.iconst 0, 1) := by decide +kernel
theorem dX4_bestPair_21 : decode cX4_bestPair 21 = .ok (.istore_n 3, 1) := by decide +kernel
theorem dX4_bestPair_22 : decode cX4_bestPair 22 = .ok (.iload_n 3, 1) := by decide +kernel
theorem dX4_bestPair_23 : decode cX4_bestPair 23 = .ok (.bipush 25, 2) := by decide +kernel
theorem dX4_bestPair_25 : decode cX4_bestPair 25 = .ok (.if_icmp .ge 58, 3) := by decide +kernel
theorem dX4_bestPair_28 : decode cX4_bestPair 28 = .ok (.aload_n 0, 1) := by decide +kernel
theorem dX4_bestPair_29 : decode cX4_bestPair 29 = .ok (.getfield 14, 3) := by decide +kernel
theorem dX4_bestPair_32 : decode cX4_bestPair 32 = .ok (.iload_n 3, 1) := by decide +kernel
theorem dX4_bestPair_33 : decode cX4_bestPair 33 = .ok (.invokevirtual 139, 3) := by decide +kernel
theorem dX4_bestPair_36 : decode cX4_bestPair 36 = .ok (.ifCond .eq 41, 3) := by decide +kernel
theorem dX4_bestPair_39 : decode cX4_bestPair 39 = .ok (.aload_n 0, 1) := by decide +kernel
theorem dX4_bestPair_40 : decode cX4_bestPair 40 = .ok (.getfield 32, 3) := by decide +kernel
theorem dX4_bestPair_43 : decode cX4_bestPair 43 = .ok (.iload_n 3, 1) := by decide +kernel
theorem dX4_bestPair_44 : decode cX4_bestPair 44 = .ok (.invokevirtual 136, 3) := by decide +kernel
theorem dX4_bestPair_47 : decode cX4_bestPair 47 = .ok (.ifCond .ne 30, 3) := by decide +kernel
theorem dX4_bestPair_50 : decode cX4_bestPair 50 = .ok (.aload_n 0, 1) := by decide +kernel
theorem dX4_bestPair_51 : decode cX4_bestPair 51 = .ok (.iload_n 3, 1) := by decide +kernel
theorem dX4_bestPair_52 : decode cX4_bestPair 52 = .ok (.invokevirtual 156, 3) := by decide +kernel
theorem dX4_bestPair_55 : decode cX4_bestPair 55 = .ok (.istore 4, 2) := by decide +kernel
theorem dX4_bestPair_57 : decode cX4_bestPair 57 = .ok (.iload 4, 2) := by decide +kernel
theorem dX4_bestPair_59 : decode cX4_bestPair 59 = .ok (.iload_n 2, 1) := by decide +kernel
theorem dX4_bestPair_60 : decode cX4_bestPair 60 = .ok (.if_icmp .le 17, 3) := by decide +kernel
theorem dX4_bestPair_63 : decode cX4_bestPair 63 = .ok (.iload 4, 2) := by decide +kernel
theorem dX4_bestPair_65 : decode cX4_bestPair 65 = .ok (.istore_n 2, 1) := by decide +kernel
theorem dX4_bestPair_66 : decode cX4_bestPair 66 = .ok (.bipush 10, 2) := by decide +kernel
theorem dX4_bestPair_68 : decode cX4_bestPair 68 = .ok (.iload_n 3, 1) := by decide +kernel
theorem dX4_bestPair_69 : decode cX4_bestPair 69 = .ok (.iconst 5, 1) := by decide +kernel
theorem dX4_bestPair_70 : decode cX4_bestPair 70 = .ok (.idiv, 1) := by decide +kernel
theorem dX4_bestPair_71 : decode cX4_bestPair 71 = .ok (.imul, 1) := by decide +kernel
theorem dX4_bestPair_72 : decode cX4_bestPair 72 = .ok (.iload_n 3, 1) := by decide +kernel
theorem dX4_bestPair_73 : decode cX4_bestPair 73 = .ok (.iconst 5, 1) := by decide +kernel
theorem dX4_bestPair_74 : decode cX4_bestPair 74 = .ok (.irem, 1) := by decide +kernel
theorem dX4_bestPair_75 : decode cX4_bestPair 75 = .ok (.iadd, 1) := by decide +kernel
theorem dX4_bestPair_76 : decode cX4_bestPair 76 = .ok (.istore_n 1, 1) := by decide +kernel
theorem dX4_bestPair_77 : decode cX4_bestPair 77 = .ok (.iinc 3 1, 3) := by decide +kernel
theorem dX4_bestPair_80 : decode cX4_bestPair 80 = .ok (.goto (-58), 3) := by decide +kernel
theorem dX4_bestPair_83 : decode cX4_bestPair 83 = .ok (.iload_n 1, 1) := by decide +kernel
theorem dX4_bestPair_84 : decode cX4_bestPair 84 = .ok (.ireturn, 1) := by decide +kernel
set_option maxRecDepth 20000 in
theorem ggX4_pairsOnLink_X3_hasLink : GoodIn wsX4_pairsOnLink wsX3_hasLink := goodIn_r _ [6, 7, 19, 20, 21, 22, 23, 24, 25, 26] (by decide +kernel) (by decide +kernel)
set_option maxRecDepth 20000 in
theorem gX4_pairsOnLink_X3_hasLink : GoodIn wsX4_pairsOnLink (wsV RX4 72 RX3 yX3_hasLink wsX3_hasLink) := goodIn_app (goodIn_of _ (by decide +kernel)) ggX4_pairsOnLink_X3_hasLink
set_option maxRecDepth 20000 in
theorem ggX4_pairsOnLink_X3_routeUses : GoodIn wsX4_pairsOnLink wsX3_routeUses := goodIn_r _ [11, 12, 13, 19, 20, 21, 22, 23, 24, 25, 26] (by decide +kernel) (by decide +kernel)
set_option maxRecDepth 20000 in
theorem gX4_pairsOnLink_X3_routeUses : GoodIn wsX4_pairsOnLink (wsV RX4 160 RX3 yX3_routeUses wsX3_routeUses) := goodIn_app (goodIn_of _ (by decide +kernel)) ggX4_pairsOnLink_X3_routeUses
theorem dX4_pairsOnLink_0 : decode cX4_pairsOnLink 0 = .ok (.aload_n 0, 1) := by decide +kernel
theorem dX4_pairsOnLink_1 : decode cX4_pairsOnLink 1 = .ok (.getfield 14, 3) := by decide +kernel
theorem dX4_pairsOnLink_4 : decode cX4_pairsOnLink 4 = .ok (.iload_n 1, 1) := by decide +kernel
theorem dX4_pairsOnLink_5 : decode cX4_pairsOnLink 5 = .ok (.invokevirtual 72, 3) := by decide +kernel
theorem dX4_pairsOnLink_8 : decode cX4_pairsOnLink 8 = .ok (.ifCond .ne 6, 3) := by decide +kernel
theorem dX4_pairsOnLink_11 : decode cX4_pairsOnLink 11 = .ok (.bipush (-3), 2) := by decide +kernel
theorem dX4_pairsOnLink_13 : decode cX4_pairsOnLink 13 = .ok (.ireturn, 1) := by decide +kernel
theorem dX4_pairsOnLink_14 : decode cX4_pairsOnLink 14 = .ok (.iconst 0, 1) := by decide +kernel
theorem dX4_pairsOnLink_15 : decode cX4_pairsOnLink 15 = .ok (.istore_n 2, 1) := by decide +kernel
theorem dX4_pairsOnLink_16 : decode cX4_pairsOnLink 16 = .ok (.iconst 0, 1) := by decide +kernel
theorem dX4_pairsOnLink_17 : decode cX4_pairsOnLink 17 = .ok (.istore_n 3, 1) := by decide +kernel
theorem dX4_pairsOnLink_18 : decode cX4_pairsOnLink 18 = .ok (.iload_n 3, 1) := by decide +kernel
theorem dX4_pairsOnLink_19 : decode cX4_pairsOnLink 19 = .ok (.bipush 25, 2) := by decide +kernel
theorem dX4_pairsOnLink_21 : decode cX4_pairsOnLink 21 = .ok (.if_icmp .ge 24, 3) := by decide +kernel
theorem dX4_pairsOnLink_24 : decode cX4_pairsOnLink 24 = .ok (.aload_n 0, 1) := by decide +kernel
theorem dX4_pairsOnLink_25 : decode cX4_pairsOnLink 25 = .ok (.getfield 14, 3) := by decide +kernel
theorem dX4_pairsOnLink_28 : decode cX4_pairsOnLink 28 = .ok (.iload_n 3, 1) := by decide +kernel
theorem dX4_pairsOnLink_29 : decode cX4_pairsOnLink 29 = .ok (.iload_n 1, 1) := by decide +kernel
theorem dX4_pairsOnLink_30 : decode cX4_pairsOnLink 30 = .ok (.invokevirtual 160, 3) := by decide +kernel
theorem dX4_pairsOnLink_33 : decode cX4_pairsOnLink 33 = .ok (.ifCond .eq 6, 3) := by decide +kernel
theorem dX4_pairsOnLink_36 : decode cX4_pairsOnLink 36 = .ok (.iinc 2 1, 3) := by decide +kernel
theorem dX4_pairsOnLink_39 : decode cX4_pairsOnLink 39 = .ok (.iinc 3 1, 3) := by decide +kernel
theorem dX4_pairsOnLink_42 : decode cX4_pairsOnLink 42 = .ok (.goto (-24), 3) := by decide +kernel
theorem dX4_pairsOnLink_45 : decode cX4_pairsOnLink 45 = .ok (.iload_n 2, 1) := by decide +kernel
theorem dX4_pairsOnLink_46 : decode cX4_pairsOnLink 46 = .ok (.ireturn, 1) := by decide +kernel
set_option maxRecDepth 20000 in
theorem ggX4_applyGravity_X1_takeGravity : GoodIn wsX4_applyGravity wsX1_takeGravity := goodIn_r _ [8, 9, 10, 11, 12, 13, 14, 15, 16, 17, 18, 19, 20, 21, 22, 23, 24, 25, 7, 26, 27, 33, 34, 35, 36, 37, 38, 39, 40, 41, 42, 43, 44, 45, 46] (by decide +kernel) (by decide +kernel)
set_option maxRecDepth 20000 in
theorem gX4_applyGravity_X1_takeGravity : GoodIn wsX4_applyGravity (wsV RX4 163 RX1 yX1_takeGravity wsX1_takeGravity) := goodIn_app (goodIn_of _ (by decide +kernel)) ggX4_applyGravity_X1_takeGravity
theorem dX4_applyGravity_0 : decode cX4_applyGravity 0 = .ok (.aload_n 0, 1) := by decide +kernel
theorem dX4_applyGravity_1 : decode cX4_applyGravity 1 = .ok (.getfield 39, 3) := by decide +kernel
theorem dX4_applyGravity_4 : decode cX4_applyGravity 4 = .ok (.aload_n 0, 1) := by decide +kernel
theorem dX4_applyGravity_5 : decode cX4_applyGravity 5 = .ok (.getfield 14, 3) := by decide +kernel
theorem dX4_applyGravity_8 : decode cX4_applyGravity 8 = .ok (.aload_n 0, 1) := by decide +kernel
theorem dX4_applyGravity_9 : decode cX4_applyGravity 9 = .ok (.getfield 25, 3) := by decide +kernel
theorem dX4_applyGravity_12 : decode cX4_applyGravity 12 = .ok (.invokevirtual 163, 3) := by decide +kernel
theorem dX4_applyGravity_15 : decode cX4_applyGravity 15 = .ok (.ireturn, 1) := by decide +kernel
set_option maxRecDepth 20000 in
theorem ggX4_fitTotals_X4_isTimes : GoodIn wsX4_fitTotals wsX4_isTimes := goodIn_r _ [6] (by decide +kernel) (by decide +kernel)
set_option maxRecDepth 20000 in
theorem gX4_fitTotals_X4_isTimes : GoodIn wsX4_fitTotals (va_wsS RX4 167 yX4_isTimes wsX4_isTimes) := goodIn_app (goodIn_of _ (by decide +kernel)) ggX4_fitTotals_X4_isTimes
set_option maxRecDepth 20000 in
theorem ggX4_fitTotals_X1_remember : GoodIn wsX4_fitTotals wsX1_remember := goodIn_r _ [11, 12, 13, 14, 15, 16, 17, 43, 44] (by decide +kernel) (by decide +kernel)
set_option maxRecDepth 20000 in
theorem gX4_fitTotals_X1_remember : GoodIn wsX4_fitTotals (wsV RX4 170 RX1 yX1_remember wsX1_remember) := goodIn_app (goodIn_of _ (by decide +kernel)) ggX4_fitTotals_X1_remember
set_option maxRecDepth 20000 in
theorem ggX4_fitTotals_X1_fitOnceToTotals : GoodIn wsX4_fitTotals wsX1_fitOnceToTotals := goodIn_r _ [21, 22, 23, 24, 5, 25, 26, 27, 28, 10, 29, 12, 30, 31, 32, 33, 45, 46, 47, 48, 43, 44] (by decide +kernel) (by decide +kernel)
set_option maxRecDepth 20000 in
theorem gX4_fitTotals_X1_fitOnceToTotals : GoodIn wsX4_fitTotals (wsV RX4 173 RX1 yX1_fitOnceToTotals wsX1_fitOnceToTotals) := goodIn_app (goodIn_of _ (by decide +kernel)) ggX4_fitTotals_X1_fitOnceToTotals
set_option maxRecDepth 20000 in
theorem ggX4_fitTotals_X1_countChanged : GoodIn wsX4_fitTotals wsX1_countChanged := goodIn_r _ [37, 12, 13, 43, 44] (by decide +kernel) (by decide +kernel)
set_option maxRecDepth 20000 in
theorem gX4_fitTotals_X1_countChanged : GoodIn wsX4_fitTotals (wsV RX4 177 RX1 yX1_countChanged wsX1_countChanged) := goodIn_app (goodIn_of _ (by decide +kernel)) ggX4_fitTotals_X1_countChanged
theorem dX4_fitTotals_0 : decode cX4_fitTotals 0 = .ok (.iload_n 1, 1) := by decide +kernel
theorem dX4_fitTotals_1 : decode cX4_fitTotals 1 = .ok (.invokestatic 167, 3) := by decide +kernel
theorem dX4_fitTotals_4 : decode cX4_fitTotals 4 = .ok (.ifCond .ne 6, 3) := by decide +kernel
theorem dX4_fitTotals_7 : decode cX4_fitTotals 7 = .ok (.bipush (-4), 2) := by decide +kernel
theorem dX4_fitTotals_9 : decode cX4_fitTotals 9 = .ok (.ireturn, 1) := by decide +kernel
theorem dX4_fitTotals_10 : decode cX4_fitTotals 10 = .ok (.aload_n 0, 1) := by decide +kernel
theorem dX4_fitTotals_11 : decode cX4_fitTotals 11 = .ok (.getfield 39, 3) := by decide +kernel
theorem dX4_fitTotals_14 : decode cX4_fitTotals 14 = .ok (.invokevirtual 170, 3) := by decide +kernel
theorem dX4_fitTotals_17 : decode cX4_fitTotals 17 = .ok (.iconst 0, 1) := by decide +kernel
theorem dX4_fitTotals_18 : decode cX4_fitTotals 18 = .ok (.istore_n 2, 1) := by decide +kernel
theorem dX4_fitTotals_19 : decode cX4_fitTotals 19 = .ok (.iload_n 2, 1) := by decide +kernel
theorem dX4_fitTotals_20 : decode cX4_fitTotals 20 = .ok (.iload_n 1, 1) := by decide +kernel
theorem dX4_fitTotals_21 : decode cX4_fitTotals 21 = .ok (.if_icmp .ge 20, 3) := by decide +kernel
theorem dX4_fitTotals_24 : decode cX4_fitTotals 24 = .ok (.aload_n 0, 1) := by decide +kernel
theorem dX4_fitTotals_25 : decode cX4_fitTotals 25 = .ok (.getfield 39, 3) := by decide +kernel
theorem dX4_fitTotals_28 : decode cX4_fitTotals 28 = .ok (.aload_n 0, 1) := by decide +kernel
theorem dX4_fitTotals_29 : decode cX4_fitTotals 29 = .ok (.getfield 25, 3) := by decide +kernel
theorem dX4_fitTotals_32 : decode cX4_fitTotals 32 = .ok (.invokevirtual 173, 3) := by decide +kernel
theorem dX4_fitTotals_35 : decode cX4_fitTotals 35 = .ok (.iinc 2 1, 3) := by decide +kernel
theorem dX4_fitTotals_38 : decode cX4_fitTotals 38 = .ok (.goto (-19), 3) := by decide +kernel
theorem dX4_fitTotals_41 : decode cX4_fitTotals 41 = .ok (.aload_n 0, 1) := by decide +kernel
theorem dX4_fitTotals_42 : decode cX4_fitTotals 42 = .ok (.getfield 39, 3) := by decide +kernel
theorem dX4_fitTotals_45 : decode cX4_fitTotals 45 = .ok (.invokevirtual 177, 3) := by decide +kernel
theorem dX4_fitTotals_48 : decode cX4_fitTotals 48 = .ok (.ireturn, 1) := by decide +kernel
set_option maxRecDepth 20000 in
theorem ggX4_fitLinks_X4_isTimes : GoodIn wsX4_fitLinks wsX4_isTimes := goodIn_r _ [7] (by decide +kernel) (by decide +kernel)
set_option maxRecDepth 20000 in
theorem gX4_fitLinks_X4_isTimes : GoodIn wsX4_fitLinks (va_wsS RX4 167 yX4_isTimes wsX4_isTimes) := goodIn_app (goodIn_of _ (by decide +kernel)) ggX4_fitLinks_X4_isTimes
set_option maxRecDepth 20000 in
theorem ggX4_fitLinks_X1_remember : GoodIn wsX4_fitLinks wsX1_remember := goodIn_r _ [12, 13, 14, 15, 16, 17, 18, 53, 54] (by decide +kernel) (by decide +kernel)
set_option maxRecDepth 20000 in
theorem gX4_fitLinks_X1_remember : GoodIn wsX4_fitLinks (wsV RX4 170 RX1 yX1_remember wsX1_remember) := goodIn_app (goodIn_of _ (by decide +kernel)) ggX4_fitLinks_X1_remember
set_option maxRecDepth 20000 in
theorem ggX4_fitLinks_X1_fitOnceToLinks : GoodIn wsX4_fitLinks wsX1_fitOnceToLinks := goodIn_r _ [22, 23, 24, 25, 26, 27, 11, 28, 13, 29, 30, 31, 32, 33, 34, 35, 36, 37, 38, 39, 40, 41, 42, 43, 55, 56, 57, 58, 59, 60, 61, 62, 63, 64, 65, 66, 53, 54] (by decide +kernel) (by decide +kernel)
set_option maxRecDepth 20000 in
theorem gX4_fitLinks_X1_fitOnceToLinks : GoodIn wsX4_fitLinks (wsV RX4 180 RX1 yX1_fitOnceToLinks wsX1_fitOnceToLinks) := goodIn_app (goodIn_of _ (by decide +kernel)) ggX4_fitLinks_X1_fitOnceToLinks
set_option maxRecDepth 20000 in
theorem ggX4_fitLinks_X1_countChanged : GoodIn wsX4_fitLinks wsX1_countChanged := goodIn_r _ [47, 13, 14, 53, 54] (by decide +kernel) (by decide +kernel)
set_option maxRecDepth 20000 in
theorem gX4_fitLinks_X1_countChanged : GoodIn wsX4_fitLinks (wsV RX4 177 RX1 yX1_countChanged wsX1_countChanged) := goodIn_app (goodIn_of _ (by decide +kernel)) ggX4_fitLinks_X1_countChanged
theorem dX4_fitLinks_0 : decode cX4_fitLinks 0 = .ok (.iload_n 1, 1) := by decide +kernel
theorem dX4_fitLinks_1 : decode cX4_fitLinks 1 = .ok (.invokestatic 167, 3) := by decide +kernel
theorem dX4_fitLinks_4 : decode cX4_fitLinks 4 = .ok (.ifCond .ne 6, 3) := by decide +kernel
theorem dX4_fitLinks_7 : decode cX4_fitLinks 7 = .ok (.bipush (-4), 2) := by decide +kernel
theorem dX4_fitLinks_9 : decode cX4_fitLinks 9 = .ok (.ireturn, 1) := by decide +kernel
theorem dX4_fitLinks_10 : decode cX4_fitLinks 10 = .ok (.aload_n 0, 1) := by decide +kernel
theorem dX4_fitLinks_11 : decode cX4_fitLinks 11 = .ok (.getfield 39, 3) := by decide +kernel
theorem dX4_fitLinks_14 : decode cX4_fitLinks 14 = .ok (.invokevirtual 170, 3) := by decide +kernel
theorem dX4_fitLinks_17 : decode cX4_fitLinks 17 = .ok (.iconst 0, 1) := by decide +kernel
theorem dX4_fitLinks_18 : decode cX4_fitLinks 18 = .ok (.istore_n 2, 1) := by decide +kernel
theorem dX4_fitLinks_19 : decode cX4_fitLinks 19 = .ok (.iload_n 2, 1) := by decide +kernel
theorem dX4_fitLinks_20 : decode cX4_fitLinks 20 = .ok (.iload_n 1, 1) := by decide +kernel
theorem dX4_fitLinks_21 : decode cX4_fitLinks 21 = .ok (.if_icmp .ge 24, 3) := by decide +kernel
theorem dX4_fitLinks_24 : decode cX4_fitLinks 24 = .ok (.aload_n 0, 1) := by decide +kernel
theorem dX4_fitLinks_25 : decode cX4_fitLinks 25 = .ok (.getfield 39, 3) := by decide +kernel
theorem dX4_fitLinks_28 : decode cX4_fitLinks 28 = .ok (.aload_n 0, 1) := by decide +kernel
theorem dX4_fitLinks_29 : decode cX4_fitLinks 29 = .ok (.getfield 14, 3) := by decide +kernel
theorem dX4_fitLinks_32 : decode cX4_fitLinks 32 = .ok (.aload_n 0, 1) := by decide +kernel
theorem dX4_fitLinks_33 : decode cX4_fitLinks 33 = .ok (.getfield 25, 3) := by decide +kernel
theorem dX4_fitLinks_36 : decode cX4_fitLinks 36 = .ok (.invokevirtual 180, 3) := by decide +kernel
theorem dX4_fitLinks_39 : decode cX4_fitLinks 39 = .ok (.iinc 2 1, 3) := by decide +kernel
theorem dX4_fitLinks_42 : decode cX4_fitLinks 42 = .ok (.goto (-23), 3) := by decide +kernel
theorem dX4_fitLinks_45 : decode cX4_fitLinks 45 = .ok (.aload_n 0, 1) := by decide +kernel
theorem dX4_fitLinks_46 : decode cX4_fitLinks 46 = .ok (.getfield 39, 3) := by decide +kernel
theorem dX4_fitLinks_49 : decode cX4_fitLinks 49 = .ok (.invokevirtual 177, 3) := by decide +kernel
theorem dX4_fitLinks_52 : decode cX4_fitLinks 52 = .ok (.ireturn, 1) := by decide +kernel
set_option maxRecDepth 20000 in
theorem ggX4_estimate_X4_pairError : GoodIn wsX4_estimate wsX4_pairError := goodIn_r _ [8, 9, 10, 11, 12, 13, 14, 15, 19, 20, 21, 22, 23, 26, 27, 28, 29, 30, 31, 32, 33] (by decide +kernel) (by decide +kernel)
set_option maxRecDepth 20000 in
theorem gX4_estimate_X4_pairError : GoodIn wsX4_estimate (wsV RX4 60 RX4 yX4_pairError wsX4_pairError) := goodIn_app (goodIn_of _ (by decide +kernel)) ggX4_estimate_X4_pairError
set_option maxRecDepth 20000 in
theorem ggX4_estimate_X4_slotOf : GoodIn wsX4_estimate wsX4_slotOf := goodIn_r _ [18] (by decide +kernel) (by decide +kernel)
set_option maxRecDepth 20000 in
theorem gX4_estimate_X4_slotOf : GoodIn wsX4_estimate (va_wsS RX4 84 yX4_slotOf wsX4_slotOf) := goodIn_app (goodIn_of _ (by decide +kernel)) ggX4_estimate_X4_slotOf
theorem dX4_estimate_0 : decode cX4_estimate 0 = .ok (.aload_n 0, 1) := by decide +kernel
theorem dX4_estimate_1 : decode cX4_estimate 1 = .ok (.iload_n 1, 1) := by decide +kernel
theorem dX4_estimate_2 : decode cX4_estimate 2 = .ok (.iload_n 2, 1) := by decide +kernel
theorem dX4_estimate_3 : decode cX4_estimate 3 = .ok (.invokevirtual 60, 3) := by decide +kernel
theorem dX4_estimate_6 : decode cX4_estimate 6 = .ok (.ifCond .eq 7, 3) := by decide +kernel
theorem dX4_estimate_9 : decode cX4_estimate 9 = .ok (.ldc2_w 146, 3) := by decide +kernel
theorem dX4_estimate_12 : decode cX4_estimate 12 = .ok (.lreturn, 1) := by decide +kernel
theorem dX4_estimate_13 : decode cX4_estimate 13 = .ok (.aload_n 0, 1) := by decide +kernel
theorem dX4_estimate_14 : decode cX4_estimate 14 = .ok (.getfield 39, 3) := by decide +kernel
theorem dX4_estimate_17 : decode cX4_estimate 17 = .ok (.getfield 183, 3) := by decide +kernel
theorem dX4_estimate_20 : decode cX4_estimate 20 = .ok (.iload_n 1, 1) := by decide +kernel
theorem dX4_estimate_21 : decode cX4_estimate 21 = .ok (.iload_n 2, 1) := by decide +kernel
theorem dX4_estimate_22 : decode cX4_estimate 22 = .ok (.invokestatic 84, 3) := by decide +kernel
theorem dX4_estimate_25 : decode cX4_estimate 25 = .ok (.laload, 1) := by decide +kernel
theorem dX4_estimate_26 : decode cX4_estimate 26 = .ok (.lreturn, 1) := by decide +kernel
set_option maxRecDepth 20000 in
theorem ggX4_residual_X3_hasLink : GoodIn wsX4_residual wsX3_hasLink := goodIn_r _ [11, 12, 34, 35, 36, 37, 38, 39, 40, 41] (by decide +kernel) (by decide +kernel)
set_option maxRecDepth 20000 in
theorem gX4_residual_X3_hasLink : GoodIn wsX4_residual (wsV RX4 72 RX3 yX3_hasLink wsX3_hasLink) := goodIn_app (goodIn_of _ (by decide +kernel)) ggX4_residual_X3_hasLink
set_option maxRecDepth 20000 in
theorem ggX4_residual_X1_sumOnLink : GoodIn wsX4_residual wsX1_sumOnLink := goodIn_r _ [17, 18, 19, 20, 21, 10, 22, 23, 24, 42, 43, 34, 35, 36, 37, 38, 39, 40, 41] (by decide +kernel) (by decide +kernel)
set_option maxRecDepth 20000 in
theorem gX4_residual_X1_sumOnLink : GoodIn wsX4_residual (wsV RX4 187 RX1 yX1_sumOnLink wsX1_sumOnLink) := goodIn_app (goodIn_of _ (by decide +kernel)) ggX4_residual_X1_sumOnLink
theorem dX4_residual_0 : decode cX4_residual 0 = .ok (.aload_n 0, 1) := by decide +kernel
theorem dX4_residual_1 : decode cX4_residual 1 = .ok (.getfield 14, 3) := by decide +kernel
theorem dX4_residual_4 : decode cX4_residual 4 = .ok (.iload_n 1, 1) := by decide +kernel
theorem dX4_residual_5 : decode cX4_residual 5 = .ok (.invokevirtual 72, 3) := by decide +kernel
theorem dX4_residual_8 : decode cX4_residual 8 = .ok (.ifCond .ne 7, 3) := by decide +kernel
theorem dX4_residual_11 : decode cX4_residual 11 = .ok (.ldc2_w 146, 3) := by decide +kernel
theorem dX4_residual_14 : decode cX4_residual 14 = .ok (.lreturn, 1) := by decide +kernel
theorem dX4_residual_15 : decode cX4_residual 15 = .ok (.aload_n 0, 1) := by decide +kernel
theorem dX4_residual_16 : decode cX4_residual 16 = .ok (.getfield 39, 3) := by decide +kernel
theorem dX4_residual_19 : decode cX4_residual 19 = .ok (.aload_n 0, 1) := by decide +kernel
theorem dX4_residual_20 : decode cX4_residual 20 = .ok (.getfield 14, 3) := by decide +kernel
theorem dX4_residual_23 : decode cX4_residual 23 = .ok (.iload_n 1, 1) := by decide +kernel
theorem dX4_residual_24 : decode cX4_residual 24 = .ok (.invokevirtual 187, 3) := by decide +kernel
theorem dX4_residual_27 : decode cX4_residual 27 = .ok (.ldc2_w 191, 3) := by decide +kernel
theorem dX4_residual_30 : decode cX4_residual 30 = .ok (.aload_n 0, 1) := by decide +kernel
theorem dX4_residual_31 : decode cX4_residual 31 = .ok (.getfield 25, 3) := by decide +kernel
theorem dX4_residual_34 : decode cX4_residual 34 = .ok (.getfield 104, 3) := by decide +kernel
theorem dX4_residual_37 : decode cX4_residual 37 = .ok (.iload_n 1, 1) := by decide +kernel
theorem dX4_residual_38 : decode cX4_residual 38 = .ok (.iaload, 1) := by decide +kernel
theorem dX4_residual_39 : decode cX4_residual 39 = .ok (.i2l, 1) := by decide +kernel
theorem dX4_residual_40 : decode cX4_residual 40 = .ok (.lmul, 1) := by decide +kernel
theorem dX4_residual_41 : decode cX4_residual 41 = .ok (.lsub, 1) := by decide +kernel
theorem dX4_residual_42 : decode cX4_residual 42 = .ok (.lreturn, 1) := by decide +kernel
set_option maxRecDepth 20000 in
theorem ggX4_totalError_X3_hasRoute : GoodIn wsX4_totalError wsX3_hasRoute := goodIn_r _ [14, 15, 23, 24, 25, 26, 27, 28, 29, 30] (by decide +kernel) (by decide +kernel)
set_option maxRecDepth 20000 in
theorem gX4_totalError_X3_hasRoute : GoodIn wsX4_totalError (wsV RX4 139 RX3 yX3_hasRoute wsX3_hasRoute) := goodIn_app (goodIn_of _ (by decide +kernel)) ggX4_totalError_X3_hasRoute
theorem dX4_totalError_0 : decode cX4_totalError 0 = .ok (.lconst 0, 1) := by decide +kernel
theorem dX4_totalError_1 : decode cX4_totalError 1 = .ok (.lstore_n 1, 1) := by decide +kernel
theorem dX4_totalError_2 : decode cX4_totalError 2 = .ok (.iconst 0, 1) := by decide +kernel
theorem dX4_totalError_3 : decode cX4_totalError 3 = .ok (.istore_n 3, 1) := by decide +kernel
theorem dX4_totalError_4 : decode cX4_totalError 4 = .ok (.iload_n 3, 1) := by decide +kernel
theorem dX4_totalError_5 : decode cX4_totalError 5 = .ok (.bipush 25, 2) := by decide +kernel
theorem dX4_totalError_7 : decode cX4_totalError 7 = .ok (.if_icmp .ge 47, 3) := by decide +kernel
theorem dX4_totalError_10 : decode cX4_totalError 10 = .ok (.aload_n 0, 1) := by decide +kernel
theorem dX4_totalError_11 : decode cX4_totalError 11 = .ok (.getfield 14, 3) := by decide +kernel
theorem dX4_totalError_14 : decode cX4_totalError 14 = .ok (.iload_n 3, 1) := by decide +kernel
theorem dX4_totalError_15 : decode cX4_totalError 15 = .ok (.invokevirtual 139, 3) := by decide +kernel
theorem dX4_totalError_18 : decode cX4_totalError 18 = .ok (.ifCond .eq 30, 3) := by decide +kernel
theorem dX4_totalError_21 : decode cX4_totalError 21 = .ok (.lload_n 1, 1) := by decide +kernel
theorem dX4_totalError_22 : decode cX4_totalError 22 = .ok (.aload_n 0, 1) := by decide +kernel
theorem dX4_totalError_23 : decode cX4_totalError 23 = .ok (.getfield 39, 3) := by decide +kernel
theorem dX4_totalError_26 : decode cX4_totalError 26 = .ok (.getfield 183, 3) := by decide +kernel
theorem dX4_totalError_29 : decode cX4_totalError 29 = .ok (.iload_n 3, 1) := by decide +kernel
theorem dX4_totalError_30 : decode cX4_totalError 30 = .ok (.laload, 1) := by decide +kernel
theorem dX4_totalError_31 : decode cX4_totalError 31 = .ok (.ldc2_w 191, 3) := by decide +kernel
theorem dX4_totalError_34 : decode cX4_totalError 34 = .ok (.aload_n 0, 1) := by decide +kernel
theorem dX4_totalError_35 : decode cX4_totalError 35 = .ok (.getfield 18, 3) := by decide +kernel
theorem dX4_totalError_38 : decode cX4_totalError 38 = .ok (.iload_n 3, 1) := by decide +kernel
theorem dX4_totalError_39 : decode cX4_totalError 39 = .ok (.iaload, 1) := by decide +kernel
theorem dX4_totalError_40 : decode cX4_totalError 40 = .ok (.i2l, 1) := by decide +kernel
theorem dX4_totalError_41 : decode cX4_totalError 41 = .ok (.lmul, 1) := by decide +kernel
theorem dX4_totalError_42 : decode cX4_totalError 42 = .ok (.lsub, 1) := by decide +kernel
theorem dX4_totalError_43 : decode cX4_totalError 43 = .ok (.invokestatic 193, 3) := by decide +kernel
theorem dX4_totalError_46 : decode cX4_totalError 46 = .ok (.ladd, 1) := by decide +kernel
theorem dX4_totalError_47 : decode cX4_totalError 47 = .ok (.lstore_n 1, 1) := by decide +kernel
theorem dX4_totalError_48 : decode cX4_totalError 48 = .ok (.iinc 3 1, 3) := by decide +kernel
theorem dX4_totalError_51 : decode cX4_totalError 51 = .ok (.goto (-47), 3) := by decide +kernel
theorem dX4_totalError_54 : decode cX4_totalError 54 = .ok (.lload_n 1, 1) := by decide +kernel
theorem dX4_totalError_55 : decode cX4_totalError 55 = .ok (.lreturn, 1) := by decide +kernel
theorem dX4_slotOf_0 : decode cX4_slotOf 0 = .ok (.iload_n 0, 1) := by decide +kernel
theorem dX4_slotOf_1 : decode cX4_slotOf 1 = .ok (.iconst 5, 1) := by decide +kernel
theorem dX4_slotOf_2 : decode cX4_slotOf 2 = .ok (.imul, 1) := by decide +kernel
theorem dX4_slotOf_3 : decode cX4_slotOf 3 = .ok (.iload_n 1, 1) := by decide +kernel
theorem dX4_slotOf_4 : decode cX4_slotOf 4 = .ok (.iadd, 1) := by decide +kernel
theorem dX4_slotOf_5 : decode cX4_slotOf 5 = .ok (.ireturn, 1) := by decide +kernel
theorem dX4_isMetric_0 : decode cX4_isMetric 0 = .ok (.iload_n 0, 1) := by decide +kernel
theorem dX4_isMetric_1 : decode cX4_isMetric 1 = .ok (.iconst 1, 1) := by decide +kernel
theorem dX4_isMetric_2 : decode cX4_isMetric 2 = .ok (.if_icmp .lt 13, 3) := by decide +kernel
theorem dX4_isMetric_5 : decode cX4_isMetric 5 = .ok (.iload_n 0, 1) := by decide +kernel
theorem dX4_isMetric_6 : decode cX4_isMetric 6 = .ok (.bipush 99, 2) := by decide +kernel
theorem dX4_isMetric_8 : decode cX4_isMetric 8 = .ok (.if_icmp .gt 7, 3) := by decide +kernel
theorem dX4_isMetric_11 : decode cX4_isMetric 11 = .ok (.iconst 1, 1) := by decide +kernel
theorem dX4_isMetric_12 : decode cX4_isMetric 12 = .ok (.goto 4, 3) := by decide +kernel
theorem dX4_isMetric_15 : decode cX4_isMetric 15 = .ok (.iconst 0, 1) := by decide +kernel
theorem dX4_isMetric_16 : decode cX4_isMetric 16 = .ok (.ireturn, 1) := by decide +kernel
theorem dX4_isTimes_0 : decode cX4_isTimes 0 = .ok (.iload_n 0, 1) := by decide +kernel
theorem dX4_isTimes_1 : decode cX4_isTimes 1 = .ok (.iconst 1, 1) := by decide +kernel
theorem dX4_isTimes_2 : decode cX4_isTimes 2 = .ok (.if_icmp .lt 13, 3) := by decide +kernel
theorem dX4_isTimes_5 : decode cX4_isTimes 5 = .ok (.iload_n 0, 1) := by decide +kernel
theorem dX4_isTimes_6 : decode cX4_isTimes 6 = .ok (.bipush 50, 2) := by decide +kernel
theorem dX4_isTimes_8 : decode cX4_isTimes 8 = .ok (.if_icmp .gt 7, 3) := by decide +kernel
theorem dX4_isTimes_11 : decode cX4_isTimes 11 = .ok (.iconst 1, 1) := by decide +kernel
theorem dX4_isTimes_12 : decode cX4_isTimes 12 = .ok (.goto 4, 3) := by decide +kernel
theorem dX4_isTimes_15 : decode cX4_isTimes 15 = .ok (.iconst 0, 1) := by decide +kernel
theorem dX4_isTimes_16 : decode cX4_isTimes 16 = .ok (.ireturn, 1) := by decide +kernel
set_option maxRecDepth 20000 in
theorem ggX4_pairError_X3_hasNode : GoodIn wsX4_pairError wsX3_hasNode := goodIn_r _ [6, 7, 13, 14, 15, 16, 17, 18, 19, 20] (by decide +kernel) (by decide +kernel)
set_option maxRecDepth 20000 in
theorem gX4_pairError_X3_hasNode : GoodIn wsX4_pairError (wsV RX4 107 RX3 yX3_hasNode wsX3_hasNode) := goodIn_app (goodIn_of _ (by decide +kernel)) ggX4_pairError_X3_hasNode
theorem dX4_pairError_0 : decode cX4_pairError 0 = .ok (.aload_n 0, 1) := by decide +kernel
theorem dX4_pairError_1 : decode cX4_pairError 1 = .ok (.getfield 14, 3) := by decide +kernel
theorem dX4_pairError_4 : decode cX4_pairError 4 = .ok (.iload_n 1, 1) := by decide +kernel
theorem dX4_pairError_5 : decode cX4_pairError 5 = .ok (.invokevirtual 107, 3) := by decide +kernel
theorem dX4_pairError_8 : decode cX4_pairError 8 = .ok (.ifCond .eq 14, 3) := by decide +kernel
theorem dX4_pairError_11 : decode cX4_pairError 11 = .ok (.aload_n 0, 1) := by decide +kernel
theorem dX4_pairError_12 : decode cX4_pairError 12 = .ok (.getfield 14, 3) := by decide +kernel
theorem dX4_pairError_15 : decode cX4_pairError 15 = .ok (.iload_n 2, 1) := by decide +kernel
theorem dX4_pairError_16 : decode cX4_pairError 16 = .ok (.invokevirtual 107, 3) := by decide +kernel
theorem dX4_pairError_19 : decode cX4_pairError 19 = .ok (.ifCond .ne 5, 3) := by decide +kernel
theorem dX4_pairError_22 : decode cX4_pairError 22 = .ok (.iconst (-1), 1) := by decide +kernel
theorem dX4_pairError_23 : decode cX4_pairError 23 = .ok (.ireturn, 1) := by decide +kernel
theorem dX4_pairError_24 : decode cX4_pairError 24 = .ok (.iload_n 1, 1) := by decide +kernel
theorem dX4_pairError_25 : decode cX4_pairError 25 = .ok (.iload_n 2, 1) := by decide +kernel
theorem dX4_pairError_26 : decode cX4_pairError 26 = .ok (.if_icmp .ne 8, 3) := by decide +kernel
theorem dX4_pairError_29 : decode cX4_pairError 29 = .ok (.bipush (-2), 2) := by decide +kernel
theorem dX4_pairError_31 : decode cX4_pairError 31 = .ok (.goto 4, 3) := by decide +kernel
theorem dX4_pairError_34 : decode cX4_pairError 34 = .ok (.iconst 0, 1) := by decide +kernel
theorem dX4_pairError_35 : decode cX4_pairError 35 = .ok (.ireturn, 1) := by decide +kernel
set_option maxRecDepth 20000 in
theorem ggX4_routeError_X4_pairError : GoodIn wsX4_routeError wsX4_pairError := goodIn_r _ [6, 1, 7, 8, 9, 10, 11, 12, 21, 22, 23, 24, 25, 26, 27, 28, 29, 30, 31, 32, 33] (by decide +kernel) (by decide +kernel)
set_option maxRecDepth 20000 in
theorem gX4_routeError_X4_pairError : GoodIn wsX4_routeError (wsV RX4 60 RX4 yX4_pairError wsX4_pairError) := goodIn_app (goodIn_of _ (by decide +kernel)) ggX4_routeError_X4_pairError
set_option maxRecDepth 20000 in
theorem ggX4_routeError_X4_slotOf : GoodIn wsX4_routeError wsX4_slotOf := goodIn_r _ [15] (by decide +kernel) (by decide +kernel)
set_option maxRecDepth 20000 in
theorem gX4_routeError_X4_slotOf : GoodIn wsX4_routeError (va_wsS RX4 84 yX4_slotOf wsX4_slotOf) := goodIn_app (goodIn_of _ (by decide +kernel)) ggX4_routeError_X4_slotOf
set_option maxRecDepth 20000 in
theorem ggX4_routeError_X3_hasRoute : GoodIn wsX4_routeError wsX3_hasRoute := goodIn_r _ [19, 20, 26, 27, 28, 29, 30, 31, 32, 33] (by decide +kernel) (by decide +kernel)
set_option maxRecDepth 20000 in
theorem gX4_routeError_X3_hasRoute : GoodIn wsX4_routeError (wsV RX4 139 RX3 yX3_hasRoute wsX3_hasRoute) := goodIn_app (goodIn_of _ (by decide +kernel)) ggX4_routeError_X3_hasRoute
theorem dX4_routeError_0 : decode cX4_routeError 0 = .ok (.aload_n 0, 1) := by decide +kernel
theorem dX4_routeError_1 : decode cX4_routeError 1 = .ok (.iload_n 1, 1) := by decide +kernel
theorem dX4_routeError_2 : decode cX4_routeError 2 = .ok (.iload_n 2, 1) := by decide +kernel
theorem dX4_routeError_3 : decode cX4_routeError 3 = .ok (.invokevirtual 60, 3) := by decide +kernel
theorem dX4_routeError_6 : decode cX4_routeError 6 = .ok (.istore_n 3, 1) := by decide +kernel
theorem dX4_routeError_7 : decode cX4_routeError 7 = .ok (.iload_n 3, 1) := by decide +kernel
theorem dX4_routeError_8 : decode cX4_routeError 8 = .ok (.ifCond .eq 5, 3) := by decide +kernel
theorem dX4_routeError_11 : decode cX4_routeError 11 = .ok (.iload_n 3, 1) := by decide +kernel
theorem dX4_routeError_12 : decode cX4_routeError 12 = .ok (.ireturn, 1) := by decide +kernel
theorem dX4_routeError_13 : decode cX4_routeError 13 = .ok (.aload_n 0, 1) := by decide +kernel
theorem dX4_routeError_14 : decode cX4_routeError 14 = .ok (.getfield 14, 3) := by decide +kernel
theorem dX4_routeError_17 : decode cX4_routeError 17 = .ok (.iload_n 1, 1) := by decide +kernel
theorem dX4_routeError_18 : decode cX4_routeError 18 = .ok (.iload_n 2, 1) := by decide +kernel
theorem dX4_routeError_19 : decode cX4_routeError 19 = .ok (.invokestatic 84, 3) := by decide +kernel
theorem dX4_routeError_22 : decode cX4_routeError 22 = .ok (.invokevirtual 139, 3) := by decide +kernel
theorem dX4_routeError_25 : decode cX4_routeError 25 = .ok (.ifCond .eq 7, 3) := by decide +kernel
theorem dX4_routeError_28 : decode cX4_routeError 28 = .ok (.iconst 0, 1) := by decide +kernel
theorem dX4_routeError_29 : decode cX4_routeError 29 = .ok (.goto 5, 3) := by decide +kernel
theorem dX4_routeError_32 : decode cX4_routeError 32 = .ok (.bipush (-6), 2) := by decide +kernel
theorem dX4_routeError_34 : decode cX4_routeError 34 = .ok (.ireturn, 1) := by decide +kernel
set_option maxRecDepth 20000 in
theorem ggX4_findIdentified_X4_routeError : GoodIn wsX4_findIdentified wsX4_routeError := goodIn_r _ [8, 2, 9, 10, 11, 7, 12, 13, 14, 15, 16, 17, 18, 19, 20, 21, 22, 23, 24, 25, 26, 105, 106, 107, 108, 109, 110, 111, 112, 113, 114, 115, 116, 117] (by decide +kernel) (by decide +kernel)
set_option maxRecDepth 20000 in
theorem gX4_findIdentified_X4_routeError : GoodIn wsX4_findIdentified (wsV RX4 78 RX4 yX4_routeError wsX4_routeError) := goodIn_app (goodIn_of _ (by decide +kernel)) ggX4_findIdentified_X4_routeError
set_option maxRecDepth 20000 in
theorem ggX4_findIdentified_X0_solve : GoodIn wsX4_findIdentified wsX0_solve := goodIn_r _ [31, 32, 33, 34, 35, 36, 30, 37, 38, 39, 40, 23, 24, 16, 25, 26, 41, 42, 43, 44, 45, 46, 47, 48, 49, 50, 51, 52, 53, 54, 55, 56, 57, 58, 59, 60, 61, 62, 63, 64, 65, 66, 67, 68, 69, 70, 71, 72, 73, 74, 75, 76, 77, 78, 79, 80, 81, 82, 83, 84, 85, 86, 87, 88, 110, 111, 112, 113, 114, 115, 116, 117, 118, 119, 120, 121, 122, 123, 124, 125, 126, 127, 128, 129] (by decide +kernel) (by decide +kernel)
set_option maxRecDepth 20000 in
theorem gX4_findIdentified_X0_solve : GoodIn wsX4_findIdentified (wsV RX4 122 RX0 yX0_solve wsX0_solve) := goodIn_app (goodIn_of _ (by decide +kernel)) ggX4_findIdentified_X0_solve
set_option maxRecDepth 20000 in
theorem ggX4_findIdentified_X4_slotOf : GoodIn wsX4_findIdentified wsX4_slotOf := goodIn_r _ [21] (by decide +kernel) (by decide +kernel)
set_option maxRecDepth 20000 in
theorem gX4_findIdentified_X4_slotOf : GoodIn wsX4_findIdentified (va_wsS RX4 84 yX4_slotOf wsX4_slotOf) := goodIn_app (goodIn_of _ (by decide +kernel)) ggX4_findIdentified_X4_slotOf
set_option maxRecDepth 20000 in
theorem ggX4_findIdentified_X0_determine : GoodIn wsX4_findIdentified wsX0_determine := goodIn_r _ [92, 93, 94, 95, 30, 96, 97, 98, 99, 100, 39, 69, 51, 118, 119, 120, 121, 122, 123, 124, 125] (by decide +kernel) (by decide +kernel)
set_option maxRecDepth 20000 in
theorem gX4_findIdentified_X0_determine : GoodIn wsX4_findIdentified (wsV RX4 136 RX0 yX0_determine wsX0_determine) := goodIn_app (goodIn_of _ (by decide +kernel)) ggX4_findIdentified_X0_determine
set_option maxRecDepth 20000 in
theorem ggX4_findIdentified_X0_haveSolution : GoodIn wsX4_findIdentified wsX0_haveSolution := goodIn_r _ [104, 33, 70, 51, 118, 119, 120, 121, 122, 123, 124, 125] (by decide +kernel) (by decide +kernel)
set_option maxRecDepth 20000 in
theorem gX4_findIdentified_X0_haveSolution : GoodIn wsX4_findIdentified (wsV RX4 132 RX0 yX0_haveSolution wsX0_haveSolution) := goodIn_app (goodIn_of _ (by decide +kernel)) ggX4_findIdentified_X0_haveSolution
theorem dX4_findIdentified_0 : decode cX4_findIdentified 0 = .ok (.aload_n 0, 1) := by decide +kernel
theorem dX4_findIdentified_1 : decode cX4_findIdentified 1 = .ok (.iload_n 1, 1) := by decide +kernel
theorem dX4_findIdentified_2 : decode cX4_findIdentified 2 = .ok (.iload_n 2, 1) := by decide +kernel
theorem dX4_findIdentified_3 : decode cX4_findIdentified 3 = .ok (.invokevirtual 78, 3) := by decide +kernel
theorem dX4_findIdentified_6 : decode cX4_findIdentified 6 = .ok (.ifCond .eq 5, 3) := by decide +kernel
theorem dX4_findIdentified_9 : decode cX4_findIdentified 9 = .ok (.iconst 0, 1) := by decide +kernel
theorem dX4_findIdentified_10 : decode cX4_findIdentified 10 = .ok (.ireturn, 1) := by decide +kernel
theorem dX4_findIdentified_11 : decode cX4_findIdentified 11 = .ok (.aload_n 0, 1) := by decide +kernel
theorem dX4_findIdentified_12 : decode cX4_findIdentified 12 = .ok (.getfield 32, 3) := by decide +kernel
theorem dX4_findIdentified_15 : decode cX4_findIdentified 15 = .ok (.aload_n 0, 1) := by decide +kernel
theorem dX4_findIdentified_16 : decode cX4_findIdentified 16 = .ok (.getfield 14, 3) := by decide +kernel
theorem dX4_findIdentified_19 : decode cX4_findIdentified 19 = .ok (.aload_n 0, 1) := by decide +kernel
theorem dX4_findIdentified_20 : decode cX4_findIdentified 20 = .ok (.getfield 25, 3) := by decide +kernel
theorem dX4_findIdentified_23 : decode cX4_findIdentified 23 = .ok (.invokevirtual 122, 3) := by decide +kernel
theorem dX4_findIdentified_26 : decode cX4_findIdentified 26 = .ok (.aload_n 0, 1) := by decide +kernel
theorem dX4_findIdentified_27 : decode cX4_findIdentified 27 = .ok (.getfield 32, 3) := by decide +kernel
theorem dX4_findIdentified_30 : decode cX4_findIdentified 30 = .ok (.iload_n 1, 1) := by decide +kernel
theorem dX4_findIdentified_31 : decode cX4_findIdentified 31 = .ok (.iload_n 2, 1) := by decide +kernel
theorem dX4_findIdentified_32 : decode cX4_findIdentified 32 = .ok (.invokestatic 84, 3) := by decide +kernel
theorem dX4_findIdentified_35 : decode cX4_findIdentified 35 = .ok (.invokevirtual 136, 3) := by decide +kernel
theorem dX4_findIdentified_38 : decode cX4_findIdentified 38 = .ok (.ifCond .eq 17, 3) := by decide +kernel
theorem dX4_findIdentified_41 : decode cX4_findIdentified 41 = .ok (.aload_n 0, 1) := by decide +kernel
theorem dX4_findIdentified_42 : decode cX4_findIdentified 42 = .ok (.getfield 32, 3) := by decide +kernel
theorem dX4_findIdentified_45 : decode cX4_findIdentified 45 = .ok (.invokevirtual 132, 3) := by decide +kernel
theorem dX4_findIdentified_48 : decode cX4_findIdentified 48 = .ok (.ifCond .eq 7, 3) := by decide +kernel
theorem dX4_findIdentified_51 : decode cX4_findIdentified 51 = .ok (.iconst 1, 1) := by decide +kernel
theorem dX4_findIdentified_52 : decode cX4_findIdentified 52 = .ok (.goto 4, 3) := by decide +kernel
theorem dX4_findIdentified_55 : decode cX4_findIdentified 55 = .ok (.iconst 0, 1) := by decide +kernel
theorem dX4_findIdentified_56 : decode cX4_findIdentified 56 = .ok (.ireturn, 1) := by decide +kernel
set_option maxRecDepth 20000 in
theorem ggX4_countWith_X3_hasRoute : GoodIn wsX4_countWith wsX3_hasRoute := goodIn_r _ [7, 8, 34, 35, 36, 37, 38, 39, 40, 41] (by decide +kernel) (by decide +kernel)
set_option maxRecDepth 20000 in
theorem gX4_countWith_X3_hasRoute : GoodIn wsX4_countWith (wsV RX4 139 RX3 yX3_hasRoute wsX3_hasRoute) := goodIn_app (goodIn_of _ (by decide +kernel)) ggX4_countWith_X3_hasRoute
set_option maxRecDepth 20000 in
theorem ggX4_countWith_X0_determineWith : GoodIn wsX4_countWith wsX0_determineWith := goodIn_r _ [13, 14, 15, 16, 12, 17, 18, 19, 20, 21, 22, 23, 24, 25, 26, 27, 28, 42, 43, 44, 45, 46, 47, 48, 49] (by decide +kernel) (by decide +kernel)
set_option maxRecDepth 20000 in
theorem gX4_countWith_X0_determineWith : GoodIn wsX4_countWith (wsV RX4 199 RX0 yX0_determineWith wsX0_determineWith) := goodIn_app (goodIn_of _ (by decide +kernel)) ggX4_countWith_X0_determineWith
theorem dX4_countWith_0 : decode cX4_countWith 0 = .ok (.iconst 0, 1) := by decide +kernel
theorem dX4_countWith_1 : decode cX4_countWith 1 = .ok (.istore_n 2, 1) := by decide +kernel
theorem dX4_countWith_2 : decode cX4_countWith 2 = .ok (.iconst 0, 1) := by decide +kernel
theorem dX4_countWith_3 : decode cX4_countWith 3 = .ok (.istore_n 3, 1) := by decide +kernel
theorem dX4_countWith_4 : decode cX4_countWith 4 = .ok (.iload_n 3, 1) := by decide +kernel
theorem dX4_countWith_5 : decode cX4_countWith 5 = .ok (.bipush 25, 2) := by decide +kernel
theorem dX4_countWith_7 : decode cX4_countWith 7 = .ok (.if_icmp .ge 35, 3) := by decide +kernel
theorem dX4_countWith_10 : decode cX4_countWith 10 = .ok (.aload_n 0, 1) := by decide +kernel
theorem dX4_countWith_11 : decode cX4_countWith 11 = .ok (.getfield 14, 3) := by decide +kernel
theorem dX4_countWith_14 : decode cX4_countWith 14 = .ok (.iload_n 3, 1) := by decide +kernel
theorem dX4_countWith_15 : decode cX4_countWith 15 = .ok (.invokevirtual 139, 3) := by decide +kernel
theorem dX4_countWith_18 : decode cX4_countWith 18 = .ok (.ifCond .eq 18, 3) := by decide +kernel
theorem dX4_countWith_21 : decode cX4_countWith 21 = .ok (.aload_n 0, 1) := by decide +kernel
theorem dX4_countWith_22 : decode cX4_countWith 22 = .ok (.getfield 32, 3) := by decide +kernel
theorem dX4_countWith_25 : decode cX4_countWith 25 = .ok (.iload_n 1, 1) := by decide +kernel
theorem dX4_countWith_26 : decode cX4_countWith 26 = .ok (.iload_n 3, 1) := by decide +kernel
theorem dX4_countWith_27 : decode cX4_countWith 27 = .ok (.invokevirtual 199, 3) := by decide +kernel
theorem dX4_countWith_30 : decode cX4_countWith 30 = .ok (.ifCond .eq 6, 3) := by decide +kernel
theorem dX4_countWith_33 : decode cX4_countWith 33 = .ok (.iinc 2 1, 3) := by decide +kernel
theorem dX4_countWith_36 : decode cX4_countWith 36 = .ok (.iinc 3 1, 3) := by decide +kernel
theorem dX4_countWith_39 : decode cX4_countWith 39 = .ok (.goto (-35), 3) := by decide +kernel
theorem dX4_countWith_42 : decode cX4_countWith 42 = .ok (.iload_n 2, 1) := by decide +kernel
theorem dX4_countWith_43 : decode cX4_countWith 43 = .ok (.ireturn, 1) := by decide +kernel
