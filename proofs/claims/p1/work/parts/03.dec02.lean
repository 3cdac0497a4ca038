theorem dX6_hasRoom_0 : decode cX6_hasRoom 0 = .ok (.aload_n 0, 1) := by decide +kernel
theorem dX6_hasRoom_1 : decode cX6_hasRoom 1 = .ok (.getfield 9, 3) := by decide +kernel
theorem dX6_hasRoom_4 : decode cX6_hasRoom 4 = .ok (.iload_n 1, 1) := by decide +kernel
theorem dX6_hasRoom_5 : decode cX6_hasRoom 5 = .ok (.iaload, 1) := by decide +kernel
theorem dX6_hasRoom_6 : decode cX6_hasRoom 6 = .ok (.istore_n 3, 1) := by decide +kernel
theorem dX6_hasRoom_7 : decode cX6_hasRoom 7 = .ok (.iload_n 3, 1) := by decide +kernel
theorem dX6_hasRoom_8 : decode cX6_hasRoom 8 = .ok (.ifCond .ne 5, 3) := by decide +kernel
theorem dX6_hasRoom_11 : decode cX6_hasRoom 11 = .ok (.iconst 1, 1) := by decide +kernel
theorem dX6_hasRoom_12 : decode cX6_hasRoom 12 = .ok (.ireturn, 1) := by decide +kernel
theorem dX6_hasRoom_13 : decode cX6_hasRoom 13 = .ok (.iload_n 3, 1) := by decide +kernel
theorem dX6_hasRoom_14 : decode cX6_hasRoom 14 = .ok (.bipush 6, 2) := by decide +kernel
theorem dX6_hasRoom_16 : decode cX6_hasRoom 16 = .ok (.if_icmp .ge 24, 3) := by decide +kernel
theorem dX6_hasRoom_19 : decode cX6_hasRoom 19 = .ok (.iload_n 2, 1) := by decide +kernel
theorem dX6_hasRoom_20 : decode cX6_hasRoom 20 = .ok (.aload_n 0, 1) := by decide +kernel
theorem dX6_hasRoom_21 : decode cX6_hasRoom 21 = .ok (.getfield 15, 3) := by decide +kernel
theorem dX6_hasRoom_24 : decode cX6_hasRoom 24 = .ok (.iload_n 1, 1) := by decide +kernel
theorem dX6_hasRoom_25 : decode cX6_hasRoom 25 = .ok (.bipush 6, 2) := by decide +kernel
theorem dX6_hasRoom_27 : decode cX6_hasRoom 27 = .ok (.imul, 1) := by decide +kernel
theorem dX6_hasRoom_28 : decode cX6_hasRoom 28 = .ok (.iload_n 3, 1) := by decide +kernel
theorem dX6_hasRoom_29 : decode cX6_hasRoom 29 = .ok (.iadd, 1) := by decide +kernel
theorem dX6_hasRoom_30 : decode cX6_hasRoom 30 = .ok (.iconst 1, 1) := by decide +kernel
theorem dX6_hasRoom_31 : decode cX6_hasRoom 31 = .ok (.isub, 1) := by decide +kernel
theorem dX6_hasRoom_32 : decode cX6_hasRoom 32 = .ok (.iaload, 1) := by decide +kernel
theorem dX6_hasRoom_33 : decode cX6_hasRoom 33 = .ok (.if_icmp .le 7, 3) := by decide +kernel
theorem dX6_hasRoom_36 : decode cX6_hasRoom 36 = .ok (.iconst 1, 1) := by decide +kernel
theorem dX6_hasRoom_37 : decode cX6_hasRoom 37 = .ok (.goto 4, 3) := by decide +kernel
theorem dX6_hasRoom_40 : decode cX6_hasRoom 40 = .ok (.iconst 0, 1) := by decide +kernel
theorem dX6_hasRoom_41 : decode cX6_hasRoom 41 = .ok (.ireturn, 1) := by decide +kernel
theorem dX6_addSet_0 : decode cX6_addSet 0 = .ok (.iload_n 1, 1) := by decide +kernel
theorem dX6_addSet_1 : decode cX6_addSet 1 = .ok (.bipush 6, 2) := by decide +kernel
theorem dX6_addSet_3 : decode cX6_addSet 3 = .ok (.imul, 1) := by decide +kernel
theorem dX6_addSet_4 : decode cX6_addSet 4 = .ok (.aload_n 0, 1) := by decide +kernel
theorem dX6_addSet_5 : decode cX6_addSet 5 = .ok (.getfield 9, 3) := by decide +kernel
theorem dX6_addSet_8 : decode cX6_addSet 8 = .ok (.iload_n 1, 1) := by decide +kernel
theorem dX6_addSet_9 : decode cX6_addSet 9 = .ok (.iaload, 1) := by decide +kernel
theorem dX6_addSet_10 : decode cX6_addSet 10 = .ok (.iadd, 1) := by decide +kernel
theorem dX6_addSet_11 : decode cX6_addSet 11 = .ok (.istore_n 3, 1) := by decide +kernel
theorem dX6_addSet_12 : decode cX6_addSet 12 = .ok (.aload_n 0, 1) := by decide +kernel
theorem dX6_addSet_13 : decode cX6_addSet 13 = .ok (.getfield 15, 3) := by decide +kernel
theorem dX6_addSet_16 : decode cX6_addSet 16 = .ok (.iload_n 3, 1) := by decide +kernel
theorem dX6_addSet_17 : decode cX6_addSet 17 = .ok (.iload_n 2, 1) := by decide +kernel
theorem dX6_addSet_18 : decode cX6_addSet 18 = .ok (.iastore, 1) := by decide +kernel
theorem dX6_addSet_19 : decode cX6_addSet 19 = .ok (.aload_n 0, 1) := by decide +kernel
theorem dX6_addSet_20 : decode cX6_addSet 20 = .ok (.getfield 9, 3) := by decide +kernel
theorem dX6_addSet_23 : decode cX6_addSet 23 = .ok (.iload_n 1, 1) := by decide +kernel
theorem dX6_addSet_24 : decode cX6_addSet 24 = .ok (.dup2, 1) := by decide +kernel
theorem dX6_addSet_25 : decode cX6_addSet 25 = .ok (.iaload, 1) := by decide +kernel
theorem dX6_addSet_26 : decode cX6_addSet 26 = .ok (.iconst 1, 1) := by decide +kernel
theorem dX6_addSet_27 : decode cX6_addSet 27 = .ok (.iadd, 1) := by decide +kernel
theorem dX6_addSet_28 : decode cX6_addSet 28 = .ok (.iastore, 1) := by decide +kernel
theorem dX6_addSet_29 : decode cX6_addSet 29 = .ok (.iload_n 3, 1) := by decide +kernel
theorem dX6_addSet_30 : decode cX6_addSet 30 = .ok (.ireturn, 1) := by decide +kernel
theorem dX6_put_0 : decode cX6_put 0 = .ok (.aload_n 0, 1) := by decide +kernel
theorem dX6_put_1 : decode cX6_put 1 = .ok (.getfield 18, 3) := by decide +kernel
theorem dX6_put_4 : decode cX6_put 4 = .ok (.iload_n 1, 1) := by decide +kernel
theorem dX6_put_5 : decode cX6_put 5 = .ok (.iconst 3, 1) := by decide +kernel
theorem dX6_put_6 : decode cX6_put 6 = .ok (.imul, 1) := by decide +kernel
theorem dX6_put_7 : decode cX6_put 7 = .ok (.iload_n 2, 1) := by decide +kernel
theorem dX6_put_8 : decode cX6_put 8 = .ok (.iadd, 1) := by decide +kernel
theorem dX6_put_9 : decode cX6_put 9 = .ok (.iload_n 3, 1) := by decide +kernel
theorem dX6_put_10 : decode cX6_put 10 = .ok (.iastore, 1) := by decide +kernel
theorem dX6_put_11 : decode cX6_put 11 = .ok (.aload_n 0, 1) := by decide +kernel
theorem dX6_put_12 : decode cX6_put 12 = .ok (.getfield 21, 3) := by decide +kernel
theorem dX6_put_15 : decode cX6_put 15 = .ok (.iload_n 1, 1) := by decide +kernel
theorem dX6_put_16 : decode cX6_put 16 = .ok (.iconst 3, 1) := by decide +kernel
theorem dX6_put_17 : decode cX6_put 17 = .ok (.imul, 1) := by decide +kernel
theorem dX6_put_18 : decode cX6_put 18 = .ok (.iload_n 2, 1) := by decide +kernel
theorem dX6_put_19 : decode cX6_put 19 = .ok (.iadd, 1) := by decide +kernel
theorem dX6_put_20 : decode cX6_put 20 = .ok (.iload 4, 2) := by decide +kernel
theorem dX6_put_22 : decode cX6_put 22 = .ok (.iastore, 1) := by decide +kernel
theorem dX6_put_23 : decode cX6_put 23 = .ok (.return_, 1) := by decide +kernel
theorem dX6_setAt_0 : decode cX6_setAt 0 = .ok (.iload_n 1, 1) := by decide +kernel
theorem dX6_setAt_1 : decode cX6_setAt 1 = .ok (.bipush 6, 2) := by decide +kernel
theorem dX6_setAt_3 : decode cX6_setAt 3 = .ok (.imul, 1) := by decide +kernel
theorem dX6_setAt_4 : decode cX6_setAt 4 = .ok (.istore_n 3, 1) := by decide +kernel
theorem dX6_setAt_5 : decode cX6_setAt 5 = .ok (.iconst 1, 1) := by decide +kernel
theorem dX6_setAt_6 : decode cX6_setAt 6 = .ok (.istore 4, 2) := by decide +kernel
theorem dX6_setAt_8 : decode cX6_setAt 8 = .ok (.iload 4, 2) := by decide +kernel
theorem dX6_setAt_10 : decode cX6_setAt 10 = .ok (.aload_n 0, 1) := by decide +kernel
theorem dX6_setAt_11 : decode cX6_setAt 11 = .ok (.getfield 9, 3) := by decide +kernel
theorem dX6_setAt_14 : decode cX6_setAt 14 = .ok (.iload_n 1, 1) := by decide +kernel
theorem dX6_setAt_15 : decode cX6_setAt 15 = .ok (.iaload, 1) := by decide +kernel
theorem dX6_setAt_16 : decode cX6_setAt 16 = .ok (.if_icmp .ge 33, 3) := by decide +kernel
theorem dX6_setAt_19 : decode cX6_setAt 19 = .ok (.aload_n 0, 1) := by decide +kernel
theorem dX6_setAt_20 : decode cX6_setAt 20 = .ok (.getfield 15, 3) := by decide +kernel
theorem dX6_setAt_23 : decode cX6_setAt 23 = .ok (.iload_n 1, 1) := by decide +kernel
theorem dX6_setAt_24 : decode cX6_setAt 24 = .ok (.bipush 6, 2) := by decide +kernel
theorem dX6_setAt_26 : decode cX6_setAt 26 = .ok (.imul, 1) := by decide +kernel
theorem dX6_setAt_27 : decode cX6_setAt 27 = .ok (.iload 4, 2) := by decide +kernel
theorem dX6_setAt_29 : decode cX6_setAt 29 = .ok (.iadd, 1) := by decide +kernel
theorem dX6_setAt_30 : decode cX6_setAt 30 = .ok (.iaload, 1) := by decide +kernel
theorem dX6_setAt_31 : decode cX6_setAt 31 = .ok (.iload_n 2, 1) := by decide +kernel
theorem dX6_setAt_32 : decode cX6_setAt 32 = .ok (.if_icmp .gt 11, 3) := by decide +kernel
theorem dX6_setAt_35 : decode cX6_setAt 35 = .ok (.iload_n 1, 1) := by decide +kernel
theorem dX6_setAt_36 : decode cX6_setAt 36 = .ok (.bipush 6, 2) := by decide +kernel
theorem dX6_setAt_38 : decode cX6_setAt 38 = .ok (.imul, 1) := by decide +kernel
theorem dX6_setAt_39 : decode cX6_setAt 39 = .ok (.iload 4, 2) := by decide +kernel
theorem dX6_setAt_41 : decode cX6_setAt 41 = .ok (.iadd, 1) := by decide +kernel
theorem dX6_setAt_42 : decode cX6_setAt 42 = .ok (.istore_n 3, 1) := by decide +kernel
theorem dX6_setAt_43 : decode cX6_setAt 43 = .ok (.iinc 4 1, 3) := by decide +kernel
theorem dX6_setAt_46 : decode cX6_setAt 46 = .ok (.goto (-38), 3) := by decide +kernel
theorem dX6_setAt_49 : decode cX6_setAt 49 = .ok (.iload_n 3, 1) := by decide +kernel
theorem dX6_setAt_50 : decode cX6_setAt 50 = .ok (.ireturn, 1) := by decide +kernel
set_option maxRecDepth 20000 in
theorem ggX7_init_X6_init : GoodIn wsX7_init wsX6_init := goodIn_r _ [29, 30, 2, 3, 31, 32, 33, 34, 35, 108, 109, 110, 111] (by decide +kernel) (by decide +kernel)
set_option maxRecDepth 20000 in
theorem gX7_init_X6_init_n9 : GoodIn wsX7_init (wsX6_init) := ggX7_init_X6_init
set_option maxRecDepth 20000 in
theorem ggX7_init_X0_init : GoodIn wsX7_init wsX0_init := goodIn_r _ [37, 38, 2, 3, 31, 39, 40, 41, 42, 43, 44, 45, 46, 119, 120, 121, 122, 123, 124, 125, 126, 127] (by decide +kernel) (by decide +kernel)
set_option maxRecDepth 20000 in
theorem gX7_init_X0_init_n18 : GoodIn wsX7_init (wsX0_init) := ggX7_init_X0_init
set_option maxRecDepth 20000 in
theorem ggX7_init_X4_init : GoodIn wsX7_init wsX4_init := goodIn_r _ [48, 49, 2, 3, 31, 50, 51, 52, 53, 54, 55, 128, 129, 130, 131, 132, 133] (by decide +kernel) (by decide +kernel)
set_option maxRecDepth 20000 in
theorem gX7_init_X4_init_n25 : GoodIn wsX7_init (wsX4_init) := ggX7_init_X4_init
set_option maxRecDepth 20000 in
theorem ggX7_init_X5_init : GoodIn wsX7_init wsX5_init := goodIn_r _ [57, 58, 2, 3, 31, 59, 60, 61, 134, 135, 136, 137, 138] (by decide +kernel) (by decide +kernel)
set_option maxRecDepth 20000 in
theorem gX7_init_X5_init_n32 : GoodIn wsX7_init (wsX5_init) := ggX7_init_X5_init
set_option maxRecDepth 20000 in
theorem ggX7_init_X1_init : GoodIn wsX7_init wsX1_init := goodIn_r _ [64, 65, 2, 3, 66, 67, 68, 69, 139, 140, 141, 142] (by decide +kernel) (by decide +kernel)
set_option maxRecDepth 20000 in
theorem gX7_init_X1_init : GoodIn wsX7_init (wsX1_init) := ggX7_init_X1_init
set_option maxRecDepth 20000 in
theorem ggX7_init_X2_init : GoodIn wsX7_init wsX2_init := goodIn_r _ [72, 73, 2, 3, 74, 75, 76, 77, 31, 78, 79, 80, 81, 82, 83, 84, 85, 86, 87, 88, 89, 90, 91, 92, 93, 94, 95, 96, 97, 98, 99, 100, 101, 102, 103, 104, 105, 106, 107, 143, 144, 145, 146, 147, 148, 149, 150, 151, 152, 153, 154, 155, 156, 157, 158, 139, 140, 141, 142, 159, 160, 161, 162, 163, 164, 165] (by decide +kernel) (by decide +kernel)
set_option maxRecDepth 20000 in
theorem gX7_init_X2_init : GoodIn wsX7_init (wsX2_init) := ggX7_init_X2_init
theorem dX7_init_0 : decode cX7_init 0 = .ok (.aload_n 0, 1) := by decide +kernel
theorem dX7_init_1 : decode cX7_init 1 = .ok (.invokespecial 1, 3) := by decide +kernel
theorem dX7_init_4 : decode cX7_init 4 = .ok (.aload_n 0, 1) := by decide +kernel
theorem dX7_init_5 : decode cX7_init 5 = .ok (.new 7, 3) := by decide +kernel
theorem dX7_init_8 : decode cX7_init 8 = .ok (.dup, 1) := by decide +kernel
theorem dX7_init_9 : decode cX7_init 9 = .ok (.invokespecial 9, 3) := by decide +kernel
theorem dX7_init_12 : decode cX7_init 12 = .ok (.putfield 10, 3) := by decide +kernel
theorem dX7_init_15 : decode cX7_init 15 = .ok (.aload_n 0, 1) := by decide +kernel
theorem dX7_init_16 : decode cX7_init 16 = .ok (.new 16, 3) := by decide +kernel
theorem dX7_init_19 : decode cX7_init 19 = .ok (.dup, 1) := by decide +kernel
theorem dX7_init_20 : decode cX7_init 20 = .ok (.invokespecial 18, 3) := by decide +kernel
theorem dX7_init_23 : decode cX7_init 23 = .ok (.putfield 19, 3) := by decide +kernel
theorem dX7_init_26 : decode cX7_init 26 = .ok (.aload_n 0, 1) := by decide +kernel
theorem dX7_init_27 : decode cX7_init 27 = .ok (.new 23, 3) := by decide +kernel
theorem dX7_init_30 : decode cX7_init 30 = .ok (.dup, 1) := by decide +kernel
theorem dX7_init_31 : decode cX7_init 31 = .ok (.invokespecial 25, 3) := by decide +kernel
theorem dX7_init_34 : decode cX7_init 34 = .ok (.putfield 26, 3) := by decide +kernel
theorem dX7_init_37 : decode cX7_init 37 = .ok (.aload_n 0, 1) := by decide +kernel
theorem dX7_init_38 : decode cX7_init 38 = .ok (.new 30, 3) := by decide +kernel
theorem dX7_init_41 : decode cX7_init 41 = .ok (.dup, 1) := by decide +kernel
theorem dX7_init_42 : decode cX7_init 42 = .ok (.invokespecial 32, 3) := by decide +kernel
theorem dX7_init_45 : decode cX7_init 45 = .ok (.putfield 33, 3) := by decide +kernel
theorem dX7_init_48 : decode cX7_init 48 = .ok (.new 37, 3) := by decide +kernel
theorem dX7_init_51 : decode cX7_init 51 = .ok (.dup, 1) := by decide +kernel
theorem dX7_init_52 : decode cX7_init 52 = .ok (.aload_n 0, 1) := by decide +kernel
theorem dX7_init_53 : decode cX7_init 53 = .ok (.getfield 10, 3) := by decide +kernel
theorem dX7_init_56 : decode cX7_init 56 = .ok (.aload_n 0, 1) := by decide +kernel
theorem dX7_init_57 : decode cX7_init 57 = .ok (.getfield 19, 3) := by decide +kernel
theorem dX7_init_60 : decode cX7_init 60 = .ok (.aload_n 0, 1) := by decide +kernel
theorem dX7_init_61 : decode cX7_init 61 = .ok (.getfield 26, 3) := by decide +kernel
theorem dX7_init_64 : decode cX7_init 64 = .ok (.aload_n 0, 1) := by decide +kernel
theorem dX7_init_65 : decode cX7_init 65 = .ok (.getfield 33, 3) := by decide +kernel
theorem dX7_init_68 : decode cX7_init 68 = .ok (.invokespecial 39, 3) := by decide +kernel
theorem dX7_init_71 : decode cX7_init 71 = .ok (.astore_n 1, 1) := by decide +kernel
theorem dX7_init_72 : decode cX7_init 72 = .ok (.aload_n 0, 1) := by decide +kernel
theorem dX7_init_73 : decode cX7_init 73 = .ok (.new 42, 3) := by decide +kernel
theorem dX7_init_76 : decode cX7_init 76 = .ok (.dup, 1) := by decide +kernel
theorem dX7_init_77 : decode cX7_init 77 = .ok (.aload_n 1, 1) := by decide +kernel
theorem dX7_init_78 : decode cX7_init 78 = .ok (.sipush 600, 3) := by decide +kernel
theorem dX7_init_81 : decode cX7_init 81 = .ok (.invokespecial 44, 3) := by decide +kernel
theorem dX7_init_84 : decode cX7_init 84 = .ok (.putfield 47, 3) := by decide +kernel
theorem dX7_init_87 : decode cX7_init 87 = .ok (.aload_n 0, 1) := by decide +kernel
theorem dX7_init_88 : decode cX7_init 88 = .ok (.new 42, 3) := by decide +kernel
theorem dX7_init_91 : decode cX7_init 91 = .ok (.dup, 1) := by decide +kernel
theorem dX7_init_92 : decode cX7_init 92 = .ok (.aload_n 1, 1) := by decide +kernel
theorem dX7_init_93 : decode cX7_init 93 = .ok (.iconst 0, 1) := by decide +kernel
theorem dX7_init_94 : decode cX7_init 94 = .ok (.invokespecial 44, 3) := by decide +kernel
theorem dX7_init_97 : decode cX7_init 97 = .ok (.putfield 51, 3) := by decide +kernel
theorem dX7_init_100 : decode cX7_init 100 = .ok (.return_, 1) := by decide +kernel
set_option maxRecDepth 20000 in
theorem ggX7_share_X7_isWork : GoodIn wsX7_share wsX7_isWork := goodIn_r _ [6] (by decide +kernel) (by decide +kernel)
set_option maxRecDepth 20000 in
theorem gX7_share_X7_isWork : GoodIn wsX7_share (va_wsS RX7 54 yX7_isWork wsX7_isWork) := goodIn_app (goodIn_of _ (by decide +kernel)) ggX7_share_X7_isWork
set_option maxRecDepth 20000 in
theorem ggX7_share_X7_isDayAhead : GoodIn wsX7_share wsX7_isDayAhead := goodIn_r _ [10, 11, 12, 39, 40, 41, 42, 43, 44, 45, 50, 51, 52, 53, 54, 55, 56, 57, 58, 59, 60, 61, 62, 63, 64, 65] (by decide +kernel) (by decide +kernel)
set_option maxRecDepth 20000 in
theorem gX7_share_X7_isDayAhead : GoodIn wsX7_share (wsV RX7 58 RX7 yX7_isDayAhead wsX7_isDayAhead) := goodIn_app (goodIn_of _ (by decide +kernel)) ggX7_share_X7_isDayAhead
set_option maxRecDepth 20000 in
theorem ggX7_share_X6_hasRoom : GoodIn wsX7_share wsX6_hasRoom := goodIn_r _ [17, 18, 19, 46, 47, 48, 49] (by decide +kernel) (by decide +kernel)
set_option maxRecDepth 20000 in
theorem gX7_share_X6_hasRoom : GoodIn wsX7_share (wsV RX7 61 RX6 yX6_hasRoom wsX6_hasRoom) := goodIn_app (goodIn_of _ (by decide +kernel)) ggX7_share_X6_hasRoom
set_option maxRecDepth 20000 in
theorem ggX7_share_X7_isHand : GoodIn wsX7_share wsX7_isHand := goodIn_r _ [22] (by decide +kernel) (by decide +kernel)
set_option maxRecDepth 20000 in
theorem gX7_share_X7_isHand : GoodIn wsX7_share (va_wsS RX7 65 yX7_isHand wsX7_isHand) := goodIn_app (goodIn_of _ (by decide +kernel)) ggX7_share_X7_isHand
set_option maxRecDepth 20000 in
theorem ggX7_share_X7_isPart : GoodIn wsX7_share wsX7_isPart := goodIn_r _ [25] (by decide +kernel) (by decide +kernel)
set_option maxRecDepth 20000 in
theorem gX7_share_X7_isPart : GoodIn wsX7_share (va_wsS RX7 68 yX7_isPart wsX7_isPart) := goodIn_app (goodIn_of _ (by decide +kernel)) ggX7_share_X7_isPart
set_option maxRecDepth 20000 in
theorem ggX7_share_X7_isSharer : GoodIn wsX7_share wsX7_isSharer := goodIn_r _ [28, 20, 21, 5, 22, 23, 24, 25] (by decide +kernel) (by decide +kernel)
set_option maxRecDepth 20000 in
theorem gX7_share_X7_isSharer : GoodIn wsX7_share (va_wsS RX7 71 yX7_isSharer wsX7_isSharer) := goodIn_app (goodIn_of _ (by decide +kernel)) ggX7_share_X7_isSharer
set_option maxRecDepth 20000 in
theorem ggX7_share_X6_addSet : GoodIn wsX7_share wsX6_addSet := goodIn_r _ [32, 18, 19, 46, 47, 48, 49] (by decide +kernel) (by decide +kernel)
set_option maxRecDepth 20000 in
theorem gX7_share_X6_addSet : GoodIn wsX7_share (wsV RX7 74 RX6 yX6_addSet wsX6_addSet) := goodIn_app (goodIn_of _ (by decide +kernel)) ggX7_share_X6_addSet
set_option maxRecDepth 20000 in
theorem ggX7_share_X6_put : GoodIn wsX7_share wsX6_put := goodIn_r _ [36, 37, 38, 46, 47, 48, 49] (by decide +kernel) (by decide +kernel)
set_option maxRecDepth 20000 in
theorem gX7_share_X6_put : GoodIn wsX7_share (wsV RX7 78 RX6 yX6_put wsX6_put) := goodIn_app (goodIn_of _ (by decide +kernel)) ggX7_share_X6_put
theorem dX7_share_0 : decode cX7_share 0 = .ok (.iload_n 1, 1) := by decide +kernel
theorem dX7_share_1 : decode cX7_share 1 = .ok (.invokestatic 54, 3) := by decide +kernel
theorem dX7_share_4 : decode cX7_share 4 = .ok (.ifCond .eq 23, 3) := by decide +kernel
theorem dX7_share_7 : decode cX7_share 7 = .ok (.aload_n 0, 1) := by decide +kernel
theorem dX7_share_8 : decode cX7_share 8 = .ok (.iload_n 2, 1) := by decide +kernel
theorem dX7_share_9 : decode cX7_share 9 = .ok (.invokevirtual 58, 3) := by decide +kernel
theorem dX7_share_12 : decode cX7_share 12 = .ok (.ifCond .eq 15, 3) := by decide +kernel
theorem dX7_share_15 : decode cX7_share 15 = .ok (.aload_n 0, 1) := by decide +kernel
theorem dX7_share_16 : decode cX7_share 16 = .ok (.getfield 10, 3) := by decide +kernel
theorem dX7_share_19 : decode cX7_share 19 = .ok (.iload_n 1, 1) := by decide +kernel
theorem dX7_share_20 : decode cX7_share 20 = .ok (.iload_n 2, 1) := by decide +kernel
theorem dX7_share_21 : decode cX7_share 21 = .ok (.invokevirtual 61, 3) := by decide +kernel
theorem dX7_share_24 : decode cX7_share 24 = .ok (.ifCond .ne 5, 3) := by decide +kernel
theorem dX7_share_27 : decode cX7_share 27 = .ok (.iconst (-1), 1) := by decide +kernel
theorem dX7_share_28 : decode cX7_share 28 = .ok (.ireturn, 1) := by decide +kernel
theorem dX7_share_29 : decode cX7_share 29 = .ok (.iload_n 3, 1) := by decide +kernel
theorem dX7_share_30 : decode cX7_share 30 = .ok (.invokestatic 65, 3) := by decide +kernel
theorem dX7_share_33 : decode cX7_share 33 = .ok (.ifCond .eq 31, 3) := by decide +kernel
theorem dX7_share_36 : decode cX7_share 36 = .ok (.iload 4, 2) := by decide +kernel
theorem dX7_share_38 : decode cX7_share 38 = .ok (.invokestatic 68, 3) := by decide +kernel
theorem dX7_share_41 : decode cX7_share 41 = .ok (.ifCond .eq 23, 3) := by decide +kernel
theorem dX7_share_44 : decode cX7_share 44 = .ok (.iload 5, 2) := by decide +kernel
theorem dX7_share_46 : decode cX7_share 46 = .ok (.iload 6, 2) := by decide +kernel
theorem dX7_share_48 : decode cX7_share 48 = .ok (.invokestatic 71, 3) := by decide +kernel
theorem dX7_share_51 : decode cX7_share 51 = .ok (.ifCond .eq 13, 3) := by decide +kernel
theorem dX7_share_54 : decode cX7_share 54 = .ok (.iload 7, 2) := by decide +kernel
theorem dX7_share_56 : decode cX7_share 56 = .ok (.iload 8, 2) := by decide +kernel
theorem dX7_share_58 : decode cX7_share 58 = .ok (.invokestatic 71, 3) := by decide +kernel
theorem dX7_share_61 : decode cX7_share 61 = .ok (.ifCond .ne 5, 3) := by decide +kernel
theorem dX7_share_64 : decode cX7_share 64 = .ok (.iconst (-1), 1) := by decide +kernel
theorem dX7_share_65 : decode cX7_share 65 = .ok (.ireturn, 1) := by decide +kernel
theorem dX7_share_66 : decode cX7_share 66 = .ok (.iload 5, 2) := by decide +kernel
theorem dX7_share_68 : decode cX7_share 68 = .ok (.iconst (-1), 1) := by decide +kernel
theorem dX7_share_69 : decode cX7_share 69 = .ok (.if_icmp .ne 13, 3) := by decide +kernel
theorem dX7_share_72 : decode cX7_share 72 = .ok (.iload 7, 2) := by decide +kernel
theorem dX7_share_74 : decode cX7_share 74 = .ok (.iconst (-1), 1) := by decide +kernel
theorem dX7_share_75 : decode cX7_share 75 = .ok (.if_icmp .eq 7, 3) := by decide +kernel
theorem dX7_share_78 : decode cX7_share 78 = .ok (.iconst 1, 1) := by decide +kernel
theorem dX7_share_79 : decode cX7_share 79 = .ok (.goto 4, 3) := by decide +kernel
theorem dX7_share_82 : decode cX7_share 82 = .ok (.iconst 0, 1) := by decide +kernel
theorem dX7_share_83 : decode cX7_share 83 = .ok (.istore 9, 2) := by decide +kernel
theorem dX7_share_85 : decode cX7_share 85 = .ok (.iload_n 3, 1) := by decide +kernel
theorem dX7_share_86 : decode cX7_share 86 = .ok (.iload 5, 2) := by decide +kernel
theorem dX7_share_88 : decode cX7_share 88 = .ok (.if_icmp .eq 22, 3) := by decide +kernel
theorem dX7_share_91 : decode cX7_share 91 = .ok (.iload_n 3, 1) := by decide +kernel
theorem dX7_share_92 : decode cX7_share 92 = .ok (.iload 7, 2) := by decide +kernel
theorem dX7_share_94 : decode cX7_share 94 = .ok (.if_icmp .eq 16, 3) := by decide +kernel
theorem dX7_share_97 : decode cX7_share 97 = .ok (.iload 5, 2) := by decide +kernel
theorem dX7_share_99 : decode cX7_share 99 = .ok (.iconst (-1), 1) := by decide +kernel
theorem dX7_share_100 : decode cX7_share 100 = .ok (.if_icmp .eq 14, 3) := by decide +kernel
theorem dX7_share_103 : decode cX7_share 103 = .ok (.iload 5, 2) := by decide +kernel
theorem dX7_share_105 : decode cX7_share 105 = .ok (.iload 7, 2) := by decide +kernel
theorem dX7_share_107 : decode cX7_share 107 = .ok (.if_icmp .ne 7, 3) := by decide +kernel
theorem dX7_share_110 : decode cX7_share 110 = .ok (.iconst 1, 1) := by decide +kernel
theorem dX7_share_111 : decode cX7_share 111 = .ok (.goto 4, 3) := by decide +kernel
theorem dX7_share_114 : decode cX7_share 114 = .ok (.iconst 0, 1) := by decide +kernel
theorem dX7_share_115 : decode cX7_share 115 = .ok (.istore 10, 2) := by decide +kernel
theorem dX7_share_117 : decode cX7_share 117 = .ok (.iload 9, 2) := by decide +kernel
theorem dX7_share_119 : decode cX7_share 119 = .ok (.ifCond .ne 22, 3) := by decide +kernel
theorem dX7_share_122 : decode cX7_share 122 = .ok (.iload 10, 2) := by decide +kernel
theorem dX7_share_124 : decode cX7_share 124 = .ok (.ifCond .ne 17, 3) := by decide +kernel
theorem dX7_share_127 : decode cX7_share 127 = .ok (.iload 4, 2) := by decide +kernel
theorem dX7_share_129 : decode cX7_share 129 = .ok (.iload 6, 2) := by decide +kernel
theorem dX7_share_131 : decode cX7_share 131 = .ok (.iadd, 1) := by decide +kernel
theorem dX7_share_132 : decode cX7_share 132 = .ok (.iload 8, 2) := by decide +kernel
theorem dX7_share_134 : decode cX7_share 134 = .ok (.iadd, 1) := by decide +kernel
theorem dX7_share_135 : decode cX7_share 135 = .ok (.sipush 1000, 3) := by decide +kernel
theorem dX7_share_138 : decode cX7_share 138 = .ok (.if_icmp .eq 5, 3) := by decide +kernel
theorem dX7_share_141 : decode cX7_share 141 = .ok (.iconst (-1), 1) := by decide +kernel
theorem dX7_share_142 : decode cX7_share 142 = .ok (.ireturn, 1) := by decide +kernel
theorem dX7_share_143 : decode cX7_share 143 = .ok (.aload_n 0, 1) := by decide +kernel
theorem dX7_share_144 : decode cX7_share 144 = .ok (.getfield 10, 3) := by decide +kernel
theorem dX7_share_147 : decode cX7_share 147 = .ok (.iload_n 1, 1) := by decide +kernel
theorem dX7_share_148 : decode cX7_share 148 = .ok (.iload_n 2, 1) := by decide +kernel
theorem dX7_share_149 : decode cX7_share 149 = .ok (.invokevirtual 74, 3) := by decide +kernel
theorem dX7_share_152 : decode cX7_share 152 = .ok (.istore 11, 2) := by decide +kernel
theorem dX7_share_154 : decode cX7_share 154 = .ok (.aload_n 0, 1) := by decide +kernel
theorem dX7_share_155 : decode cX7_share 155 = .ok (.getfield 10, 3) := by decide +kernel
theorem dX7_share_158 : decode cX7_share 158 = .ok (.iload 11, 2) := by decide +kernel
theorem dX7_share_160 : decode cX7_share 160 = .ok (.iconst 0, 1) := by decide +kernel
theorem dX7_share_161 : decode cX7_share 161 = .ok (.iload_n 3, 1) := by decide +kernel
theorem dX7_share_162 : decode cX7_share 162 = .ok (.iload 4, 2) := by decide +kernel
theorem dX7_share_164 : decode cX7_share 164 = .ok (.invokevirtual 78, 3) := by decide +kernel
theorem dX7_share_167 : decode cX7_share 167 = .ok (.aload_n 0, 1) := by decide +kernel
theorem dX7_share_168 : decode cX7_share 168 = .ok (.getfield 10, 3) := by decide +kernel
theorem dX7_share_171 : decode cX7_share 171 = .ok (.iload 11, 2) := by decide +kernel
theorem dX7_share_173 : decode cX7_share 173 = .ok (.iconst 1, 1) := by decide +kernel
theorem dX7_share_174 : decode cX7_share 174 = .ok (.iload 5, 2) := by decide +kernel
theorem dX7_share_176 : decode cX7_share 176 = .ok (.iload 6, 2) := by decide +kernel
theorem dX7_share_178 : decode cX7_share 178 = .ok (.invokevirtual 78, 3) := by decide +kernel
theorem dX7_share_181 : decode cX7_share 181 = .ok (.aload_n 0, 1) := by decide +kernel
theorem dX7_share_182 : decode cX7_share 182 = .ok (.getfield 10, 3) := by decide +kernel
theorem dX7_share_185 : decode cX7_share 185 = .ok (.iload 11, 2) := by decide +kernel
theorem dX7_share_187 : decode cX7_share 187 = .ok (.iconst 2, 1) := by decide +kernel
theorem dX7_share_188 : decode cX7_share 188 = .ok (.iload 7, 2) := by decide +kernel
theorem dX7_share_190 : decode cX7_share 190 = .ok (.iload 8, 2) := by decide +kernel
theorem dX7_share_192 : decode cX7_share 192 = .ok (.invokevirtual 78, 3) := by decide +kernel
theorem dX7_share_195 : decode cX7_share 195 = .ok (.aload_n 0, 1) := by decide +kernel
theorem dX7_share_196 : decode cX7_share 196 = .ok (.getfield 10, 3) := by decide +kernel
theorem dX7_share_199 : decode cX7_share 199 = .ok (.getfield 82, 3) := by decide +kernel
theorem dX7_share_202 : decode cX7_share 202 = .ok (.iload_n 1, 1) := by decide +kernel
theorem dX7_share_203 : decode cX7_share 203 = .ok (.iaload, 1) := by decide +kernel
theorem dX7_share_204 : decode cX7_share 204 = .ok (.ireturn, 1) := by decide +kernel
set_option maxRecDepth 20000 in
theorem ggX7_bargain_X7_isHand : GoodIn wsX7_bargain wsX7_isHand := goodIn_r _ [6] (by decide +kernel) (by decide +kernel)
set_option maxRecDepth 20000 in
theorem gX7_bargain_X7_isHand : GoodIn wsX7_bargain (va_wsS RX7 65 yX7_isHand wsX7_isHand) := goodIn_app (goodIn_of _ (by decide +kernel)) ggX7_bargain_X7_isHand
set_option maxRecDepth 20000 in
theorem ggX7_bargain_X7_isDayAhead : GoodIn wsX7_bargain wsX7_isDayAhead := goodIn_r _ [10, 11, 12, 44, 45, 46, 47, 48, 49, 50, 60, 61, 62, 63, 64, 65, 66, 67, 68, 69, 70, 71, 72, 73, 74, 75] (by decide +kernel) (by decide +kernel)
set_option maxRecDepth 20000 in
theorem gX7_bargain_X7_isDayAhead : GoodIn wsX7_bargain (wsV RX7 58 RX7 yX7_isDayAhead wsX7_isDayAhead) := goodIn_app (goodIn_of _ (by decide +kernel)) ggX7_bargain_X7_isDayAhead
set_option maxRecDepth 20000 in
theorem ggX7_bargain_X7_termsFit : GoodIn wsX7_bargain wsX7_termsFit := goodIn_r _ [15, 16, 17, 5, 18, 19, 20, 21, 22] (by decide +kernel) (by decide +kernel)
set_option maxRecDepth 20000 in
theorem gX7_bargain_X7_termsFit : GoodIn wsX7_bargain (va_wsS RX7 90 yX7_termsFit wsX7_termsFit) := goodIn_app (goodIn_of _ (by decide +kernel)) ggX7_bargain_X7_termsFit
set_option maxRecDepth 20000 in
theorem ggX7_bargain_X7_passesOn : GoodIn wsX7_bargain wsX7_passesOn := goodIn_r _ [25] (by decide +kernel) (by decide +kernel)
set_option maxRecDepth 20000 in
theorem gX7_bargain_X7_passesOn : GoodIn wsX7_bargain (va_wsS RX7 94 yX7_passesOn wsX7_passesOn) := goodIn_app (goodIn_of _ (by decide +kernel)) ggX7_bargain_X7_passesOn
set_option maxRecDepth 20000 in
theorem ggX7_bargain_X0_add : GoodIn wsX7_bargain wsX0_add := goodIn_r _ [30, 31, 32, 33, 34, 35, 51, 52, 53, 54, 55, 56, 57, 58, 59] (by decide +kernel) (by decide +kernel)
set_option maxRecDepth 20000 in
theorem gX7_bargain_X0_add : GoodIn wsX7_bargain (wsV RX7 97 RX0 yX0_add wsX0_add) := goodIn_app (goodIn_of _ (by decide +kernel)) ggX7_bargain_X0_add
set_option maxRecDepth 20000 in
theorem ggX7_bargain_X0_agree : GoodIn wsX7_bargain wsX0_agree := goodIn_r _ [39, 40, 41, 42, 43, 51, 52, 53, 54, 55, 56, 57, 58, 59] (by decide +kernel) (by decide +kernel)
set_option maxRecDepth 20000 in
theorem gX7_bargain_X0_agree : GoodIn wsX7_bargain (wsV RX7 101 RX0 yX0_agree wsX0_agree) := goodIn_app (goodIn_of _ (by decide +kernel)) ggX7_bargain_X0_agree
theorem dX7_bargain_0 : decode cX7_bargain 0 = .ok (.iload_n 1, 1) := by decide +kernel
theorem dX7_bargain_1 : decode cX7_bargain 1 = .ok (.ifCond .lt 27, 3) := by decide +kernel
theorem dX7_bargain_4 : decode cX7_bargain 4 = .ok (.iload_n 1, 1) := by decide +kernel
theorem dX7_bargain_5 : decode cX7_bargain 5 = .ok (.iconst 4, 1) := by decide +kernel
theorem dX7_bargain_6 : decode cX7_bargain 6 = .ok (.if_icmp .gt 22, 3) := by decide +kernel
theorem dX7_bargain_9 : decode cX7_bargain 9 = .ok (.iload_n 2, 1) := by decide +kernel
theorem dX7_bargain_10 : decode cX7_bargain 10 = .ok (.invokestatic 65, 3) := by decide +kernel
theorem dX7_bargain_13 : decode cX7_bargain 13 = .ok (.ifCond .eq 15, 3) := by decide +kernel
theorem dX7_bargain_16 : decode cX7_bargain 16 = .ok (.iload_n 3, 1) := by decide +kernel
theorem dX7_bargain_17 : decode cX7_bargain 17 = .ok (.iconst 1, 1) := by decide +kernel
theorem dX7_bargain_18 : decode cX7_bargain 18 = .ok (.if_icmp .lt 10, 3) := by decide +kernel
theorem dX7_bargain_21 : decode cX7_bargain 21 = .ok (.iload_n 3, 1) := by decide +kernel
theorem dX7_bargain_22 : decode cX7_bargain 22 = .ok (.sipush 4095, 3) := by decide +kernel
theorem dX7_bargain_25 : decode cX7_bargain 25 = .ok (.if_icmp .le 5, 3) := by decide +kernel
theorem dX7_bargain_28 : decode cX7_bargain 28 = .ok (.iconst (-1), 1) := by decide +kernel
theorem dX7_bargain_29 : decode cX7_bargain 29 = .ok (.ireturn, 1) := by decide +kernel
theorem dX7_bargain_30 : decode cX7_bargain 30 = .ok (.aload_n 0, 1) := by decide +kernel
theorem dX7_bargain_31 : decode cX7_bargain 31 = .ok (.iload 4, 2) := by decide +kernel
theorem dX7_bargain_33 : decode cX7_bargain 33 = .ok (.invokevirtual 58, 3) := by decide +kernel
theorem dX7_bargain_36 : decode cX7_bargain 36 = .ok (.ifCond .eq 28, 3) := by decide +kernel
theorem dX7_bargain_39 : decode cX7_bargain 39 = .ok (.aload_n 0, 1) := by decide +kernel
theorem dX7_bargain_40 : decode cX7_bargain 40 = .ok (.getfield 19, 3) := by decide +kernel
theorem dX7_bargain_43 : decode cX7_bargain 43 = .ok (.getfield 86, 3) := by decide +kernel
theorem dX7_bargain_46 : decode cX7_bargain 46 = .ok (.bipush 24, 2) := by decide +kernel
theorem dX7_bargain_48 : decode cX7_bargain 48 = .ok (.if_icmp .ge 16, 3) := by decide +kernel
theorem dX7_bargain_51 : decode cX7_bargain 51 = .ok (.iload_n 1, 1) := by decide +kernel
theorem dX7_bargain_52 : decode cX7_bargain 52 = .ok (.iload 5, 2) := by decide +kernel
theorem dX7_bargain_54 : decode cX7_bargain 54 = .ok (.iload 6, 2) := by decide +kernel
theorem dX7_bargain_56 : decode cX7_bargain 56 = .ok (.iload 7, 2) := by decide +kernel
theorem dX7_bargain_58 : decode cX7_bargain 58 = .ok (.invokestatic 90, 3) := by decide +kernel
theorem dX7_bargain_61 : decode cX7_bargain 61 = .ok (.ifCond .ne 5, 3) := by decide +kernel
theorem dX7_bargain_64 : decode cX7_bargain 64 = .ok (.iconst (-1), 1) := by decide +kernel
theorem dX7_bargain_65 : decode cX7_bargain 65 = .ok (.ireturn, 1) := by decide +kernel
theorem dX7_bargain_66 : decode cX7_bargain 66 = .ok (.iload_n 1, 1) := by decide +kernel
theorem dX7_bargain_67 : decode cX7_bargain 67 = .ok (.invokestatic 94, 3) := by decide +kernel
theorem dX7_bargain_70 : decode cX7_bargain 70 = .ok (.ifCond .eq 19, 3) := by decide +kernel
theorem dX7_bargain_73 : decode cX7_bargain 73 = .ok (.iload 8, 2) := by decide +kernel
theorem dX7_bargain_75 : decode cX7_bargain 75 = .ok (.invokestatic 65, 3) := by decide +kernel
theorem dX7_bargain_78 : decode cX7_bargain 78 = .ok (.ifCond .eq 9, 3) := by decide +kernel
theorem dX7_bargain_81 : decode cX7_bargain 81 = .ok (.iload 8, 2) := by decide +kernel
theorem dX7_bargain_83 : decode cX7_bargain 83 = .ok (.iload_n 2, 1) := by decide +kernel
theorem dX7_bargain_84 : decode cX7_bargain 84 = .ok (.if_icmp .ne 5, 3) := by decide +kernel
theorem dX7_bargain_87 : decode cX7_bargain 87 = .ok (.iconst (-1), 1) := by decide +kernel
theorem dX7_bargain_88 : decode cX7_bargain 88 = .ok (.ireturn, 1) := by decide +kernel
theorem dX7_bargain_89 : decode cX7_bargain 89 = .ok (.aload_n 0, 1) := by decide +kernel
theorem dX7_bargain_90 : decode cX7_bargain 90 = .ok (.getfield 19, 3) := by decide +kernel
theorem dX7_bargain_93 : decode cX7_bargain 93 = .ok (.iload_n 1, 1) := by decide +kernel
theorem dX7_bargain_94 : decode cX7_bargain 94 = .ok (.iload_n 2, 1) := by decide +kernel
theorem dX7_bargain_95 : decode cX7_bargain 95 = .ok (.iload_n 3, 1) := by decide +kernel
theorem dX7_bargain_96 : decode cX7_bargain 96 = .ok (.iload 4, 2) := by decide +kernel
theorem dX7_bargain_98 : decode cX7_bargain 98 = .ok (.invokevirtual 97, 3) := by decide +kernel
theorem dX7_bargain_101 : decode cX7_bargain 101 = .ok (.istore 9, 2) := by decide +kernel
theorem dX7_bargain_103 : decode cX7_bargain 103 = .ok (.aload_n 0, 1) := by decide +kernel
theorem dX7_bargain_104 : decode cX7_bargain 104 = .ok (.getfield 19, 3) := by decide +kernel
theorem dX7_bargain_107 : decode cX7_bargain 107 = .ok (.iload 9, 2) := by decide +kernel
theorem dX7_bargain_109 : decode cX7_bargain 109 = .ok (.iload 5, 2) := by decide +kernel
theorem dX7_bargain_111 : decode cX7_bargain 111 = .ok (.iload 6, 2) := by decide +kernel
theorem dX7_bargain_113 : decode cX7_bargain 113 = .ok (.iload 7, 2) := by decide +kernel
theorem dX7_bargain_115 : decode cX7_bargain 115 = .ok (.iload 8, 2) := by decide +kernel
theorem dX7_bargain_117 : decode cX7_bargain 117 = .ok (.invokevirtual 101, 3) := by decide +kernel
theorem dX7_bargain_120 : decode cX7_bargain 120 = .ok (.iload 9, 2) := by decide +kernel
theorem dX7_bargain_122 : decode cX7_bargain 122 = .ok (.ireturn, 1) := by decide +kernel
set_option maxRecDepth 20000 in
theorem ggX7_report_X7_reportFits : GoodIn wsX7_report wsX7_reportFits := goodIn_r _ [8, 9, 10, 11, 12, 7, 13, 14, 15, 16, 17, 28, 29, 30, 31, 32, 33, 34, 51, 52, 53, 54] (by decide +kernel) (by decide +kernel)
set_option maxRecDepth 20000 in
theorem gX7_report_X7_reportFits : GoodIn wsX7_report (wsV RX7 108 RX7 yX7_reportFits wsX7_reportFits) := goodIn_app (goodIn_of _ (by decide +kernel)) ggX7_report_X7_reportFits
set_option maxRecDepth 20000 in
theorem ggX7_report_X4_put : GoodIn wsX7_report wsX4_put := goodIn_r _ [22, 23, 24, 25, 26, 27, 55, 56, 57, 58, 59, 60] (by decide +kernel) (by decide +kernel)
set_option maxRecDepth 20000 in
theorem gX7_report_X4_put : GoodIn wsX7_report (wsV RX7 112 RX4 yX4_put wsX4_put) := goodIn_app (goodIn_of _ (by decide +kernel)) ggX7_report_X4_put
theorem dX7_report_0 : decode cX7_report 0 = .ok (.aload_n 0, 1) := by decide +kernel
theorem dX7_report_1 : decode cX7_report 1 = .ok (.getfield 47, 3) := by decide +kernel
theorem dX7_report_4 : decode cX7_report 4 = .ok (.getfield 105, 3) := by decide +kernel
theorem dX7_report_7 : decode cX7_report 7 = .ok (.istore 6, 2) := by decide +kernel
theorem dX7_report_9 : decode cX7_report 9 = .ok (.iload 6, 2) := by decide +kernel
theorem dX7_report_11 : decode cX7_report 11 = .ok (.bipush 40, 2) := by decide +kernel
theorem dX7_report_13 : decode cX7_report 13 = .ok (.if_icmp .ge 17, 3) := by decide +kernel
theorem dX7_report_16 : decode cX7_report 16 = .ok (.aload_n 0, 1) := by decide +kernel
theorem dX7_report_17 : decode cX7_report 17 = .ok (.iload_n 1, 1) := by decide +kernel
theorem dX7_report_18 : decode cX7_report 18 = .ok (.iload_n 2, 1) := by decide +kernel
theorem dX7_report_19 : decode cX7_report 19 = .ok (.iload_n 3, 1) := by decide +kernel
theorem dX7_report_20 : decode cX7_report 20 = .ok (.iload 4, 2) := by decide +kernel
theorem dX7_report_22 : decode cX7_report 22 = .ok (.iload 5, 2) := by decide +kernel
theorem dX7_report_24 : decode cX7_report 24 = .ok (.invokevirtual 108, 3) := by decide +kernel
theorem dX7_report_27 : decode cX7_report 27 = .ok (.ifCond .ne 5, 3) := by decide +kernel
theorem dX7_report_30 : decode cX7_report 30 = .ok (.iconst 0, 1) := by decide +kernel
theorem dX7_report_31 : decode cX7_report 31 = .ok (.ireturn, 1) := by decide +kernel
theorem dX7_report_32 : decode cX7_report 32 = .ok (.aload_n 0, 1) := by decide +kernel
theorem dX7_report_33 : decode cX7_report 33 = .ok (.getfield 26, 3) := by decide +kernel
theorem dX7_report_36 : decode cX7_report 36 = .ok (.iload 6, 2) := by decide +kernel
theorem dX7_report_38 : decode cX7_report 38 = .ok (.iload_n 1, 1) := by decide +kernel
theorem dX7_report_39 : decode cX7_report 39 = .ok (.iload_n 2, 1) := by decide +kernel
theorem dX7_report_40 : decode cX7_report 40 = .ok (.iload_n 3, 1) := by decide +kernel
theorem dX7_report_41 : decode cX7_report 41 = .ok (.iload 4, 2) := by decide +kernel
theorem dX7_report_43 : decode cX7_report 43 = .ok (.iload 5, 2) := by decide +kernel
theorem dX7_report_45 : decode cX7_report 45 = .ok (.invokevirtual 112, 3) := by decide +kernel
theorem dX7_report_48 : decode cX7_report 48 = .ok (.iconst 1, 1) := by decide +kernel
theorem dX7_report_49 : decode cX7_report 49 = .ok (.ireturn, 1) := by decide +kernel
set_option maxRecDepth 20000 in
theorem ggX7_tear_X4_tearAt : GoodIn wsX7_tear wsX4_tearAt := goodIn_r _ [12, 13, 37, 38, 39, 40, 41, 42] (by decide +kernel) (by decide +kernel)
set_option maxRecDepth 20000 in
theorem gX7_tear_X4_tearAt : GoodIn wsX7_tear (wsV RX7 120 RX4 yX4_tearAt wsX4_tearAt) := goodIn_app (goodIn_of _ (by decide +kernel)) ggX7_tear_X4_tearAt
theorem dX7_tear_0 : decode cX7_tear 0 = .ok (.aload_n 0, 1) := by decide +kernel
theorem dX7_tear_1 : decode cX7_tear 1 = .ok (.getfield 47, 3) := by decide +kernel
theorem dX7_tear_4 : decode cX7_tear 4 = .ok (.getfield 105, 3) := by decide +kernel
theorem dX7_tear_7 : decode cX7_tear 7 = .ok (.istore_n 2, 1) := by decide +kernel
theorem dX7_tear_8 : decode cX7_tear 8 = .ok (.iload_n 2, 1) := by decide +kernel
theorem dX7_tear_9 : decode cX7_tear 9 = .ok (.bipush 40, 2) := by decide +kernel
theorem dX7_tear_11 : decode cX7_tear 11 = .ok (.if_icmp .ge 14, 3) := by decide +kernel
theorem dX7_tear_14 : decode cX7_tear 14 = .ok (.iload_n 1, 1) := by decide +kernel
theorem dX7_tear_15 : decode cX7_tear 15 = .ok (.iconst (-1), 1) := by decide +kernel
theorem dX7_tear_16 : decode cX7_tear 16 = .ok (.if_icmp .lt 9, 3) := by decide +kernel
theorem dX7_tear_19 : decode cX7_tear 19 = .ok (.iload_n 1, 1) := by decide +kernel
theorem dX7_tear_20 : decode cX7_tear 20 = .ok (.bipush 12, 2) := by decide +kernel
theorem dX7_tear_22 : decode cX7_tear 22 = .ok (.if_icmp .le 5, 3) := by decide +kernel
theorem dX7_tear_25 : decode cX7_tear 25 = .ok (.iconst 0, 1) := by decide +kernel
theorem dX7_tear_26 : decode cX7_tear 26 = .ok (.ireturn, 1) := by decide +kernel
theorem dX7_tear_27 : decode cX7_tear 27 = .ok (.aload_n 0, 1) := by decide +kernel
theorem dX7_tear_28 : decode cX7_tear 28 = .ok (.getfield 26, 3) := by decide +kernel
theorem dX7_tear_31 : decode cX7_tear 31 = .ok (.iload_n 2, 1) := by decide +kernel
theorem dX7_tear_32 : decode cX7_tear 32 = .ok (.iload_n 1, 1) := by decide +kernel
theorem dX7_tear_33 : decode cX7_tear 33 = .ok (.iconst 0, 1) := by decide +kernel
theorem dX7_tear_34 : decode cX7_tear 34 = .ok (.invokestatic 115, 3) := by decide +kernel
theorem dX7_tear_37 : decode cX7_tear 37 = .ok (.invokevirtual 120, 3) := by decide +kernel
theorem dX7_tear_40 : decode cX7_tear 40 = .ok (.iconst 1, 1) := by decide +kernel
theorem dX7_tear_41 : decode cX7_tear 41 = .ok (.ireturn, 1) := by decide +kernel
set_option maxRecDepth 20000 in
theorem ggX7_sent_X7_isHand : GoodIn wsX7_sent wsX7_isHand := goodIn_r _ [10] (by decide +kernel) (by decide +kernel)
set_option maxRecDepth 20000 in
theorem gX7_sent_X7_isHand : GoodIn wsX7_sent (va_wsS RX7 65 yX7_isHand wsX7_isHand) := goodIn_app (goodIn_of _ (by decide +kernel)) ggX7_sent_X7_isHand
set_option maxRecDepth 20000 in
theorem ggX7_sent_X7_isSum : GoodIn wsX7_sent wsX7_isSum := goodIn_r _ [13, 14] (by decide +kernel) (by decide +kernel)
set_option maxRecDepth 20000 in
theorem gX7_sent_X7_isSum : GoodIn wsX7_sent (va_wsS RX7 124 yX7_isSum wsX7_isSum) := goodIn_app (goodIn_of _ (by decide +kernel)) ggX7_sent_X7_isSum
set_option maxRecDepth 20000 in
theorem ggX7_sent_X5_add : GoodIn wsX7_sent wsX5_add := goodIn_r _ [19, 20, 21, 22, 23, 24, 188, 189, 190, 191, 192] (by decide +kernel) (by decide +kernel)
set_option maxRecDepth 20000 in
theorem gX7_sent_X5_add : GoodIn wsX7_sent (wsV RX7 130 RX5 yX5_add wsX5_add) := goodIn_app (goodIn_of _ (by decide +kernel)) ggX7_sent_X5_add
set_option maxRecDepth 20000 in
theorem ggX7_sent_X2_reckonTo : GoodIn wsX7_sent wsX2_reckonTo := goodIn_r _ [29, 30, 31, 32, 33, 34, 35, 36, 37, 28, 38, 39, 40, 41, 42, 43, 44, 45, 46, 47, 48, 49, 50, 51, 52, 53, 54, 55, 56, 57, 58, 59, 60, 61, 62, 63, 64, 65, 66, 67, 68, 69, 70, 71, 72, 73, 74, 75, 76, 77, 78, 79, 80, 81, 82, 83, 84, 85, 86, 87, 88, 89, 90, 91, 92, 93, 94, 95, 96, 97, 98, 99, 100, 101, 102, 103, 104, 105, 106, 107, 108, 109, 110, 111, 112, 113, 114, 115, 116, 117, 118, 119, 120, 121, 122, 123, 124, 125, 126, 127, 128, 129, 130, 131, 132, 133, 134, 135, 136, 137, 138, 9, 139, 140, 141, 142, 143, 144, 145, 146, 147, 148, 149, 150, 151, 152, 153, 154, 155, 156, 157, 158, 159, 160, 161, 162, 163, 164, 165, 166, 167, 168, 169, 170, 171, 172, 173, 174, 175, 176, 177, 178, 179, 180, 193, 194, 195, 196, 197, 198, 199, 200, 201, 202, 203, 204, 205, 206, 207, 208, 188, 189, 190, 191, 192, 209, 210, 211, 212, 213, 214, 215, 216, 217, 218, 219, 220, 221, 222, 223, 224, 225, 226, 227, 228, 229, 230, 231, 232, 233, 234] (by decide +kernel) (by decide +kernel)
set_option maxRecDepth 20000 in
theorem gX7_sent_X2_reckonTo : GoodIn wsX7_sent (wsV RX7 133 RX2 yX2_reckonTo wsX2_reckonTo) := goodIn_app (goodIn_of _ (by decide +kernel)) ggX7_sent_X2_reckonTo
theorem dX7_sent_0 : decode cX7_sent 0 = .ok (.iload_n 1, 1) := by decide +kernel
theorem dX7_sent_1 : decode cX7_sent 1 = .ok (.invokestatic 65, 3) := by decide +kernel
theorem dX7_sent_4 : decode cX7_sent 4 = .ok (.ifCond .eq 22, 3) := by decide +kernel
theorem dX7_sent_7 : decode cX7_sent 7 = .ok (.iload_n 2, 1) := by decide +kernel
theorem dX7_sent_8 : decode cX7_sent 8 = .ok (.invokestatic 124, 3) := by decide +kernel
theorem dX7_sent_11 : decode cX7_sent 11 = .ok (.ifCond .eq 15, 3) := by decide +kernel
theorem dX7_sent_14 : decode cX7_sent 14 = .ok (.aload_n 0, 1) := by decide +kernel
theorem dX7_sent_15 : decode cX7_sent 15 = .ok (.getfield 33, 3) := by decide +kernel
theorem dX7_sent_18 : decode cX7_sent 18 = .ok (.getfield 127, 3) := by decide +kernel
theorem dX7_sent_21 : decode cX7_sent 21 = .ok (.bipush 60, 2) := by decide +kernel
theorem dX7_sent_23 : decode cX7_sent 23 = .ok (.if_icmp .lt 7, 3) := by decide +kernel
theorem dX7_sent_26 : decode cX7_sent 26 = .ok (.ldc2_w 128, 3) := by decide +kernel
theorem dX7_sent_29 : decode cX7_sent 29 = .ok (.lreturn, 1) := by decide +kernel
theorem dX7_sent_30 : decode cX7_sent 30 = .ok (.aload_n 0, 1) := by decide +kernel
theorem dX7_sent_31 : decode cX7_sent 31 = .ok (.getfield 47, 3) := by decide +kernel
theorem dX7_sent_34 : decode cX7_sent 34 = .ok (.getfield 105, 3) := by decide +kernel
theorem dX7_sent_37 : decode cX7_sent 37 = .ok (.istore_n 3, 1) := by decide +kernel
theorem dX7_sent_38 : decode cX7_sent 38 = .ok (.aload_n 0, 1) := by decide +kernel
theorem dX7_sent_39 : decode cX7_sent 39 = .ok (.getfield 33, 3) := by decide +kernel
theorem dX7_sent_42 : decode cX7_sent 42 = .ok (.iload_n 1, 1) := by decide +kernel
theorem dX7_sent_43 : decode cX7_sent 43 = .ok (.iload_n 2, 1) := by decide +kernel
theorem dX7_sent_44 : decode cX7_sent 44 = .ok (.iload_n 3, 1) := by decide +kernel
theorem dX7_sent_45 : decode cX7_sent 45 = .ok (.invokevirtual 130, 3) := by decide +kernel
theorem dX7_sent_48 : decode cX7_sent 48 = .ok (.aload_n 0, 1) := by decide +kernel
theorem dX7_sent_49 : decode cX7_sent 49 = .ok (.getfield 47, 3) := by decide +kernel
theorem dX7_sent_52 : decode cX7_sent 52 = .ok (.iload_n 3, 1) := by decide +kernel
theorem dX7_sent_53 : decode cX7_sent 53 = .ok (.invokevirtual 133, 3) := by decide +kernel
theorem dX7_sent_56 : decode cX7_sent 56 = .ok (.aload_n 0, 1) := by decide +kernel
theorem dX7_sent_57 : decode cX7_sent 57 = .ok (.getfield 47, 3) := by decide +kernel
theorem dX7_sent_60 : decode cX7_sent 60 = .ok (.getfield 137, 3) := by decide +kernel
theorem dX7_sent_63 : decode cX7_sent 63 = .ok (.lreturn, 1) := by decide +kernel
set_option maxRecDepth 20000 in
theorem ggX7_close_X2_reckonTo : GoodIn wsX7_close wsX2_reckonTo := goodIn_r _ [7, 8, 9, 10, 11, 12, 13, 14, 15, 6, 16, 17, 18, 19, 20, 21, 22, 23, 24, 25, 26, 27, 28, 29, 30, 31, 32, 33, 34, 35, 36, 37, 38, 39, 40, 41, 42, 43, 44, 45, 46, 47, 48, 49, 50, 51, 52, 53, 54, 55, 56, 57, 58, 59, 60, 61, 62, 63, 64, 65, 66, 67, 68, 69, 70, 71, 72, 73, 74, 75, 76, 77, 78, 79, 80, 81, 82, 83, 84, 85, 86, 87, 88, 89, 90, 91, 92, 93, 94, 95, 96, 97, 98, 99, 100, 101, 102, 103, 104, 105, 106, 107, 108, 109, 110, 111, 112, 113, 114, 115, 116, 117, 118, 119, 120, 121, 122, 123, 124, 125, 126, 127, 128, 129, 130, 131, 132, 133, 134, 135, 136, 137, 138, 139, 140, 141, 142, 143, 144, 145, 146, 147, 148, 149, 150, 151, 152, 153, 154, 155, 156, 157, 158, 159, 167, 168, 169, 170, 171, 172, 173, 174, 175, 176, 177, 178, 179, 180, 181, 182, 183, 184, 185, 186, 187, 188, 189, 190, 191, 192, 193, 194, 195, 196, 197, 198, 199, 200, 201, 202, 203, 204, 205, 206, 207, 208, 209, 210, 211, 212, 213] (by decide +kernel) (by decide +kernel)
set_option maxRecDepth 20000 in
theorem gX7_close_X2_reckonTo : GoodIn wsX7_close (wsV RX7 133 RX2 yX2_reckonTo wsX2_reckonTo) := goodIn_app (goodIn_of _ (by decide +kernel)) ggX7_close_X2_reckonTo
theorem dX7_close_0 : decode cX7_close 0 = .ok (.aload_n 0, 1) := by decide +kernel
theorem dX7_close_1 : decode cX7_close 1 = .ok (.getfield 47, 3) := by decide +kernel
theorem dX7_close_4 : decode cX7_close 4 = .ok (.getfield 105, 3) := by decide +kernel
theorem dX7_close_7 : decode cX7_close 7 = .ok (.istore_n 1, 1) := by decide +kernel
theorem dX7_close_8 : decode cX7_close 8 = .ok (.iload_n 1, 1) := by decide +kernel
theorem dX7_close_9 : decode cX7_close 9 = .ok (.bipush 40, 2) := by decide +kernel
theorem dX7_close_11 : decode cX7_close 11 = .ok (.if_icmp .lt 5, 3) := by decide +kernel
theorem dX7_close_14 : decode cX7_close 14 = .ok (.iconst (-1), 1) := by decide +kernel
theorem dX7_close_15 : decode cX7_close 15 = .ok (.ireturn, 1) := by decide +kernel
theorem dX7_close_16 : decode cX7_close 16 = .ok (.aload_n 0, 1) := by decide +kernel
theorem dX7_close_17 : decode cX7_close 17 = .ok (.getfield 47, 3) := by decide +kernel
theorem dX7_close_20 : decode cX7_close 20 = .ok (.iload_n 1, 1) := by decide +kernel
theorem dX7_close_21 : decode cX7_close 21 = .ok (.iconst 1, 1) := by decide +kernel
theorem dX7_close_22 : decode cX7_close 22 = .ok (.iadd, 1) := by decide +kernel
theorem dX7_close_23 : decode cX7_close 23 = .ok (.invokevirtual 133, 3) := by decide +kernel
theorem dX7_close_26 : decode cX7_close 26 = .ok (.iload_n 1, 1) := by decide +kernel
theorem dX7_close_27 : decode cX7_close 27 = .ok (.ireturn, 1) := by decide +kernel
set_option maxRecDepth 20000 in
theorem ggX7_due_X7_isHand : GoodIn wsX7_due wsX7_isHand := goodIn_r _ [6] (by decide +kernel) (by decide +kernel)
set_option maxRecDepth 20000 in
theorem gX7_due_X7_isHand : GoodIn wsX7_due (va_wsS RX7 65 yX7_isHand wsX7_isHand) := goodIn_app (goodIn_of _ (by decide +kernel)) ggX7_due_X7_isHand
set_option maxRecDepth 20000 in
theorem ggX7_due_X7_isClosed : GoodIn wsX7_due wsX7_isClosed := goodIn_r _ [10, 1, 11, 12, 13, 14, 15, 16, 17, 18, 19, 20, 21, 22, 23, 24, 25, 26, 27, 28, 29, 30, 31, 32, 33, 34] (by decide +kernel) (by decide +kernel)
set_option maxRecDepth 20000 in
theorem gX7_due_X7_isClosed : GoodIn wsX7_due (wsV RX7 141 RX7 yX7_isClosed wsX7_isClosed) := goodIn_app (goodIn_of _ (by decide +kernel)) ggX7_due_X7_isClosed
theorem dX7_due_0 : decode cX7_due 0 = .ok (.iload_n 1, 1) := by decide +kernel
theorem dX7_due_1 : decode cX7_due 1 = .ok (.invokestatic 65, 3) := by decide +kernel
theorem dX7_due_4 : decode cX7_due 4 = .ok (.ifCond .eq 11, 3) := by decide +kernel
theorem dX7_due_7 : decode cX7_due 7 = .ok (.aload_n 0, 1) := by decide +kernel
theorem dX7_due_8 : decode cX7_due 8 = .ok (.iload_n 2, 1) := by decide +kernel
theorem dX7_due_9 : decode cX7_due 9 = .ok (.invokevirtual 141, 3) := by decide +kernel
theorem dX7_due_12 : decode cX7_due 12 = .ok (.ifCond .ne 5, 3) := by decide +kernel
theorem dX7_due_15 : decode cX7_due 15 = .ok (.iconst (-1), 1) := by decide +kernel
theorem dX7_due_16 : decode cX7_due 16 = .ok (.ireturn, 1) := by decide +kernel
theorem dX7_due_17 : decode cX7_due 17 = .ok (.aload_n 0, 1) := by decide +kernel
theorem dX7_due_18 : decode cX7_due 18 = .ok (.getfield 47, 3) := by decide +kernel
theorem dX7_due_21 : decode cX7_due 21 = .ok (.getfield 144, 3) := by decide +kernel
theorem dX7_due_24 : decode cX7_due 24 = .ok (.iload_n 1, 1) := by decide +kernel
theorem dX7_due_25 : decode cX7_due 25 = .ok (.bipush 40, 2) := by decide +kernel
theorem dX7_due_27 : decode cX7_due 27 = .ok (.imul, 1) := by decide +kernel
theorem dX7_due_28 : decode cX7_due 28 = .ok (.iload_n 2, 1) := by decide +kernel
theorem dX7_due_29 : decode cX7_due 29 = .ok (.iadd, 1) := by decide +kernel
theorem dX7_due_30 : decode cX7_due 30 = .ok (.iaload, 1) := by decide +kernel
theorem dX7_due_31 : decode cX7_due 31 = .ok (.ireturn, 1) := by decide +kernel
set_option maxRecDepth 20000 in
theorem ggX7_hand_X7_isHand : GoodIn wsX7_hand wsX7_isHand := goodIn_r _ [11] (by decide +kernel) (by decide +kernel)
set_option maxRecDepth 20000 in
theorem gX7_hand_X7_isHand : GoodIn wsX7_hand (va_wsS RX7 65 yX7_isHand wsX7_isHand) := goodIn_app (goodIn_of _ (by decide +kernel)) ggX7_hand_X7_isHand
set_option maxRecDepth 20000 in
theorem ggX7_hand_X2_allDues : GoodIn wsX7_hand wsX2_allDues := goodIn_r _ [16, 17, 18, 19, 20, 15, 21, 22, 188, 189, 190, 191, 192, 193, 194, 195, 196, 197, 198, 199, 200, 201, 202, 203] (by decide +kernel) (by decide +kernel)
set_option maxRecDepth 20000 in
theorem gX7_hand_X2_allDues : GoodIn wsX7_hand (wsV RX7 154 RX2 yX2_allDues wsX2_allDues) := goodIn_app (goodIn_of _ (by decide +kernel)) ggX7_hand_X2_allDues
set_option maxRecDepth 20000 in
theorem ggX7_hand_X2_reckonTo : GoodIn wsX7_hand wsX2_reckonTo := goodIn_r _ [26, 27, 28, 29, 30, 17, 31, 32, 33, 15, 34, 35, 36, 37, 38, 39, 40, 41, 42, 43, 44, 45, 46, 47, 48, 49, 50, 51, 52, 53, 54, 55, 56, 57, 58, 59, 60, 61, 62, 63, 64, 65, 66, 67, 68, 69, 70, 71, 72, 73, 74, 75, 76, 77, 78, 79, 80, 81, 82, 83, 84, 85, 86, 87, 88, 89, 90, 91, 92, 93, 94, 95, 96, 97, 98, 99, 100, 101, 102, 103, 104, 105, 106, 107, 108, 109, 110, 111, 112, 113, 114, 115, 116, 117, 118, 119, 120, 121, 122, 123, 124, 125, 126, 127, 128, 129, 130, 131, 132, 133, 134, 10, 135, 136, 137, 138, 139, 140, 141, 142, 143, 144, 145, 146, 147, 148, 149, 150, 151, 152, 153, 154, 155, 156, 157, 158, 159, 160, 161, 162, 163, 164, 165, 22, 166, 167, 168, 169, 170, 171, 18, 19, 20, 21, 188, 189, 190, 191, 192, 193, 194, 195, 196, 197, 198, 199, 200, 201, 202, 203, 204, 205, 206, 207, 208, 209, 210, 211, 212, 213, 214, 215, 216, 217, 218, 219, 220, 221, 222, 223, 224, 225, 226, 227, 228, 229, 230, 231, 232, 233, 234] (by decide +kernel) (by decide +kernel)
set_option maxRecDepth 20000 in
theorem gX7_hand_X2_reckonTo : GoodIn wsX7_hand (wsV RX7 133 RX2 yX2_reckonTo wsX2_reckonTo) := goodIn_app (goodIn_of _ (by decide +kernel)) ggX7_hand_X2_reckonTo
set_option maxRecDepth 20000 in
theorem ggX7_hand_X7_owedTo : GoodIn wsX7_hand wsX7_owedTo := goodIn_r _ [175, 6, 2, 176, 177, 178, 15, 179, 41, 122, 52, 180, 13, 14, 16, 17, 18, 19, 20, 21, 22, 181, 182, 183, 184, 185, 186, 187, 188, 189, 190, 191, 192, 193, 194, 195, 196, 197, 198, 199, 200, 201, 202, 203] (by decide +kernel) (by decide +kernel)
set_option maxRecDepth 20000 in
theorem gX7_hand_X7_owedTo : GoodIn wsX7_hand (wsV RX7 161 RX7 yX7_owedTo wsX7_owedTo) := goodIn_app (goodIn_of _ (by decide +kernel)) ggX7_hand_X7_owedTo
theorem dX7_hand_0 : decode cX7_hand 0 = .ok (.iload_n 1, 1) := by decide +kernel
theorem dX7_hand_1 : decode cX7_hand 1 = .ok (.invokestatic 65, 3) := by decide +kernel
theorem dX7_hand_4 : decode cX7_hand 4 = .ok (.ifCond .ne 7, 3) := by decide +kernel
theorem dX7_hand_7 : decode cX7_hand 7 = .ok (.ldc2_w 128, 3) := by decide +kernel
theorem dX7_hand_10 : decode cX7_hand 10 = .ok (.lreturn, 1) := by decide +kernel
theorem dX7_hand_11 : decode cX7_hand 11 = .ok (.iload_n 2, 1) := by decide +kernel
theorem dX7_hand_12 : decode cX7_hand 12 = .ok (.tableswitch 95 0 4 #[36, 46, 56, 65, 75], 36) := by decide +kernel
theorem dX7_hand_48 : decode cX7_hand 48 = .ok (.aload_n 0, 1) := by decide +kernel
theorem dX7_hand_49 : decode cX7_hand 49 = .ok (.getfield 47, 3) := by decide +kernel
theorem dX7_hand_52 : decode cX7_hand 52 = .ok (.getfield 147, 3) := by decide +kernel
theorem dX7_hand_55 : decode cX7_hand 55 = .ok (.iload_n 1, 1) := by decide +kernel
theorem dX7_hand_56 : decode cX7_hand 56 = .ok (.laload, 1) := by decide +kernel
theorem dX7_hand_57 : decode cX7_hand 57 = .ok (.lreturn, 1) := by decide +kernel
theorem dX7_hand_58 : decode cX7_hand 58 = .ok (.aload_n 0, 1) := by decide +kernel
theorem dX7_hand_59 : decode cX7_hand 59 = .ok (.getfield 47, 3) := by decide +kernel
theorem dX7_hand_62 : decode cX7_hand 62 = .ok (.getfield 151, 3) := by decide +kernel
theorem dX7_hand_65 : decode cX7_hand 65 = .ok (.iload_n 1, 1) := by decide +kernel
theorem dX7_hand_66 : decode cX7_hand 66 = .ok (.laload, 1) := by decide +kernel
theorem dX7_hand_67 : decode cX7_hand 67 = .ok (.lreturn, 1) := by decide +kernel
theorem dX7_hand_68 : decode cX7_hand 68 = .ok (.aload_n 0, 1) := by decide +kernel
theorem dX7_hand_69 : decode cX7_hand 69 = .ok (.getfield 47, 3) := by decide +kernel
theorem dX7_hand_72 : decode cX7_hand 72 = .ok (.iload_n 1, 1) := by decide +kernel
theorem dX7_hand_73 : decode cX7_hand 73 = .ok (.invokevirtual 154, 3) := by decide +kernel
theorem dX7_hand_76 : decode cX7_hand 76 = .ok (.lreturn, 1) := by decide +kernel
theorem dX7_hand_77 : decode cX7_hand 77 = .ok (.aload_n 0, 1) := by decide +kernel
theorem dX7_hand_78 : decode cX7_hand 78 = .ok (.getfield 47, 3) := by decide +kernel
theorem dX7_hand_81 : decode cX7_hand 81 = .ok (.getfield 158, 3) := by decide +kernel
theorem dX7_hand_84 : decode cX7_hand 84 = .ok (.iload_n 1, 1) := by decide +kernel
theorem dX7_hand_85 : decode cX7_hand 85 = .ok (.laload, 1) := by decide +kernel
theorem dX7_hand_86 : decode cX7_hand 86 = .ok (.lreturn, 1) := by decide +kernel
theorem dX7_hand_87 : decode cX7_hand 87 = .ok (.aload_n 0, 1) := by decide +kernel
theorem dX7_hand_88 : decode cX7_hand 88 = .ok (.getfield 51, 3) := by decide +kernel
theorem dX7_hand_91 : decode cX7_hand 91 = .ok (.aload_n 0, 1) := by decide +kernel
theorem dX7_hand_92 : decode cX7_hand 92 = .ok (.getfield 47, 3) := by decide +kernel
theorem dX7_hand_95 : decode cX7_hand 95 = .ok (.getfield 105, 3) := by decide +kernel
theorem dX7_hand_98 : decode cX7_hand 98 = .ok (.invokevirtual 133, 3) := by decide +kernel
theorem dX7_hand_101 : decode cX7_hand 101 = .ok (.aload_n 0, 1) := by decide +kernel
theorem dX7_hand_102 : decode cX7_hand 102 = .ok (.iload_n 1, 1) := by decide +kernel
theorem dX7_hand_103 : decode cX7_hand 103 = .ok (.invokevirtual 161, 3) := by decide +kernel
theorem dX7_hand_106 : decode cX7_hand 106 = .ok (.lreturn, 1) := by decide +kernel
theorem dX7_hand_107 : decode cX7_hand 107 = .ok (.ldc2_w 128, 3) := by decide +kernel
theorem dX7_hand_110 : decode cX7_hand 110 = .ok (.lreturn, 1) := by decide +kernel
set_option maxRecDepth 20000 in
theorem ggX7_has_X2_stillIn : GoodIn wsX7_has wsX2_stillIn := goodIn_r _ [12, 13, 14, 15, 16, 17, 18, 35, 36, 37, 38, 39, 40, 41, 42, 43, 44, 45, 46, 47, 48, 49, 50, 26, 27, 28, 29, 30, 31, 32, 33, 34] (by decide +kernel) (by decide +kernel)
set_option maxRecDepth 20000 in
theorem gX7_has_X2_stillIn : GoodIn wsX7_has (wsV RX7 170 RX2 yX2_stillIn wsX2_stillIn) := goodIn_app (goodIn_of _ (by decide +kernel)) ggX7_has_X2_stillIn
theorem dX7_has_0 : decode cX7_has 0 = .ok (.iload_n 1, 1) := by decide +kernel
theorem dX7_has_1 : decode cX7_has 1 = .ok (.ifCond .lt 14, 3) := by decide +kernel
theorem dX7_has_4 : decode cX7_has 4 = .ok (.iload_n 1, 1) := by decide +kernel
theorem dX7_has_5 : decode cX7_has 5 = .ok (.aload_n 0, 1) := by decide +kernel
theorem dX7_has_6 : decode cX7_has 6 = .ok (.getfield 19, 3) := by decide +kernel
theorem dX7_has_9 : decode cX7_has 9 = .ok (.getfield 86, 3) := by decide +kernel
theorem dX7_has_12 : decode cX7_has 12 = .ok (.if_icmp .lt 7, 3) := by decide +kernel
theorem dX7_has_15 : decode cX7_has 15 = .ok (.ldc2_w 128, 3) := by decide +kernel
theorem dX7_has_18 : decode cX7_has 18 = .ok (.lreturn, 1) := by decide +kernel
theorem dX7_has_19 : decode cX7_has 19 = .ok (.iload_n 2, 1) := by decide +kernel
theorem dX7_has_20 : decode cX7_has 20 = .ok (.ifCond .ne 13, 3) := by decide +kernel
theorem dX7_has_23 : decode cX7_has 23 = .ok (.aload_n 0, 1) := by decide +kernel
theorem dX7_has_24 : decode cX7_has 24 = .ok (.getfield 47, 3) := by decide +kernel
theorem dX7_has_27 : decode cX7_has 27 = .ok (.getfield 164, 3) := by decide +kernel
theorem dX7_has_30 : decode cX7_has 30 = .ok (.iload_n 1, 1) := by decide +kernel
theorem dX7_has_31 : decode cX7_has 31 = .ok (.laload, 1) := by decide +kernel
theorem dX7_has_32 : decode cX7_has 32 = .ok (.lreturn, 1) := by decide +kernel
theorem dX7_has_33 : decode cX7_has 33 = .ok (.iload_n 2, 1) := by decide +kernel
theorem dX7_has_34 : decode cX7_has 34 = .ok (.iconst 1, 1) := by decide +kernel
theorem dX7_has_35 : decode cX7_has 35 = .ok (.if_icmp .ne 13, 3) := by decide +kernel
theorem dX7_has_38 : decode cX7_has 38 = .ok (.aload_n 0, 1) := by decide +kernel
theorem dX7_has_39 : decode cX7_has 39 = .ok (.getfield 47, 3) := by decide +kernel
theorem dX7_has_42 : decode cX7_has 42 = .ok (.getfield 167, 3) := by decide +kernel
theorem dX7_has_45 : decode cX7_has 45 = .ok (.iload_n 1, 1) := by decide +kernel
theorem dX7_has_46 : decode cX7_has 46 = .ok (.laload, 1) := by decide +kernel
theorem dX7_has_47 : decode cX7_has 47 = .ok (.lreturn, 1) := by decide +kernel
theorem dX7_has_48 : decode cX7_has 48 = .ok (.iload_n 2, 1) := by decide +kernel
theorem dX7_has_49 : decode cX7_has 49 = .ok (.iconst 2, 1) := by decide +kernel
theorem dX7_has_50 : decode cX7_has 50 = .ok (.if_icmp .ne 12, 3) := by decide +kernel
theorem dX7_has_53 : decode cX7_has 53 = .ok (.aload_n 0, 1) := by decide +kernel
theorem dX7_has_54 : decode cX7_has 54 = .ok (.getfield 47, 3) := by decide +kernel
theorem dX7_has_57 : decode cX7_has 57 = .ok (.iload_n 1, 1) := by decide +kernel
theorem dX7_has_58 : decode cX7_has 58 = .ok (.invokevirtual 170, 3) := by decide +kernel
theorem dX7_has_61 : decode cX7_has 61 = .ok (.lreturn, 1) := by decide +kernel
theorem dX7_has_62 : decode cX7_has 62 = .ok (.iload_n 2, 1) := by decide +kernel
theorem dX7_has_63 : decode cX7_has 63 = .ok (.bipush 20, 2) := by decide +kernel
theorem dX7_has_65 : decode cX7_has 65 = .ok (.if_icmp .lt 27, 3) := by decide +kernel
theorem dX7_has_68 : decode cX7_has 68 = .ok (.iload_n 2, 1) := by decide +kernel
theorem dX7_has_69 : decode cX7_has 69 = .ok (.bipush 60, 2) := by decide +kernel
theorem dX7_has_71 : decode cX7_has 71 = .ok (.if_icmp .ge 21, 3) := by decide +kernel
theorem dX7_has_74 : decode cX7_has 74 = .ok (.aload_n 0, 1) := by decide +kernel
theorem dX7_has_75 : decode cX7_has 75 = .ok (.getfield 47, 3) := by decide +kernel
theorem dX7_has_78 : decode cX7_has 78 = .ok (.getfield 173, 3) := by decide +kernel
theorem dX7_has_81 : decode cX7_has 81 = .ok (.iload_n 1, 1) := by decide +kernel
theorem dX7_has_82 : decode cX7_has 82 = .ok (.bipush 40, 2) := by decide +kernel
theorem dX7_has_84 : decode cX7_has 84 = .ok (.imul, 1) := by decide +kernel
theorem dX7_has_85 : decode cX7_has 85 = .ok (.iload_n 2, 1) := by decide +kernel
theorem dX7_has_86 : decode cX7_has 86 = .ok (.iadd, 1) := by decide +kernel
theorem dX7_has_87 : decode cX7_has 87 = .ok (.bipush 20, 2) := by decide +kernel
theorem dX7_has_89 : decode cX7_has 89 = .ok (.isub, 1) := by decide +kernel
theorem dX7_has_90 : decode cX7_has 90 = .ok (.laload, 1) := by decide +kernel
theorem dX7_has_91 : decode cX7_has 91 = .ok (.lreturn, 1) := by decide +kernel
theorem dX7_has_92 : decode cX7_has 92 = .ok (.lconst 0, 1) := by decide +kernel
theorem dX7_has_93 : decode cX7_has 93 = .ok (.lreturn, 1) := by decide +kernel
set_option maxRecDepth 20000 in
theorem ggX7_told_X7_isClosed : GoodIn wsX7_told wsX7_isClosed := goodIn_r _ [6, 7, 8, 37, 38, 39, 40, 41, 42, 43, 44, 45, 46, 47, 48, 49, 50, 51, 52, 53, 54, 55, 56, 57, 58, 59] (by decide +kernel) (by decide +kernel)
set_option maxRecDepth 20000 in
theorem gX7_told_X7_isClosed : GoodIn wsX7_told (wsV RX7 141 RX7 yX7_isClosed wsX7_isClosed) := goodIn_app (goodIn_of _ (by decide +kernel)) ggX7_told_X7_isClosed
set_option maxRecDepth 20000 in
theorem ggX7_told_X7_isTheTerm : GoodIn wsX7_told wsX7_isTheTerm := goodIn_r _ [12, 7, 8, 37, 38, 39, 40, 41, 42, 43, 44, 45, 46, 47, 48, 49, 50, 51, 52, 53, 54, 55, 56, 57, 58, 59] (by decide +kernel) (by decide +kernel)
set_option maxRecDepth 20000 in
theorem gX7_told_X7_isTheTerm : GoodIn wsX7_told (wsV RX7 176 RX7 yX7_isTheTerm wsX7_isTheTerm) := goodIn_app (goodIn_of _ (by decide +kernel)) ggX7_told_X7_isTheTerm
set_option maxRecDepth 20000 in
theorem ggX7_told_X7_isWork : GoodIn wsX7_told wsX7_isWork := goodIn_r _ [15] (by decide +kernel) (by decide +kernel)
set_option maxRecDepth 20000 in
theorem gX7_told_X7_isWork : GoodIn wsX7_told (va_wsS RX7 54 yX7_isWork wsX7_isWork) := goodIn_app (goodIn_of _ (by decide +kernel)) ggX7_told_X7_isWork
set_option maxRecDepth 20000 in
theorem ggX7_told_X4_coinsOf : GoodIn wsX7_told wsX4_coinsOf := goodIn_r _ [20, 21, 60, 61, 62, 63, 64, 65] (by decide +kernel) (by decide +kernel)
set_option maxRecDepth 20000 in
theorem gX7_told_X4_coinsOf : GoodIn wsX7_told (wsV RX7 179 RX4 yX4_coinsOf wsX4_coinsOf) := goodIn_app (goodIn_of _ (by decide +kernel)) ggX7_told_X4_coinsOf
set_option maxRecDepth 20000 in
theorem ggX7_told_X4_wayOf : GoodIn wsX7_told wsX4_wayOf := goodIn_r _ [25, 26, 60, 61, 62, 63, 64, 65] (by decide +kernel) (by decide +kernel)
set_option maxRecDepth 20000 in
theorem gX7_told_X4_wayOf : GoodIn wsX7_told (wsV RX7 183 RX4 yX4_wayOf wsX4_wayOf) := goodIn_app (goodIn_of _ (by decide +kernel)) ggX7_told_X4_wayOf
set_option maxRecDepth 20000 in
theorem ggX7_told_X4_isOpen : GoodIn wsX7_told wsX4_isOpen := goodIn_r _ [30, 31, 60, 61, 62, 63, 64, 65] (by decide +kernel) (by decide +kernel)
set_option maxRecDepth 20000 in
theorem gX7_told_X4_isOpen : GoodIn wsX7_told (wsV RX7 186 RX4 yX4_isOpen wsX4_isOpen) := goodIn_app (goodIn_of _ (by decide +kernel)) ggX7_told_X4_isOpen
set_option maxRecDepth 20000 in
theorem ggX7_told_X4_placeOf : GoodIn wsX7_told wsX4_placeOf := goodIn_r _ [35, 26, 36, 60, 61, 62, 63, 64, 65] (by decide +kernel) (by decide +kernel)
set_option maxRecDepth 20000 in
theorem gX7_told_X4_placeOf : GoodIn wsX7_told (wsV RX7 189 RX4 yX4_placeOf wsX4_placeOf) := goodIn_app (goodIn_of _ (by decide +kernel)) ggX7_told_X4_placeOf
theorem dX7_told_0 : decode cX7_told 0 = .ok (.aload_n 0, 1) := by decide +kernel
theorem dX7_told_1 : decode cX7_told 1 = .ok (.iload_n 1, 1) := by decide +kernel
theorem dX7_told_2 : decode cX7_told 2 = .ok (.invokevirtual 141, 3) := by decide +kernel
theorem dX7_told_5 : decode cX7_told 5 = .ok (.ifCond .ne 11, 3) := by decide +kernel
theorem dX7_told_8 : decode cX7_told 8 = .ok (.aload_n 0, 1) := by decide +kernel
theorem dX7_told_9 : decode cX7_told 9 = .ok (.iload_n 1, 1) := by decide +kernel
theorem dX7_told_10 : decode cX7_told 10 = .ok (.invokevirtual 176, 3) := by decide +kernel
theorem dX7_told_13 : decode cX7_told 13 = .ok (.ifCond .eq 7, 3) := by decide +kernel
theorem dX7_told_16 : decode cX7_told 16 = .ok (.iconst 1, 1) := by decide +kernel
theorem dX7_told_17 : decode cX7_told 17 = .ok (.goto 4, 3) := by decide +kernel
theorem dX7_told_20 : decode cX7_told 20 = .ok (.iconst 0, 1) := by decide +kernel
theorem dX7_told_21 : decode cX7_told 21 = .ok (.istore 4, 2) := by decide +kernel
theorem dX7_told_23 : decode cX7_told 23 = .ok (.iload 4, 2) := by decide +kernel
theorem dX7_told_25 : decode cX7_told 25 = .ok (.ifCond .eq 10, 3) := by decide +kernel
theorem dX7_told_28 : decode cX7_told 28 = .ok (.iload_n 2, 1) := by decide +kernel
theorem dX7_told_29 : decode cX7_told 29 = .ok (.invokestatic 54, 3) := by decide +kernel
theorem dX7_told_32 : decode cX7_told 32 = .ok (.ifCond .ne 5, 3) := by decide +kernel
theorem dX7_told_35 : decode cX7_told 35 = .ok (.iconst (-1), 1) := by decide +kernel
theorem dX7_told_36 : decode cX7_told 36 = .ok (.ireturn, 1) := by decide +kernel
theorem dX7_told_37 : decode cX7_told 37 = .ok (.iload_n 3, 1) := by decide +kernel
theorem dX7_told_38 : decode cX7_told 38 = .ok (.tableswitch 83 0 4 #[34, 34, 34, 45, 73], 34) := by decide +kernel
theorem dX7_told_72 : decode cX7_told 72 = .ok (.aload_n 0, 1) := by decide +kernel
theorem dX7_told_73 : decode cX7_told 73 = .ok (.getfield 26, 3) := by decide +kernel
theorem dX7_told_76 : decode cX7_told 76 = .ok (.iload_n 1, 1) := by decide +kernel
theorem dX7_told_77 : decode cX7_told 77 = .ok (.iload_n 2, 1) := by decide +kernel
theorem dX7_told_78 : decode cX7_told 78 = .ok (.iload_n 3, 1) := by decide +kernel
theorem dX7_told_79 : decode cX7_told 79 = .ok (.invokevirtual 179, 3) := by decide +kernel
theorem dX7_told_82 : decode cX7_told 82 = .ok (.ireturn, 1) := by decide +kernel
theorem dX7_told_83 : decode cX7_told 83 = .ok (.aload_n 0, 1) := by decide +kernel
theorem dX7_told_84 : decode cX7_told 84 = .ok (.getfield 26, 3) := by decide +kernel
theorem dX7_told_87 : decode cX7_told 87 = .ok (.iload_n 1, 1) := by decide +kernel
theorem dX7_told_88 : decode cX7_told 88 = .ok (.iload_n 2, 1) := by decide +kernel
theorem dX7_told_89 : decode cX7_told 89 = .ok (.invokevirtual 183, 3) := by decide +kernel
theorem dX7_told_92 : decode cX7_told 92 = .ok (.aload_n 0, 1) := by decide +kernel
theorem dX7_told_93 : decode cX7_told 93 = .ok (.getfield 26, 3) := by decide +kernel
theorem dX7_told_96 : decode cX7_told 96 = .ok (.iload_n 1, 1) := by decide +kernel
theorem dX7_told_97 : decode cX7_told 97 = .ok (.iload_n 2, 1) := by decide +kernel
theorem dX7_told_98 : decode cX7_told 98 = .ok (.invokevirtual 186, 3) := by decide +kernel
theorem dX7_told_101 : decode cX7_told 101 = .ok (.ifCond .eq 7, 3) := by decide +kernel
theorem dX7_told_104 : decode cX7_told 104 = .ok (.iconst 4, 1) := by decide +kernel
theorem dX7_told_105 : decode cX7_told 105 = .ok (.goto 4, 3) := by decide +kernel
theorem dX7_told_108 : decode cX7_told 108 = .ok (.iconst 0, 1) := by decide +kernel
theorem dX7_told_109 : decode cX7_told 109 = .ok (.iadd, 1) := by decide +kernel
theorem dX7_told_110 : decode cX7_told 110 = .ok (.ireturn, 1) := by decide +kernel
theorem dX7_told_111 : decode cX7_told 111 = .ok (.aload_n 0, 1) := by decide +kernel
theorem dX7_told_112 : decode cX7_told 112 = .ok (.getfield 26, 3) := by decide +kernel
theorem dX7_told_115 : decode cX7_told 115 = .ok (.iload_n 1, 1) := by decide +kernel
theorem dX7_told_116 : decode cX7_told 116 = .ok (.iload_n 2, 1) := by decide +kernel
theorem dX7_told_117 : decode cX7_told 117 = .ok (.invokevirtual 189, 3) := by decide +kernel
theorem dX7_told_120 : decode cX7_told 120 = .ok (.ireturn, 1) := by decide +kernel
theorem dX7_told_121 : decode cX7_told 121 = .ok (.iconst (-1), 1) := by decide +kernel
theorem dX7_told_122 : decode cX7_told 122 = .ok (.ireturn, 1) := by decide +kernel
set_option maxRecDepth 20000 in
theorem ggX7_mend_X7_isClosed : GoodIn wsX7_mend wsX7_isClosed := goodIn_r _ [8, 9, 3, 60, 61, 62, 63, 64, 65, 66, 67, 68, 69, 70, 71, 72, 73, 74, 75, 76, 77, 78, 79, 80, 81, 82] (by decide +kernel) (by decide +kernel)
set_option maxRecDepth 20000 in
theorem gX7_mend_X7_isClosed : GoodIn wsX7_mend (wsV RX7 141 RX7 yX7_isClosed wsX7_isClosed) := goodIn_app (goodIn_of _ (by decide +kernel)) ggX7_mend_X7_isClosed
set_option maxRecDepth 20000 in
theorem ggX7_mend_X7_reportFits : GoodIn wsX7_mend wsX7_reportFits := goodIn_r _ [13, 14, 15, 16, 17, 7, 18, 19, 20, 21, 22, 60, 61, 62, 63, 64, 65, 66, 83, 84, 85, 86] (by decide +kernel) (by decide +kernel)
set_option maxRecDepth 20000 in
theorem gX7_mend_X7_reportFits : GoodIn wsX7_mend (wsV RX7 108 RX7 yX7_reportFits wsX7_reportFits) := goodIn_app (goodIn_of _ (by decide +kernel)) ggX7_mend_X7_reportFits
set_option maxRecDepth 20000 in
theorem ggX7_mend_X4_put : GoodIn wsX7_mend wsX4_put := goodIn_r _ [27, 28, 29, 30, 31, 32, 87, 88, 89, 90, 91, 92] (by decide +kernel) (by decide +kernel)
set_option maxRecDepth 20000 in
theorem gX7_mend_X4_put : GoodIn wsX7_mend (wsV RX7 112 RX4 yX4_put wsX4_put) := goodIn_app (goodIn_of _ (by decide +kernel)) ggX7_mend_X4_put
set_option maxRecDepth 20000 in
theorem ggX7_mend_X4_bringBack : GoodIn wsX7_mend wsX4_bringBack := goodIn_r _ [36, 37, 87, 88, 89, 90, 91, 92] (by decide +kernel) (by decide +kernel)
set_option maxRecDepth 20000 in
theorem gX7_mend_X4_bringBack : GoodIn wsX7_mend (wsV RX7 192 RX4 yX4_bringBack wsX4_bringBack) := goodIn_app (goodIn_of _ (by decide +kernel)) ggX7_mend_X4_bringBack
set_option maxRecDepth 20000 in
theorem ggX7_mend_X2_clear : GoodIn wsX7_mend wsX2_clear := goodIn_r _ [42, 43, 44, 45, 46, 47, 48, 49, 50, 51, 52, 53, 54, 55, 56, 57, 58, 59, 67, 68, 69, 70, 71, 72, 73, 74, 75, 76, 77, 78, 79, 80, 81, 82] (by decide +kernel) (by decide +kernel)
set_option maxRecDepth 20000 in
theorem gX7_mend_X2_clear : GoodIn wsX7_mend (wsV RX7 195 RX2 yX2_clear wsX2_clear) := goodIn_app (goodIn_of _ (by decide +kernel)) ggX7_mend_X2_clear
theorem dX7_mend_0 : decode cX7_mend 0 = .ok (.aload_n 0, 1) := by decide +kernel
theorem dX7_mend_1 : decode cX7_mend 1 = .ok (.iload_n 1, 1) := by decide +kernel
theorem dX7_mend_2 : decode cX7_mend 2 = .ok (.invokevirtual 141, 3) := by decide +kernel
theorem dX7_mend_5 : decode cX7_mend 5 = .ok (.ifCond .eq 18, 3) := by decide +kernel
theorem dX7_mend_8 : decode cX7_mend 8 = .ok (.aload_n 0, 1) := by decide +kernel
theorem dX7_mend_9 : decode cX7_mend 9 = .ok (.iload_n 2, 1) := by decide +kernel
theorem dX7_mend_10 : decode cX7_mend 10 = .ok (.iload_n 3, 1) := by decide +kernel
theorem dX7_mend_11 : decode cX7_mend 11 = .ok (.iload 4, 2) := by decide +kernel
theorem dX7_mend_13 : decode cX7_mend 13 = .ok (.iload 5, 2) := by decide +kernel
theorem dX7_mend_15 : decode cX7_mend 15 = .ok (.iload 6, 2) := by decide +kernel
theorem dX7_mend_17 : decode cX7_mend 17 = .ok (.invokevirtual 108, 3) := by decide +kernel
theorem dX7_mend_20 : decode cX7_mend 20 = .ok (.ifCond .ne 5, 3) := by decide +kernel
theorem dX7_mend_23 : decode cX7_mend 23 = .ok (.iconst 0, 1) := by decide +kernel
theorem dX7_mend_24 : decode cX7_mend 24 = .ok (.ireturn, 1) := by decide +kernel
theorem dX7_mend_25 : decode cX7_mend 25 = .ok (.aload_n 0, 1) := by decide +kernel
theorem dX7_mend_26 : decode cX7_mend 26 = .ok (.getfield 26, 3) := by decide +kernel
theorem dX7_mend_29 : decode cX7_mend 29 = .ok (.iload_n 1, 1) := by decide +kernel
theorem dX7_mend_30 : decode cX7_mend 30 = .ok (.iload_n 2, 1) := by decide +kernel
theorem dX7_mend_31 : decode cX7_mend 31 = .ok (.iload_n 3, 1) := by decide +kernel
theorem dX7_mend_32 : decode cX7_mend 32 = .ok (.iload 4, 2) := by decide +kernel
theorem dX7_mend_34 : decode cX7_mend 34 = .ok (.iload 5, 2) := by decide +kernel
theorem dX7_mend_36 : decode cX7_mend 36 = .ok (.iload 6, 2) := by decide +kernel
theorem dX7_mend_38 : decode cX7_mend 38 = .ok (.invokevirtual 112, 3) := by decide +kernel
theorem dX7_mend_41 : decode cX7_mend 41 = .ok (.aload_n 0, 1) := by decide +kernel
theorem dX7_mend_42 : decode cX7_mend 42 = .ok (.getfield 26, 3) := by decide +kernel
theorem dX7_mend_45 : decode cX7_mend 45 = .ok (.iload_n 1, 1) := by decide +kernel
theorem dX7_mend_46 : decode cX7_mend 46 = .ok (.iload_n 2, 1) := by decide +kernel
theorem dX7_mend_47 : decode cX7_mend 47 = .ok (.invokevirtual 192, 3) := by decide +kernel
