theorem dX6_init_38 : decode cX6_init 38 = .ok (.return_, 1) := by decide +kernel
theorem dX6_hasRoom_0 : decode cX6_hasRoom 0 = .ok (.aload_n 0, 1) := by decide +kernel
theorem dX6_hasRoom_1 : decode cX6_hasRoom 1 = .ok (.getfield 9, 3) := by decide +kernel
theorem dX6_hasRoom_4 : decode cX6_hasRoom 4 = .ok (.iload_n 1, 1) := by decide +kernel
theorem dX6_hasRoom_5 : decode cX6_hasRoom 5 = .ok (.iaload, 1) := by decide +kernel
theorem dX6_hasRoom_6 : decode cX6_hasRoom 6 = .ok (.istore_n 3, 1) := by decide +kernel
theorem dX6_hasRoom_7 : decode cX6_hasRoom 7 = .ok (.iload_n 3, 1) := by decide +kernel
theorem dX6_hasRoom_8 : decode cX6_hasRoom 8 = .ok (.ifCond .ne 5, 3) := by decide +kernel
theorem dX6_hasRoom_11 : decode cX6_hasRoom 11 = .ok (.iconst 1, 1) := by decide +kernel
theorem dX6_hasRoom_12 : decode cX6_hasRoom 12 = .ok (.ireturn, 1) := by decide +kernel
theorem dX6_hasRoom_13 : decode cX6_hasRoom 13 = .ok (.iload_n 3, 1) := by decide +kernel
theorem dX6_hasRoom_14 : decode cX6_hasRoom 14 = .ok (.bipush 6, 2) := by decide +kernel
theorem dX6_hasRoom_16 : decode cX6_hasRoom 16 = .ok (.if_icmp .ge 24, 3) := by decide +kernel
theorem dX6_hasRoom_19 : decode cX6_hasRoom 19 = .ok (.iload_n 2, 1) := by decide +kernel
theorem dX6_hasRoom_20 : decode cX6_hasRoom 20 = .ok (.aload_n 0, 1) := by decide +kernel
theorem dX6_hasRoom_21 : decode cX6_hasRoom 21 = .ok (.getfield 15, 3) := by decide +kernel
theorem dX6_hasRoom_24 : decode cX6_hasRoom 24 = .ok (.iload_n 1, 1) := by decide +kernel
theorem dX6_hasRoom_25 : decode cX6_hasRoom 25 = .ok (.bipush 6, 2) := by decide +kernel
theorem dX6_hasRoom_27 : decode cX6_hasRoom 27 = .ok (.imul, 1) := by decide +kernel
theorem dX6_hasRoom_28 : decode cX6_hasRoom 28 = .ok (.iload_n 3, 1) := by decide +kernel
theorem dX6_hasRoom_29 : decode cX6_hasRoom 29 = .ok (.iadd, 1) := by decide +kernel
theorem dX6_hasRoom_30 : decode cX6_hasRoom 30 = .ok (.iconst 1, 1) := by decide +kernel
theorem dX6_hasRoom_31 : decode cX6_hasRoom 31 = .ok (.isub, 1) := by decide +kernel
theorem dX6_hasRoom_32 : decode cX6_hasRoom 32 = .ok (.iaload, 1) := by decide +kernel
theorem dX6_hasRoom_33 : decode cX6_hasRoom 33 = .ok (.if_icmp .le 7, 3) := by decide +kernel
theorem dX6_hasRoom_36 : decode cX6_hasRoom 36 = .ok (.iconst 1, 1) := by decide +kernel
theorem dX6_hasRoom_37 : decode cX6_hasRoom 37 = .ok (.goto 4, 3) := by decide +kernel
theorem dX6_hasRoom_40 : decode cX6_hasRoom 40 = .ok (.iconst 0, 1) := by decide +kernel
theorem dX6_hasRoom_41 : decode cX6_hasRoom 41 = .ok (.ireturn, 1) := by decide +kernel
theorem dX6_addSet_0 : decode cX6_addSet 0 = .ok (.iload_n 1, 1) := by decide +kernel
theorem dX6_addSet_1 : decode cX6_addSet 1 = .ok (.bipush 6, 2) := by decide +kernel
theorem dX6_addSet_3 : decode cX6_addSet 3 = .ok (.imul, 1) := by decide +kernel
theorem dX6_addSet_4 : decode cX6_addSet 4 = .ok (.aload_n 0, 1) := by decide +kernel
theorem dX6_addSet_5 : decode cX6_addSet 5 = .ok (.getfield 9, 3) := by decide +kernel
theorem dX6_addSet_8 : decode cX6_addSet 8 = .ok (.iload_n 1, 1) := by decide +kernel
theorem dX6_addSet_9 : decode cX6_addSet 9 = .ok (.iaload, 1) := by decide +kernel
theorem dX6_addSet_10 : decode cX6_addSet 10 = .ok (.iadd, 1) := by decide +kernel
theorem dX6_addSet_11 : decode cX6_addSet 11 = .ok (.istore_n 3, 1) := by decide +kernel
theorem dX6_addSet_12 : decode cX6_addSet 12 = .ok (.aload_n 0, 1) := by decide +kernel
theorem dX6_addSet_13 : decode cX6_addSet 13 = .ok (.getfield 15, 3) := by decide +kernel
theorem dX6_addSet_16 : decode cX6_addSet 16 = .ok (.iload_n 3, 1) := by decide +kernel
theorem dX6_addSet_17 : decode cX6_addSet 17 = .ok (.iload_n 2, 1) := by decide +kernel
theorem dX6_addSet_18 : decode cX6_addSet 18 = .ok (.iastore, 1) := by decide +kernel
theorem dX6_addSet_19 : decode cX6_addSet 19 = .ok (.aload_n 0, 1) := by decide +kernel
theorem dX6_addSet_20 : decode cX6_addSet 20 = .ok (.getfield 9, 3) := by decide +kernel
theorem dX6_addSet_23 : decode cX6_addSet 23 = .ok (.iload_n 1, 1) := by decide +kernel
theorem dX6_addSet_24 : decode cX6_addSet 24 = .ok (.dup2, 1) := by decide +kernel
theorem dX6_addSet_25 : decode cX6_addSet 25 = .ok (.iaload, 1) := by decide +kernel
theorem dX6_addSet_26 : decode cX6_addSet 26 = .ok (.iconst 1, 1) := by decide +kernel
theorem dX6_addSet_27 : decode cX6_addSet 27 = .ok (.iadd, 1) := by decide +kernel
theorem dX6_addSet_28 : decode cX6_addSet 28 = .ok (.iastore, 1) := by decide +kernel
theorem dX6_addSet_29 : decode cX6_addSet 29 = .ok (.iload_n 3, 1) := by decide +kernel
theorem dX6_addSet_30 : decode cX6_addSet 30 = .ok (.ireturn, 1) := by decide +kernel
theorem dX6_put_0 : decode cX6_put 0 = .ok (.aload_n 0, 1) := by decide +kernel
theorem dX6_put_1 : decode cX6_put 1 = .ok (.getfield 18, 3) := by decide +kernel
theorem dX6_put_4 : decode cX6_put 4 = .ok (.iload_n 1, 1) := by decide +kernel
theorem dX6_put_5 : decode cX6_put 5 = .ok (.iconst 3, 1) := by decide +kernel
theorem dX6_put_6 : decode cX6_put 6 = .ok (.imul, 1) := by decide +kernel
theorem dX6_put_7 : decode cX6_put 7 = .ok (.iload_n 2, 1) := by decide +kernel
theorem dX6_put_8 : decode cX6_put 8 = .ok (.iadd, 1) := by decide +kernel
theorem dX6_put_9 : decode cX6_put 9 = .ok (.iload_n 3, 1) := by decide +kernel
theorem dX6_put_10 : decode cX6_put 10 = .ok (.iastore, 1) := by decide +kernel
theorem dX6_put_11 : decode cX6_put 11 = .ok (.aload_n 0, 1) := by decide +kernel
theorem dX6_put_12 : decode cX6_put 12 = .ok (.getfield 21, 3) := by decide +kernel
theorem dX6_put_15 : decode cX6_put 15 = .ok (.iload_n 1, 1) := by decide +kernel
theorem dX6_put_16 : decode cX6_put 16 = .ok (.iconst 3, 1) := by decide +kernel
theorem dX6_put_17 : decode cX6_put 17 = .ok (.imul, 1) := by decide +kernel
theorem dX6_put_18 : decode cX6_put 18 = .ok (.iload_n 2, 1) := by decide +kernel
theorem dX6_put_19 : decode cX6_put 19 = .ok (.iadd, 1) := by decide +kernel
theorem dX6_put_20 : decode cX6_put 20 = .ok (.iload 4, 2) := by decide +kernel
theorem dX6_put_22 : decode cX6_put 22 = .ok (.iastore, 1) := by decide +kernel
theorem dX6_put_23 : decode cX6_put 23 = .ok (.return_, 1) := by decide +kernel
theorem dX6_setAt_0 : decode cX6_setAt 0 = .ok (.iload_n 1, 1) := by decide +kernel
theorem dX6_setAt_1 : decode cX6_setAt 1 = .ok (.bipush 6, 2) := by decide +kernel
theorem dX6_setAt_3 : decode cX6_setAt 3 = .ok (.imul, 1) := by decide +kernel
theorem dX6_setAt_4 : decode cX6_setAt 4 = .ok (.istore_n 3, 1) := by decide +kernel
theorem dX6_setAt_5 : decode cX6_setAt 5 = .ok (.iconst 1, 1) := by decide +kernel
theorem dX6_setAt_6 : decode cX6_setAt 6 = .ok (.istore 4, 2) := by decide +kernel
theorem dX6_setAt_8 : decode cX6_setAt 8 = .ok (.iload 4, 2) := by decide +kernel
theorem dX6_setAt_10 : decode cX6_setAt 10 = .ok (.aload_n 0, 1) := by decide +kernel
theorem dX6_setAt_11 : decode cX6_setAt 11 = .ok (.getfield 9, 3) := by decide +kernel
theorem dX6_setAt_14 : decode cX6_setAt 14 = .ok (.iload_n 1, 1) := by decide +kernel
theorem dX6_setAt_15 : decode cX6_setAt 15 = .ok (.iaload, 1) := by decide +kernel
theorem dX6_setAt_16 : decode cX6_setAt 16 = .ok (.if_icmp .ge 33, 3) := by decide +kernel
theorem dX6_setAt_19 : decode cX6_setAt 19 = .ok (.aload_n 0, 1) := by decide +kernel
theorem dX6_setAt_20 : decode cX6_setAt 20 = .ok (.getfield 15, 3) := by decide +kernel
theorem dX6_setAt_23 : decode cX6_setAt 23 = .ok (.iload_n 1, 1) := by decide +kernel
theorem dX6_setAt_24 : decode cX6_setAt 24 = .ok (.bipush 6, 2) := by decide +kernel
theorem dX6_setAt_26 : decode cX6_setAt 26 = .ok (.imul, 1) := by decide +kernel
theorem dX6_setAt_27 : decode cX6_setAt 27 = .ok (.iload 4, 2) := by decide +kernel
theorem dX6_setAt_29 : decode cX6_setAt 29 = .ok (.iadd, 1) := by decide +kernel
theorem dX6_setAt_30 : decode cX6_setAt 30 = .ok (.iaload, 1) := by decide +kernel
theorem dX6_setAt_31 : decode cX6_setAt 31 = .ok (.iload_n 2, 1) := by decide +kernel
theorem dX6_setAt_32 : decode cX6_setAt 32 = .ok (.if_icmp .gt 11, 3) := by decide +kernel
theorem dX6_setAt_35 : decode cX6_setAt 35 = .ok (.iload_n 1, 1) := by decide +kernel
theorem dX6_setAt_36 : decode cX6_setAt 36 = .ok (.bipush 6, 2) := by decide +kernel
theorem dX6_setAt_38 : decode cX6_setAt 38 = .ok (.imul, 1) := by decide +kernel
theorem dX6_setAt_39 : decode cX6_setAt 39 = .ok (.iload 4, 2) := by decide +kernel
theorem dX6_setAt_41 : decode cX6_setAt 41 = .ok (.iadd, 1) := by decide +kernel
theorem dX6_setAt_42 : decode cX6_setAt 42 = .ok (.istore_n 3, 1) := by decide +kernel
theorem dX6_setAt_43 : decode cX6_setAt 43 = .ok (.iinc 4 1, 3) := by decide +kernel
theorem dX6_setAt_46 : decode cX6_setAt 46 = .ok (.goto (-38), 3) := by decide +kernel
theorem dX6_setAt_49 : decode cX6_setAt 49 = .ok (.iload_n 3, 1) := by decide +kernel
theorem dX6_setAt_50 : decode cX6_setAt 50 = .ok (.ireturn, 1) := by decide +kernel
set_option maxRecDepth 20000 in
theorem ggX7_init_X6_init : GoodIn wsX7_init wsX6_init := goodIn_r _ [29, 30, 2, 3, 31, 32, 33, 34, 35, 108, 109, 110, 111] rfl (by decide +kernel)
set_option maxRecDepth 20000 in
theorem gX7_init_X6_init_n9 : GoodIn wsX7_init (wsX6_init) := ggX7_init_X6_init
set_option maxRecDepth 20000 in
theorem ggX7_init_X0_init : GoodIn wsX7_init wsX0_init := goodIn_r _ [37, 38, 2, 3, 31, 39, 40, 41, 42, 43, 44, 45, 46, 119, 120, 121, 122, 123, 124, 125, 126, 127] rfl (by decide +kernel)
set_option maxRecDepth 20000 in
theorem gX7_init_X0_init_n18 : GoodIn wsX7_init (wsX0_init) := ggX7_init_X0_init
set_option maxRecDepth 20000 in
theorem ggX7_init_X4_init : GoodIn wsX7_init wsX4_init := goodIn_r _ [48, 49, 2, 3, 31, 50, 51, 52, 53, 54, 55, 128, 129, 130, 131, 132, 133] rfl (by decide +kernel)
set_option maxRecDepth 20000 in
theorem gX7_init_X4_init_n25 : GoodIn wsX7_init (wsX4_init) := ggX7_init_X4_init
set_option maxRecDepth 20000 in
theorem ggX7_init_X5_init : GoodIn wsX7_init wsX5_init := goodIn_r _ [57, 58, 2, 3, 31, 59, 60, 61, 134, 135, 136, 137, 138] rfl (by decide +kernel)
set_option maxRecDepth 20000 in
theorem gX7_init_X5_init_n32 : GoodIn wsX7_init (wsX5_init) := ggX7_init_X5_init
set_option maxRecDepth 20000 in
theorem ggX7_init_X1_init : GoodIn wsX7_init wsX1_init := goodIn_r _ [64, 65, 2, 3, 66, 67, 68, 69, 139, 140, 141, 142] rfl (by decide +kernel)
set_option maxRecDepth 20000 in
theorem gX7_init_X1_init : GoodIn wsX7_init (wsX1_init) := ggX7_init_X1_init
set_option maxRecDepth 20000 in
theorem ggX7_init_X2_init : GoodIn wsX7_init wsX2_init := goodIn_r _ [72, 73, 2, 3, 74, 75, 76, 77, 31, 78, 79, 80, 81, 82, 83, 84, 85, 86, 87, 88, 89, 90, 91, 92, 93, 94, 95, 96, 97, 98, 99, 100, 101, 102, 103, 104, 105, 106, 107, 143, 144, 145, 146, 147, 148, 149, 150, 151, 152, 153, 154, 155, 156, 157, 158, 139, 140, 141, 142, 159, 160, 161, 162, 163, 164, 165] rfl (by decide +kernel)
set_option maxRecDepth 20000 in
theorem gX7_init_X2_init : GoodIn wsX7_init (wsX2_init) := ggX7_init_X2_init
theorem dX7_init_0 : decode cX7_init 0 = .ok (.aload_n 0, 1) := by decide +kernel
theorem dX7_init_1 : decode cX7_init 1 = .ok (.invokespecial 1, 3) := by decide +kernel
theorem dX7_init_4 : decode cX7_init 4 = .ok (.aload_n 0, 1) := by decide +kernel
theorem dX7_init_5 : decode cX7_init 5 = .ok (.new 7, 3) := by decide +kernel
theorem dX7_init_8 : decode cX7_init 8 = .ok (.dup, 1) := by decide +kernel
theorem dX7_init_9 : decode cX7_init 9 = .ok (.invokespecial 9, 3) := by decide +kernel
theorem dX7_init_12 : decode cX7_init 12 = .ok (.putfield 10, 3) := by decide +kernel
theorem dX7_init_15 : decode cX7_init 15 = .ok (.aload_n 0, 1) := by decide +kernel
theorem dX7_init_16 : decode cX7_init 16 = .ok (.new 16, 3) := by decide +kernel
theorem dX7_init_19 : decode cX7_init 19 = .ok (.dup, 1) := by decide +kernel
theorem dX7_init_20 : decode cX7_init 20 = .ok (.invokespecial 18, 3) := by decide +kernel
theorem dX7_init_23 : decode cX7_init 23 = .ok (.putfield 19, 3) := by decide +kernel
theorem dX7_init_26 : decode cX7_init 26 = .ok (.aload_n 0, 1) := by decide +kernel
theorem dX7_init_27 : decode cX7_init 27 = .ok (.new 23, 3) := by decide +kernel
theorem dX7_init_30 : decode cX7_init 30 = .ok (.dup, 1) := by decide +kernel
theorem dX7_init_31 : decode cX7_init 31 = .ok (.invokespecial 25, 3) := by decide +kernel
theorem dX7_init_34 : decode cX7_init 34 = .ok (.putfield 26, 3) := by decide +kernel
theorem dX7_init_37 : decode cX7_init 37 = .ok (.aload_n 0, 1) := by decide +kernel
theorem dX7_init_38 : decode cX7_init 38 = .ok (.new 30, 3) := by decide +kernel
theorem dX7_init_41 : decode cX7_init 41 = .ok (.dup, 1) := by decide +kernel
theorem dX7_init_42 : decode cX7_init 42 = .ok (.invokespecial 32, 3) := by decide +kernel
theorem dX7_init_45 : decode cX7_init 45 = .ok (.putfield 33, 3) := by decide +kernel
theorem dX7_init_48 : decode cX7_init 48 = .ok (.new 37, 3) := by decide +kernel
theorem dX7_init_51 : decode cX7_init 51 = .ok (.dup, 1) := by decide +kernel
theorem dX7_init_52 : decode cX7_init 52 = .ok (.aload_n 0, 1) := by decide +kernel
theorem dX7_init_53 : decode cX7_init 53 = .ok (.getfield 10, 3) := by decide +kernel
theorem dX7_init_56 : decode cX7_init 56 = .ok (.aload_n 0, 1) := by decide +kernel
theorem dX7_init_57 : decode cX7_init 57 = .ok (.getfield 19, 3) := by decide +kernel
theorem dX7_init_60 : decode cX7_init 60 = .ok (.aload_n 0, 1) := by decide +kernel
theorem dX7_init_61 : decode cX7_init 61 = .ok (.getfield 26, 3) := by decide +kernel
theorem dX7_init_64 : decode cX7_init 64 = .ok (.aload_n 0, 1) := by decide +kernel
theorem dX7_init_65 : decode cX7_init 65 = .ok (.getfield 33, 3) := by decide +kernel
theorem dX7_init_68 : decode cX7_init 68 = .ok (.invokespecial 39, 3) := by decide +kernel
theorem dX7_init_71 : decode cX7_init 71 = .ok (.astore_n 1, 1) := by decide +kernel
theorem dX7_init_72 : decode cX7_init 72 = .ok (.aload_n 0, 1) := by decide +kernel
theorem dX7_init_73 : decode cX7_init 73 = .ok (.new 42, 3) := by decide +kernel
theorem dX7_init_76 : decode cX7_init 76 = .ok (.dup, 1) := by decide +kernel
theorem dX7_init_77 : decode cX7_init 77 = .ok (.aload_n 1, 1) := by decide +kernel
theorem dX7_init_78 : decode cX7_init 78 = .ok (.sipush 600, 3) := by decide +kernel
theorem dX7_init_81 : decode cX7_init 81 = .ok (.invokespecial 44, 3) := by decide +kernel
theorem dX7_init_84 : decode cX7_init 84 = .ok (.putfield 47, 3) := by decide +kernel
theorem dX7_init_87 : decode cX7_init 87 = .ok (.aload_n 0, 1) := by decide +kernel
theorem dX7_init_88 : decode cX7_init 88 = .ok (.new 42, 3) := by decide +kernel
theorem dX7_init_91 : decode cX7_init 91 = .ok (.dup, 1) := by decide +kernel
theorem dX7_init_92 : decode cX7_init 92 = .ok (.aload_n 1, 1) := by decide +kernel
theorem dX7_init_93 : decode cX7_init 93 = .ok (.iconst 0, 1) := by decide +kernel
theorem dX7_init_94 : decode cX7_init 94 = .ok (.invokespecial 44, 3) := by decide +kernel
theorem dX7_init_97 : decode cX7_init 97 = .ok (.putfield 51, 3) := by decide +kernel
theorem dX7_init_100 : decode cX7_init 100 = .ok (.return_, 1) := by decide +kernel
set_option maxRecDepth 20000 in
theorem ggX7_share_X7_isWork : GoodIn wsX7_share wsX7_isWork := goodIn_r _ [6] rfl (by decide +kernel)
set_option maxRecDepth 20000 in
theorem gX7_share_X7_isWork : GoodIn wsX7_share (va_wsS RX7 54 yX7_isWork wsX7_isWork) := goodIn_app (goodIn_of _ (by decide +kernel)) ggX7_share_X7_isWork
set_option maxRecDepth 20000 in
theorem ggX7_share_X7_isDayAhead : GoodIn wsX7_share wsX7_isDayAhead := goodIn_r _ [10, 11, 12, 39, 40, 41, 42, 43, 44, 45, 50, 51, 52, 53, 54, 55, 56, 57, 58, 59, 60, 61, 62, 63, 64, 65] rfl (by decide +kernel)
set_option maxRecDepth 20000 in
theorem gX7_share_X7_isDayAhead : GoodIn wsX7_share (wsV RX7 58 RX7 yX7_isDayAhead wsX7_isDayAhead) := goodIn_app (goodIn_of _ (by decide +kernel)) ggX7_share_X7_isDayAhead
set_option maxRecDepth 20000 in
theorem ggX7_share_X6_hasRoom : GoodIn wsX7_share wsX6_hasRoom := goodIn_r _ [17, 18, 19, 46, 47, 48, 49] rfl (by decide +kernel)
set_option maxRecDepth 20000 in
theorem gX7_share_X6_hasRoom : GoodIn wsX7_share (wsV RX7 61 RX6 yX6_hasRoom wsX6_hasRoom) := goodIn_app (goodIn_of _ (by decide +kernel)) ggX7_share_X6_hasRoom
set_option maxRecDepth 20000 in
theorem ggX7_share_X7_isHand : GoodIn wsX7_share wsX7_isHand := goodIn_r _ [22] rfl (by decide +kernel)
set_option maxRecDepth 20000 in
theorem gX7_share_X7_isHand : GoodIn wsX7_share (va_wsS RX7 65 yX7_isHand wsX7_isHand) := goodIn_app (goodIn_of _ (by decide +kernel)) ggX7_share_X7_isHand
set_option maxRecDepth 20000 in
theorem ggX7_share_X7_isPart : GoodIn wsX7_share wsX7_isPart := goodIn_r _ [25] rfl (by decide +kernel)
set_option maxRecDepth 20000 in
theorem gX7_share_X7_isPart : GoodIn wsX7_share (va_wsS RX7 68 yX7_isPart wsX7_isPart) := goodIn_app (goodIn_of _ (by decide +kernel)) ggX7_share_X7_isPart
set_option maxRecDepth 20000 in
theorem ggX7_share_X7_isSharer : GoodIn wsX7_share wsX7_isSharer := goodIn_r _ [28, 20, 21, 5, 22, 23, 24, 25] rfl (by decide +kernel)
set_option maxRecDepth 20000 in
theorem gX7_share_X7_isSharer : GoodIn wsX7_share (va_wsS RX7 71 yX7_isSharer wsX7_isSharer) := goodIn_app (goodIn_of _ (by decide +kernel)) ggX7_share_X7_isSharer
set_option maxRecDepth 20000 in
theorem ggX7_share_X6_addSet : GoodIn wsX7_share wsX6_addSet := goodIn_r _ [32, 18, 19, 46, 47, 48, 49] rfl (by decide +kernel)
set_option maxRecDepth 20000 in
theorem gX7_share_X6_addSet : GoodIn wsX7_share (wsV RX7 74 RX6 yX6_addSet wsX6_addSet) := goodIn_app (goodIn_of _ (by decide +kernel)) ggX7_share_X6_addSet
set_option maxRecDepth 20000 in
theorem ggX7_share_X6_put : GoodIn wsX7_share wsX6_put := goodIn_r _ [36, 37, 38, 46, 47, 48, 49] rfl (by decide +kernel)
set_option maxRecDepth 20000 in
theorem gX7_share_X6_put : GoodIn wsX7_share (wsV RX7 78 RX6 yX6_put wsX6_put) := goodIn_app (goodIn_of _ (by decide +kernel)) ggX7_share_X6_put
theorem dX7_share_0 : decode cX7_share 0 = .ok (.iload_n 1, 1) := by decide +kernel
theorem dX7_share_1 : decode cX7_share 1 = .ok (.invokestatic 54, 3) := by decide +kernel
theorem dX7_share_4 : decode cX7_share 4 = .ok (.ifCond .eq 23, 3) := by decide +kernel
theorem dX7_share_7 : decode cX7_share 7 = .ok (.aload_n 0, 1) := by decide +kernel
theorem dX7_share_8 : decode cX7_share 8 = .ok (.iload_n 2, 1) := by decide +kernel
theorem dX7_share_9 : decode cX7_share 9 = .ok (.invokevirtual 58, 3) := by decide +kernel
theorem dX7_share_12 : decode cX7_share 12 = .ok (.ifCond .eq 15, 3) := by decide +kernel
theorem dX7_share_15 : decode cX7_share 15 = .ok (.aload_n 0, 1) := by decide +kernel
theorem dX7_share_16 : decode cX7_share 16 = .ok (.getfield 10, 3) := by decide +kernel
theorem dX7_share_19 : decode cX7_share 19 = .ok (.iload_n 1, 1) := by decide +kernel
theorem dX7_share_20 : decode cX7_share 20 = .ok (.iload_n 2, 1) := by decide +kernel
theorem dX7_share_21 : decode cX7_share 21 = .ok (.invokevirtual 61, 3) := by decide +kernel
theorem dX7_share_24 : decode cX7_share 24 = .ok (.ifCond .ne 5, 3) := by decide +kernel
theorem dX7_share_27 : decode cX7_share 27 = .ok (.iconst (-1), 1) := by decide +kernel
theorem dX7_share_28 : decode cX7_share 28 = .ok (.ireturn, 1) := by decide +kernel
theorem dX7_share_29 : decode cX7_share 29 = .ok (.iload_n 3, 1) := by decide +kernel
theorem dX7_share_30 : decode cX7_share 30 = .ok (.invokestatic 65, 3) := by decide +kernel
theorem dX7_share_33 : decode cX7_share 33 = .ok (.ifCond .eq 31, 3) := by decide +kernel
theorem dX7_share_36 : decode cX7_share 36 = .ok (.iload 4, 2) := by decide +kernel
theorem dX7_share_38 : decode cX7_share 38 = .ok (.invokestatic 68, 3) := by decide +kernel
theorem dX7_share_41 : decode cX7_share 41 = .ok (.ifCond .eq 23, 3) := by decide +kernel
theorem dX7_share_44 : decode cX7_share 44 = .ok (.iload 5, 2) := by decide +kernel
theorem dX7_share_46 : decode cX7_share 46 = .ok (.iload 6, 2) := by decide +kernel
theorem dX7_share_48 : decode cX7_share 48 = .ok (.invokestatic 71, 3) := by decide +kernel
theorem dX7_share_51 : decode cX7_share 51 = .ok (.ifCond .eq 13, 3) := by decide +kernel
theorem dX7_share_54 : decode cX7_share 54 = .ok (.iload 7, 2) := by decide +kernel
theorem dX7_share_56 : decode cX7_share 56 = .ok (.iload 8, 2) := by decide +kernel
theorem dX7_share_58 : decode cX7_share 58 = .ok (.invokestatic 71, 3) := by decide +kernel
theorem dX7_share_61 : decode cX7_share 61 = .ok (.ifCond .ne 5, 3) := by decide +kernel
theorem dX7_share_64 : decode cX7_share 64 = .ok (.iconst (-1), 1) := by decide +kernel
theorem dX7_share_65 : decode cX7_share 65 = .ok (.ireturn, 1) := by decide +kernel
theorem dX7_share_66 : decode cX7_share 66 = .ok (.iload 5, 2) := by decide +kernel
theorem dX7_share_68 : decode cX7_share 68 = .ok (.iconst (-1), 1) := by decide +kernel
theorem dX7_share_69 : decode cX7_share 69 = .ok (.if_icmp .ne 13, 3) := by decide +kernel
theorem dX7_share_72 : decode cX7_share 72 = .ok (.iload 7, 2) := by decide +kernel
theorem dX7_share_74 : decode cX7_share 74 = .ok (.iconst (-1), 1) := by decide +kernel
theorem dX7_share_75 : decode cX7_share 75 = .ok (.if_icmp .eq 7, 3) := by decide +kernel
theorem dX7_share_78 : decode cX7_share 78 = .ok (.iconst 1, 1) := by decide +kernel
theorem dX7_share_79 : decode cX7_share 79 = .ok (.goto 4, 3) := by decide +kernel
theorem dX7_share_82 : decode cX7_share 82 = .ok (.iconst 0, 1) := by decide +kernel
theorem dX7_share_83 : decode cX7_share 83 = .ok (.istore 9, 2) := by decide +kernel
theorem dX7_share_85 : decode cX7_share 85 = .ok (.iload_n 3, 1) := by decide +kernel
theorem dX7_share_86 : decode cX7_share 86 = .ok (.iload 5, 2) := by decide +kernel
theorem dX7_share_88 : decode cX7_share 88 = .ok (.if_icmp .eq 22, 3) := by decide +kernel
theorem dX7_share_91 : decode cX7_share 91 = .ok (.iload_n 3, 1) := by decide +kernel
theorem dX7_share_92 : decode cX7_share 92 = .ok (.iload 7, 2) := by decide +kernel
theorem dX7_share_94 : decode cX7_share 94 = .ok (.if_icmp .eq 16, 3) := by decide +kernel
theorem dX7_share_97 : decode cX7_share 97 = .ok (.iload 5, 2) := by decide +kernel
theorem dX7_share_99 : decode cX7_share 99 = .ok (.iconst (-1), 1) := by decide +kernel
theorem dX7_share_100 : decode cX7_share 100 = .ok (.if_icmp .eq 14, 3) := by decide +kernel
theorem dX7_share_103 : decode cX7_share 103 = .ok (.iload 5, 2) := by decide +kernel
theorem dX7_share_105 : decode cX7_share 105 = .ok (.iload 7, 2) := by decide +kernel
theorem dX7_share_107 : decode cX7_share 107 = .ok (.if_icmp .ne 7, 3) := by decide +kernel
theorem dX7_share_110 : decode cX7_share 110 = .ok (.iconst 1, 1) := by decide +kernel
theorem dX7_share_111 : decode cX7_share 111 = .ok (.goto 4, 3) := by decide +kernel
theorem dX7_share_114 : decode cX7_share 114 = .ok (.iconst 0, 1) := by decide +kernel
theorem dX7_share_115 : decode cX7_share 115 = .ok (.istore 10, 2) := by decide +kernel
theorem dX7_share_117 : decode cX7_share 117 = .ok (.iload 9, 2) := by decide +kernel
theorem dX7_share_119 : decode cX7_share 119 = .ok (.ifCond .ne 22, 3) := by decide +kernel
theorem dX7_share_122 : decode cX7_share 122 = .ok (.iload 10, 2) := by decide +kernel
theorem dX7_share_124 : decode cX7_share 124 = .ok (.ifCond .ne 17, 3) := by decide +kernel
theorem dX7_share_127 : decode cX7_share 127 = .ok (.iload 4, 2) := by decide +kernel
theorem dX7_share_129 : decode cX7_share 129 = .ok (.iload 6, 2) := by decide +kernel
theorem dX7_share_131 : decode cX7_share 131 = .ok (.iadd, 1) := by decide +kernel
theorem dX7_share_132 : decode cX7_share 132 = .ok (.iload 8, 2) := by decide +kernel
theorem dX7_share_134 : decode cX7_share 134 = .ok (.iadd, 1) := by decide +kernel
theorem dX7_share_135 : decode cX7_share 135 = .ok (.sipush 1000, 3) := by decide +kernel
theorem dX7_share_138 : decode cX7_share 138 = .ok (.if_icmp .eq 5, 3) := by decide +kernel
theorem dX7_share_141 : decode cX7_share 141 = .ok (.iconst (-1), 1) := by decide +kernel
theorem dX7_share_142 : decode cX7_share 142 = .ok (.ireturn, 1) := by decide +kernel
theorem dX7_share_143 : decode cX7_share 143 = .ok (.aload_n 0, 1) := by decide +kernel
theorem dX7_share_144 : decode cX7_share 144 = .ok (.getfield 10, 3) := by decide +kernel
theorem dX7_share_147 : decode cX7_share 147 = .ok (.iload_n 1, 1) := by decide +kernel
theorem dX7_share_148 : decode cX7_share 148 = .ok (.iload_n 2, 1) := by decide +kernel
theorem dX7_share_149 : decode cX7_share 149 = .ok (.invokevirtual 74, 3) := by decide +kernel
theorem dX7_share_152 : decode cX7_share 152 = .ok (.istore 11, 2) := by decide +kernel
theorem dX7_share_154 : decode cX7_share 154 = .ok (.aload_n 0, 1) := by decide +kernel
theorem dX7_share_155 : decode cX7_share 155 = .ok (.getfield 10, 3) := by decide +kernel
theorem dX7_share_158 : decode cX7_share 158 = .ok (.iload 11, 2) := by decide +kernel
theorem dX7_share_160 : decode cX7_share 160 = .ok (.iconst 0, 1) := by decide +kernel
theorem dX7_share_161 : decode cX7_share 161 = .ok (.iload_n 3, 1) := by decide +kernel
theorem dX7_share_162 : decode cX7_share 162 = .ok (.iload 4, 2) := by decide +kernel
theorem dX7_share_164 : decode cX7_share 164 = .ok (.invokevirtual 78, 3) := by decide +kernel
theorem dX7_share_167 : decode cX7_share 167 = .ok (.aload_n 0, 1) := by decide +kernel
theorem dX7_share_168 : decode cX7_share 168 = .ok (.getfield 10, 3) := by decide +kernel
theorem dX7_share_171 : decode cX7_share 171 = .ok (.iload 11, 2) := by decide +kernel
theorem dX7_share_173 : decode cX7_share 173 = .ok (.iconst 1, 1) := by decide +kernel
theorem dX7_share_174 : decode cX7_share 174 = .ok (.iload 5, 2) := by decide +kernel
theorem dX7_share_176 : decode cX7_share 176 = .ok (.iload 6, 2) := by decide +kernel
theorem dX7_share_178 : decode cX7_share 178 = .ok (.invokevirtual 78, 3) := by decide +kernel
theorem dX7_share_181 : decode cX7_share 181 = .ok (.aload_n 0, 1) := by decide +kernel
theorem dX7_share_182 : decode cX7_share 182 = .ok (.getfield 10, 3) := by decide +kernel
theorem dX7_share_185 : decode cX7_share 185 = .ok (.iload 11, 2) := by decide +kernel
theorem dX7_share_187 : decode cX7_share 187 = .ok (.iconst 2, 1) := by decide +kernel
theorem dX7_share_188 : decode cX7_share 188 = .ok (.iload 7, 2) := by decide +kernel
theorem dX7_share_190 : decode cX7_share 190 = .ok (.iload 8, 2) := by decide +kernel
theorem dX7_share_192 : decode cX7_share 192 = .ok (.invokevirtual 78, 3) := by decide +kernel
theorem dX7_share_195 : decode cX7_share 195 = .ok (.aload_n 0, 1) := by decide +kernel
theorem dX7_share_196 : decode cX7_share 196 = .ok (.getfield 10, 3) := by decide +kernel
theorem dX7_share_199 : decode cX7_share 199 = .ok (.getfield 82, 3) := by decide +kernel
theorem dX7_share_202 : decode cX7_share 202 = .ok (.iload_n 1, 1) := by decide +kernel
theorem dX7_share_203 : decode cX7_share 203 = .ok (.iaload, 1) := by decide +kernel
theorem dX7_share_204 : decode cX7_share 204 = .ok (.ireturn, 1) := by decide +kernel
set_option maxRecDepth 20000 in
theorem ggX7_bargain_X7_isHand : GoodIn wsX7_bargain wsX7_isHand := goodIn_r _ [6] rfl (by decide +kernel)
set_option maxRecDepth 20000 in
theorem gX7_bargain_X7_isHand : GoodIn wsX7_bargain (va_wsS RX7 65 yX7_isHand wsX7_isHand) := goodIn_app (goodIn_of _ (by decide +kernel)) ggX7_bargain_X7_isHand
set_option maxRecDepth 20000 in
theorem ggX7_bargain_X7_isDayAhead : GoodIn wsX7_bargain wsX7_isDayAhead := goodIn_r _ [10, 11, 12, 44, 45, 46, 47, 48, 49, 50, 60, 61, 62, 63, 64, 65, 66, 67, 68, 69, 70, 71, 72, 73, 74, 75] rfl (by decide +kernel)
set_option maxRecDepth 20000 in
theorem gX7_bargain_X7_isDayAhead : GoodIn wsX7_bargain (wsV RX7 58 RX7 yX7_isDayAhead wsX7_isDayAhead) := goodIn_app (goodIn_of _ (by decide +kernel)) ggX7_bargain_X7_isDayAhead
set_option maxRecDepth 20000 in
theorem ggX7_bargain_X7_termsFit : GoodIn wsX7_bargain wsX7_termsFit := goodIn_r _ [15, 16, 17, 5, 18, 19, 20, 21, 22] rfl (by decide +kernel)
set_option maxRecDepth 20000 in
theorem gX7_bargain_X7_termsFit : GoodIn wsX7_bargain (va_wsS RX7 90 yX7_termsFit wsX7_termsFit) := goodIn_app (goodIn_of _ (by decide +kernel)) ggX7_bargain_X7_termsFit
set_option maxRecDepth 20000 in
theorem ggX7_bargain_X7_passesOn : GoodIn wsX7_bargain wsX7_passesOn := goodIn_r _ [25] rfl (by decide +kernel)
set_option maxRecDepth 20000 in
theorem gX7_bargain_X7_passesOn : GoodIn wsX7_bargain (va_wsS RX7 94 yX7_passesOn wsX7_passesOn) := goodIn_app (goodIn_of _ (by decide +kernel)) ggX7_bargain_X7_passesOn
set_option maxRecDepth 20000 in
theorem ggX7_bargain_X0_add : GoodIn wsX7_bargain wsX0_add := goodIn_r _ [30, 31, 32, 33, 34, 35, 51, 52, 53, 54, 55, 56, 57, 58, 59] rfl (by decide +kernel)
set_option maxRecDepth 20000 in
theorem gX7_bargain_X0_add : GoodIn wsX7_bargain (wsV RX7 97 RX0 yX0_add wsX0_add) := goodIn_app (goodIn_of _ (by decide +kernel)) ggX7_bargain_X0_add
set_option maxRecDepth 20000 in
theorem ggX7_bargain_X0_agree : GoodIn wsX7_bargain wsX0_agree := goodIn_r _ [39, 40, 41, 42, 43, 51, 52, 53, 54, 55, 56, 57, 58, 59] rfl (by decide +kernel)
set_option maxRecDepth 20000 in
theorem gX7_bargain_X0_agree : GoodIn wsX7_bargain (wsV RX7 101 RX0 yX0_agree wsX0_agree) := goodIn_app (goodIn_of _ (by decide +kernel)) ggX7_bargain_X0_agree
theorem dX7_bargain_0 : decode cX7_bargain 0 = .ok (.iload_n 1, 1) := by decide +kernel
theorem dX7_bargain_1 : decode cX7_bargain 1 = .ok (.ifCond .lt 27, 3) := by decide +kernel
theorem dX7_bargain_4 : decode cX7_bargain 4 = .ok (.iload_n 1, 1) := by decide +kernel
theorem dX7_bargain_5 : decode cX7_bargain 5 = .ok (.iconst 4, 1) := by decide +kernel
theorem dX7_bargain_6 : decode cX7_bargain 6 = .ok (.if_icmp .gt 22, 3) := by decide +kernel
theorem dX7_bargain_9 : decode cX7_bargain 9 = .ok (.iload_n 2, 1) := by decide +kernel
theorem dX7_bargain_10 : decode cX7_bargain 10 = .ok (.invokestatic 65, 3) := by decide +kernel
theorem dX7_bargain_13 : decode cX7_bargain 13 = .ok (.ifCond .eq 15, 3) := by decide +kernel
theorem dX7_bargain_16 : decode cX7_bargain 16 = .ok (.iload_n 3, 1) := by decide +kernel
theorem dX7_bargain_17 : decode cX7_bargain 17 = .ok (.iconst 1, 1) := by decide +kernel
theorem dX7_bargain_18 : decode cX7_bargain 18 = .ok (.if_icmp .lt 10, 3) := by decide +kernel
theorem dX7_bargain_21 : decode cX7_bargain 21 = .ok (.iload_n 3, 1) := by decide +kernel
theorem dX7_bargain_22 : decode cX7_bargain 22 = .ok (.sipush 4095, 3) := by decide +kernel
theorem dX7_bargain_25 : decode cX7_bargain 25 = .ok (.if_icmp .le 5, 3) := by decide +kernel
theorem dX7_bargain_28 : decode cX7_bargain 28 = .ok (.iconst (-1), 1) := by decide +kernel
theorem dX7_bargain_29 : decode cX7_bargain 29 = .ok (.ireturn, 1) := by decide +kernel
theorem dX7_bargain_30 : decode cX7_bargain 30 = .ok (.aload_n 0, 1) := by decide +kernel
theorem dX7_bargain_31 : decode cX7_bargain 31 = .ok (.iload 4, 2) := by decide +kernel
theorem dX7_bargain_33 : decode cX7_bargain 33 = .ok (.invokevirtual 58, 3) := by decide +kernel
theorem dX7_bargain_36 : decode cX7_bargain 36 = .ok (.ifCond .eq 28, 3) := by decide +kernel
theorem dX7_bargain_39 : decode cX7_bargain 39 = .ok (.aload_n 0, 1) := by decide +kernel
theorem dX7_bargain_40 : decode cX7_bargain 40 = .ok (.getfield 19, 3) := by decide +kernel
theorem dX7_bargain_43 : decode cX7_bargain 43 = .ok (.getfield 86, 3) := by decide +kernel
theorem dX7_bargain_46 : decode cX7_bargain 46 = .ok (.bipush 24, 2) := by decide +kernel
theorem dX7_bargain_48 : decode cX7_bargain 48 = .ok (.if_icmp .ge 16, 3) := by decide +kernel
theorem dX7_bargain_51 : decode cX7_bargain 51 = .ok (.iload_n 1, 1) := by decide +kernel
theorem dX7_bargain_52 : decode cX7_bargain 52 = .ok (.iload 5, 2) := by decide +kernel
theorem dX7_bargain_54 : decode cX7_bargain 54 = .ok (.iload 6, 2) := by decide +kernel
theorem dX7_bargain_56 : decode cX7_bargain 56 = .ok (.iload 7, 2) := by decide +kernel
theorem dX7_bargain_58 : decode cX7_bargain 58 = .ok (.invokestatic 90, 3) := by decide +kernel
theorem dX7_bargain_61 : decode cX7_bargain 61 = .ok (.ifCond .ne 5, 3) := by decide +kernel
theorem dX7_bargain_64 : decode cX7_bargain 64 = .ok (.iconst (-1), 1) := by decide +kernel
theorem dX7_bargain_65 : decode cX7_bargain 65 = .ok (.ireturn, 1) := by decide +kernel
theorem dX7_bargain_66 : decode cX7_bargain 66 = .ok (.iload_n 1, 1) := by decide +kernel
theorem dX7_bargain_67 : decode cX7_bargain 67 = .ok (.invokestatic 94, 3) := by decide +kernel
theorem dX7_bargain_70 : decode cX7_bargain 70 = .ok (.ifCond .eq 19, 3) := by decide +kernel
theorem dX7_bargain_73 : decode cX7_bargain 73 = .ok (.iload 8, 2) := by decide +kernel
theorem dX7_bargain_75 : decode cX7_bargain 75 = .ok (.invokestatic 65, 3) := by decide +kernel
theorem dX7_bargain_78 : decode cX7_bargain 78 = .ok (.ifCond .eq 9, 3) := by decide +kernel
theorem dX7_bargain_81 : decode cX7_bargain 81 = .ok (.iload 8, 2) := by decide +kernel
theorem dX7_bargain_83 : decode cX7_bargain 83 = .ok (.iload_n 2, 1) := by decide +kernel
theorem dX7_bargain_84 : decode cX7_bargain 84 = .ok (.if_icmp .ne 5, 3) := by decide +kernel
theorem dX7_bargain_87 : decode cX7_bargain 87 = .ok (.iconst (-1), 1) := by decide +kernel
theorem dX7_bargain_88 : decode cX7_bargain 88 = .ok (.ireturn, 1) := by decide +kernel
theorem dX7_bargain_89 : decode cX7_bargain 89 = .ok (.aload_n 0, 1) := by decide +kernel
theorem dX7_bargain_90 : decode cX7_bargain 90 = .ok (.getfield 19, 3) := by decide +kernel
theorem dX7_bargain_93 : decode cX7_bargain 93 = .ok (.iload_n 1, 1) := by decide +kernel
theorem dX7_bargain_94 : decode cX7_bargain 94 = .ok (.iload_n 2, 1) := by decide +kernel
theorem dX7_bargain_95 : decode cX7_bargain 95 = .ok (.iload_n 3, 1) := by decide +kernel
theorem dX7_bargain_96 : decode cX7_bargain 96 = .ok (.iload 4, 2) := by decide +kernel
theorem dX7_bargain_98 : decode cX7_bargain 98 = .ok (.invokevirtual 97, 3) := by decide +kernel
theorem dX7_bargain_101 : decode cX7_bargain 101 = .ok (.istore 9, 2) := by decide +kernel
theorem dX7_bargain_103 : decode cX7_bargain 103 = .ok (.aload_n 0, 1) := by decide +kernel
theorem dX7_bargain_104 : decode cX7_bargain 104 = .ok (.getfield 19, 3) := by decide +kernel
theorem dX7_bargain_107 : decode cX7_bargain 107 = .ok (.iload 9, 2) := by decide +kernel
theorem dX7_bargain_109 : decode cX7_bargain 109 = .ok (.iload 5, 2) := by decide +kernel
theorem dX7_bargain_111 : decode cX7_bargain 111 = .ok (.iload 6, 2) := by decide +kernel
theorem dX7_bargain_113 : decode cX7_bargain 113 = .ok (.iload 7, 2) := by decide +kernel
theorem dX7_bargain_115 : decode cX7_bargain 115 = .ok (.iload 8, 2) := by decide +kernel
theorem dX7_bargain_117 : decode cX7_bargain 117 = .ok (.invokevirtual 101, 3) := by decide +kernel
theorem dX7_bargain_120 : decode cX7_bargain 120 = .ok (.iload 9, 2) := by decide +kernel
theorem dX7_bargain_122 : decode cX7_bargain 122 = .ok (.ireturn, 1) := by decide +kernel
set_option maxRecDepth 20000 in
theorem ggX7_report_X7_reportFits : GoodIn wsX7_report wsX7_reportFits := goodIn_r _ [8, 9, 10, 11, 12, 7, 13, 14, 15, 16, 17, 28, 29, 30, 31, 32, 33, 34, 51, 52, 53, 54] rfl (by decide +kernel)
set_option maxRecDepth 20000 in
theorem gX7_report_X7_reportFits : GoodIn wsX7_report (wsV RX7 108 RX7 yX7_reportFits wsX7_reportFits) := goodIn_app (goodIn_of _ (by decide +kernel)) ggX7_report_X7_reportFits
set_option maxRecDepth 20000 in
theorem ggX7_report_X4_put : GoodIn wsX7_report wsX4_put := goodIn_r _ [22, 23, 24, 25, 26, 27, 55, 56, 57, 58, 59, 60] rfl (by decide +kernel)
set_option maxRecDepth 20000 in
theorem gX7_report_X4_put : GoodIn wsX7_report (wsV RX7 112 RX4 yX4_put wsX4_put) := goodIn_app (goodIn_of _ (by decide +kernel)) ggX7_report_X4_put
theorem dX7_report_0 : decode cX7_report 0 = .ok (.aload_n 0, 1) := by decide +kernel
theorem dX7_report_1 : decode cX7_report 1 = .ok (.getfield 47, 3) := by decide +kernel
theorem dX7_report_4 : decode cX7_report 4 = .ok (.getfield 105, 3) := by decide +kernel
theorem dX7_report_7 : decode cX7_report 7 = .ok (.istore 6, 2) := by decide +kernel
theorem dX7_report_9 : decode cX7_report 9 = .ok (.iload 6, 2) := by decide +kernel
theorem dX7_report_11 : decode cX7_report 11 = .ok (.bipush 40, 2) := by decide +kernel
theorem dX7_report_13 : decode cX7_report 13 = .ok (.if_icmp .ge 17, 3) := by decide +kernel
theorem dX7_report_16 : decode cX7_report 16 = .ok (.aload_n 0, 1) := by decide +kernel
theorem dX7_report_17 : decode cX7_report 17 = .ok (.iload_n 1, 1) := by decide +kernel
theorem dX7_report_18 : decode cX7_report 18 = .ok (.iload_n 2, 1) := by decide +kernel
theorem dX7_report_19 : decode cX7_report 19 = .ok (.iload_n 3, 1) := by decide +kernel
theorem dX7_report_20 : decode cX7_report 20 = .ok (.iload 4, 2) := by decide +kernel
theorem dX7_report_22 : decode cX7_report 22 = .ok (.iload 5, 2) := by decide +kernel
theorem dX7_report_24 : decode cX7_report 24 = .ok (.invokevirtual 108, 3) := by decide +kernel
theorem dX7_report_27 : decode cX7_report 27 = .ok (.ifCond .ne 5, 3) := by decide +kernel
theorem dX7_report_30 : decode cX7_report 30 = .ok (.iconst 0, 1) := by decide +kernel
theorem dX7_report_31 : decode cX7_report 31 = .ok (.ireturn, 1) := by decide +kernel
theorem dX7_report_32 : decode cX7_report 32 = .ok (.aload_n 0, 1) := by decide +kernel
theorem dX7_report_33 : decode cX7_report 33 = .ok (.getfield 26, 3) := by decide +kernel
theorem dX7_report_36 : decode cX7_report 36 = .ok (.iload 6, 2) := by decide +kernel
theorem dX7_report_38 : decode cX7_report 38 = .ok (.iload_n 1, 1) := by decide +kernel
theorem dX7_report_39 : decode cX7_report 39 = .ok (.iload_n 2, 1) := by decide +kernel
theorem dX7_report_40 : decode cX7_report 40 = .ok (.iload_n 3, 1) := by decide +kernel
theorem dX7_report_41 : decode cX7_report 41 = .ok (.iload 4, 2) := by decide +kernel
theorem dX7_report_43 : decode cX7_report 43 = .ok (.iload 5, 2) := by decide +kernel
theorem dX7_report_45 : decode cX7_report 45 = .ok (.invokevirtual 112, 3) := by decide +kernel
theorem dX7_report_48 : decode cX7_report 48 = .ok (.iconst 1, 1) := by decide +kernel
theorem dX7_report_49 : decode cX7_report 49 = .ok (.ireturn, 1) := by decide +kernel
set_option maxRecDepth 20000 in
theorem ggX7_tear_X4_tearAt : GoodIn wsX7_tear wsX4_tearAt := goodIn_r _ [12, 13, 37, 38, 39, 40, 41, 42] rfl (by decide +kernel)
set_option maxRecDepth 20000 in
theorem gX7_tear_X4_tearAt : GoodIn wsX7_tear (wsV RX7 120 RX4 yX4_tearAt wsX4_tearAt) := goodIn_app (goodIn_of _ (by decide +kernel)) ggX7_tear_X4_tearAt
theorem dX7_tear_0 : decode cX7_tear 0 = .ok (.aload_n 0, 1) := by decide +kernel
theorem dX7_tear_1 : decode cX7_tear 1 = .ok (.getfield 47, 3) := by decide +kernel
theorem dX7_tear_4 : decode cX7_tear 4 = .ok (.getfield 105, 3) := by decide +kernel
theorem dX7_tear_7 : decode cX7_tear 7 = .ok (.istore_n 2, 1) := by decide +kernel
theorem dX7_tear_8 : decode cX7_tear 8 = .ok (.iload_n 2, 1) := by decide +kernel
theorem dX7_tear_9 : decode cX7_tear 9 = .ok (.bipush 40, 2) := by decide +kernel
theorem dX7_tear_11 : decode cX7_tear 11 = .ok (.if_icmp .ge 14, 3) := by decide +kernel
theorem dX7_tear_14 : decode cX7_tear 14 = .ok (.iload_n 1, 1) := by decide +kernel
theorem dX7_tear_15 : decode cX7_tear 15 = .ok (.iconst (-1), 1) := by decide +kernel
theorem dX7_tear_16 : decode cX7_tear 16 = .ok (.if_icmp .lt 9, 3) := by decide +kernel
theorem dX7_tear_19 : decode cX7_tear 19 = .ok (.iload_n 1, 1) := by decide +kernel
theorem dX7_tear_20 : decode cX7_tear 20 = .ok (.bipush 12, 2) := by decide +kernel
theorem dX7_tear_22 : decode cX7_tear 22 = .ok (.if_icmp .le 5, 3) := by decide +kernel
theorem dX7_tear_25 : decode cX7_tear 25 = .ok (.iconst 0, 1) := by decide +kernel
theorem dX7_tear_26 : decode cX7_tear 26 = .ok (.ireturn, 1) := by decide +kernel
theorem dX7_tear_27 : decode cX7_tear 27 = .ok (.aload_n 0, 1) := by decide +kernel
theorem dX7_tear_28 : decode cX7_tear 28 = .ok (.getfield 26, 3) := by decide +kernel
theorem dX7_tear_31 : decode cX7_tear 31 = .ok (.iload_n 2, 1) := by decide +kernel
theorem dX7_tear_32 : decode cX7_tear 32 = .ok (.iload_n 1, 1) := by decide +kernel
theorem dX7_tear_33 : decode cX7_tear 33 = .ok (.iconst 0, 1) := by decide +kernel
theorem dX7_tear_34 : decode cX7_tear 34 = .ok (.invokestatic 115, 3) := by decide +kernel
theorem dX7_tear_37 : decode cX7_tear 37 = .ok (.invokevirtual 120, 3) := by decide +kernel
theorem dX7_tear_40 : decode cX7_tear 40 = .ok (.iconst 1, 1) := by decide +kernel
theorem dX7_tear_41 : decode cX7_tear 41 = .ok (.ireturn, 1) := by decide +kernel
set_option maxRecDepth 20000 in
theorem ggX7_sent_X7_isHand : GoodIn wsX7_sent wsX7_isHand := goodIn_r _ [10] rfl (by decide +kernel)
set_option maxRecDepth 20000 in
theorem gX7_sent_X7_isHand : GoodIn wsX7_sent (va_wsS RX7 65 yX7_isHand wsX7_isHand) := goodIn_app (goodIn_of _ (by decide +kernel)) ggX7_sent_X7_isHand
set_option maxRecDepth 20000 in
theorem ggX7_sent_X7_isSum : GoodIn wsX7_sent wsX7_isSum := goodIn_r _ [13, 14] rfl (by decide +kernel)
set_option maxRecDepth 20000 in
theorem gX7_sent_X7_isSum : GoodIn wsX7_sent (va_wsS RX7 124 yX7_isSum wsX7_isSum) := goodIn_app (goodIn_of _ (by decide +kernel)) ggX7_sent_X7_isSum
set_option maxRecDepth 20000 in
theorem ggX7_sent_X5_add : GoodIn wsX7_sent wsX5_add := goodIn_r _ [19, 20, 21, 22, 23, 24, 188, 189, 190, 191, 192] rfl (by decide +kernel)
set_option maxRecDepth 20000 in
theorem gX7_sent_X5_add : GoodIn wsX7_sent (wsV RX7 130 RX5 yX5_add wsX5_add) := goodIn_app (goodIn_of _ (by decide +kernel)) ggX7_sent_X5_add
set_option maxRecDepth 20000 in
theorem ggX7_sent_X2_reckonTo : GoodIn wsX7_sent wsX2_reckonTo := goodIn_r _ [29, 30, 31, 32, 33, 34, 35, 36, 37, 28, 38, 39, 40, 41, 42, 43, 44, 45, 46, 47, 48, 49, 50, 51, 52, 53, 54, 55, 56, 57, 58, 59, 60, 61, 62, 63, 64, 65, 66, 67, 68, 69, 70, 71, 72, 73, 74, 75, 76, 77, 78, 79, 80, 81, 82, 83, 84, 85, 86, 87, 88, 89, 90, 91, 92, 93, 94, 95, 96, 97, 98, 99, 100, 101, 102, 103, 104, 105, 106, 107, 108, 109, 110, 111, 112, 113, 114, 115, 116, 117, 118, 119, 120, 121, 122, 123, 124, 125, 126, 127, 128, 129, 130, 131, 132, 133, 134, 135, 136, 137, 138, 9, 139, 140, 141, 142, 143, 144, 145, 146, 147, 148, 149, 150, 151, 152, 153, 154, 155, 156, 157, 158, 159, 160, 161, 162, 163, 164, 165, 166, 167, 168, 169, 170, 171, 172, 173, 174, 175, 176, 177, 178, 179, 180, 193, 194, 195, 196, 197, 198, 199, 200, 201, 202, 203, 204, 205, 206, 207, 208, 188, 189, 190, 191, 192, 209, 210, 211, 212, 213, 214, 215, 216, 217, 218, 219, 220, 221, 222, 223, 224, 225, 226, 227, 228, 229, 230, 231, 232, 233, 234] rfl (by decide +kernel)
set_option maxRecDepth 20000 in
theorem gX7_sent_X2_reckonTo : GoodIn wsX7_sent (wsV RX7 133 RX2 yX2_reckonTo wsX2_reckonTo) := goodIn_app (goodIn_of _ (by decide +kernel)) ggX7_sent_X2_reckonTo
theorem dX7_sent_0 : decode cX7_sent 0 = .ok (.iload_n 1, 1) := by decide +kernel
theorem dX7_sent_1 : decode cX7_sent 1 = .ok (.invokestatic 65, 3) := by decide +kernel
theorem dX7_sent_4 : decode cX7_sent 4 = .ok (.ifCond .eq 22, 3) := by decide +kernel
theorem dX7_sent_7 : decode cX7_sent 7 = .ok (.iload_n 2, 1) := by decide +kernel
theorem dX7_sent_8 : decode cX7_sent 8 = .ok (.invokestatic 124, 3) := by decide +kernel
theorem dX7_sent_11 : decode cX7_sent 11 = .ok (.ifCond .eq 15, 3) := by decide +kernel
theorem dX7_sent_14 : decode cX7_sent 14 = .ok (.aload_n 0, 1) := by decide +kernel
theorem dX7_sent_15 : decode cX7_sent 15 = .ok (.getfield 33, 3) := by decide +kernel
theorem dX7_sent_18 : decode cX7_sent 18 = .ok (.getfield 127, 3) := by decide +kernel
theorem dX7_sent_21 : decode cX7_sent 21 = .ok (.bipush 60, 2) := by decide +kernel
theorem dX7_sent_23 : decode cX7_sent 23 = .ok (.if_icmp .lt 7, 3) := by decide +kernel
theorem dX7_sent_26 : decode cX7_sent 26 = .ok (.ldc2_w 128, 3) := by decide +kernel
theorem dX7_sent_29 : decode cX7_sent 29 = .ok (.lreturn, 1) := by decide +kernel
theorem dX7_sent_30 : decode cX7_sent 30 = .ok (.aload_n 0, 1) := by decide +kernel
theorem dX7_sent_31 : decode cX7_sent 31 = .ok (.getfield 47, 3) := by decide +kernel
theorem dX7_sent_34 : decode cX7_sent 34 = .ok (.getfield 105, 3) := by decide +kernel
theorem dX7_sent_37 : decode cX7_sent 37 = .ok (.istore_n 3, 1) := by decide +kernel
theorem dX7_sent_38 : decode cX7_sent 38 = .ok (.aload_n 0, 1) := by decide +kernel
theorem dX7_sent_39 : decode cX7_sent 39 = .ok (.getfield 33, 3) := by decide +kernel
theorem dX7_sent_42 : decode cX7_sent 42 = .ok (.iload_n 1, 1) := by decide +kernel
theorem dX7_sent_43 : decode cX7_sent 43 = .ok (.iload_n 2, 1) := by decide +kernel
theorem dX7_sent_44 : decode cX7_sent 44 = .ok (.iload_n 3, 1) := by decide +kernel
theorem dX7_sent_45 : decode cX7_sent 45 = .ok (.invokevirtual 130, 3) := by decide +kernel
theorem dX7_sent_48 : decode cX7_sent 48 = .ok (.aload_n 0, 1) := by decide +kernel
theorem dX7_sent_49 : decode cX7_sent 49 = .ok (.getfield 47, 3) := by decide +kernel
theorem dX7_sent_52 : decode cX7_sent 52 = .ok (.iload_n 3, 1) := by decide +kernel
theorem dX7_sent_53 : decode cX7_sent 53 = .ok (.invokevirtual 133, 3) := by decide +kernel
theorem dX7_sent_56 : decode cX7_sent 56 = .ok (.aload_n 0, 1) := by decide +kernel
theorem dX7_sent_57 : decode cX7_sent 57 = .ok (.getfield 47, 3) := by decide +kernel
theorem dX7_sent_60 : decode cX7_sent 60 = .ok (.getfield 137, 3) := by decide +kernel
theorem dX7_sent_63 : decode cX7_sent 63 = .ok (.lreturn, 1) := by decide +kernel
set_option maxRecDepth 20000 in
theorem ggX7_close_X2_reckonTo : GoodIn wsX7_close wsX2_reckonTo := goodIn_r _ [7, 8, 9, 10, 11, 12, 13, 14, 15, 6, 16, 17, 18, 19, 20, 21, 22, 23, 24, 25, 26, 27, 28, 29, 30, 31, 32, 33, 34, 35, 36, 37, 38, 39, 40, 41, 42, 43, 44, 45, 46, 47, 48, 49, 50, 51, 52, 53, 54, 55, 56, 57, 58, 59, 60, 61, 62, 63, 64, 65, 66, 67, 68, 69, 70, 71, 72, 73, 74, 75, 76, 77, 78, 79, 80, 81, 82, 83, 84, 85, 86, 87, 88, 89, 90, 91, 92, 93, 94, 95, 96, 97, 98, 99, 100, 101, 102, 103, 104, 105, 106, 107, 108, 109, 110, 111, 112, 113, 114, 115, 116, 117, 118, 119, 120, 121, 122, 123, 124, 125, 126, 127, 128, 129, 130, 131, 132, 133, 134, 135, 136, 137, 138, 139, 140, 141, 142, 143, 144, 145, 146, 147, 148, 149, 150, 151, 152, 153, 154, 155, 156, 157, 158, 159, 167, 168, 169, 170, 171, 172, 173, 174, 175, 176, 177, 178, 179, 180, 181, 182, 183, 184, 185, 186, 187, 188, 189, 190, 191, 192, 193, 194, 195, 196, 197, 198, 199, 200, 201, 202, 203, 204, 205, 206, 207, 208, 209, 210, 211, 212, 213] rfl (by decide +kernel)
set_option maxRecDepth 20000 in
theorem gX7_close_X2_reckonTo : GoodIn wsX7_close (wsV RX7 133 RX2 yX2_reckonTo wsX2_reckonTo) := goodIn_app (goodIn_of _ (by decide +kernel)) ggX7_close_X2_reckonTo
theorem dX7_close_0 : decode cX7_close 0 = .ok (.aload_n 0, 1) := by decide +kernel
theorem dX7_close_1 : decode cX7_close 1 = .ok (.getfield 47, 3) := by decide +kernel
theorem dX7_close_4 : decode cX7_close 4 = .ok (.getfield 105, 3) := by decide +kernel
theorem dX7_close_7 : decode cX7_close 7 = .ok (.istore_n 1, 1) := by decide +kernel
theorem dX7_close_8 : decode cX7_close 8 = .ok (.iload_n 1, 1) := by decide +kernel
theorem dX7_close_9 : decode cX7_close 9 = .ok (.bipush 40, 2) := by decide +kernel
theorem dX7_close_11 : decode cX7_close 11 = .ok (.if_icmp .lt 5, 3) := by decide +kernel
theorem dX7_close_14 : decode cX7_close 14 = .ok (.iconst (-1), 1) := by decide +kernel
theorem dX7_close_15 : decode cX7_close 15 = .ok (.ireturn, 1) := by decide +kernel
theorem dX7_close_16 : decode cX7_close 16 = .ok (.aload_n 0, 1) := by decide +kernel
theorem dX7_close_17 : decode cX7_close 17 = .ok (.getfield 47, 3) := by decide +kernel
theorem dX7_close_20 : decode cX7_close 20 = .ok (.iload_n 1, 1) := by decide +kernel
theorem dX7_close_21 : decode cX7_close 21 = .ok (.iconst 1, 1) := by decide +kernel
theorem dX7_close_22 : decode cX7_close 22 = .ok (.iadd, 1) := by decide +kernel
theorem dX7_close_23 : decode cX7_close 23 = .ok (.invokevirtual 133, 3) := by decide +kernel
theorem dX7_close_26 : decode cX7_close 26 = .ok (.iload_n 1, 1) := by decide +kernel
theorem dX7_close_27 : decode cX7_close 27 = .ok (.ireturn, 1) := by decide +kernel
set_option maxRecDepth 20000 in
theorem ggX7_due_X7_isHand : GoodIn wsX7_due wsX7_isHand := goodIn_r _ [6] rfl (by decide +kernel)
set_option maxRecDepth 20000 in
theorem gX7_due_X7_isHand : GoodIn wsX7_due (va_wsS RX7 65 yX7_isHand wsX7_isHand) := goodIn_app (goodIn_of _ (by decide +kernel)) ggX7_due_X7_isHand
set_option maxRecDepth 20000 in
theorem ggX7_due_X7_isClosed : GoodIn wsX7_due wsX7_isClosed := goodIn_r _ [10, 1, 11, 12, 13, 14, 15, 16, 17, 18, 19, 20, 21, 22, 23, 24, 25, 26, 27, 28, 29, 30, 31, 32, 33, 34] rfl (by decide +kernel)
set_option maxRecDepth 20000 in
theorem gX7_due_X7_isClosed : GoodIn wsX7_due (wsV RX7 141 RX7 yX7_isClosed wsX7_isClosed) := goodIn_app (goodIn_of _ (by decide +kernel)) ggX7_due_X7_isClosed
theorem dX7_due_0 : decode cX7_due 0 = .ok (.iload_n 1, 1) := by decide +kernel
theorem dX7_due_1 : decode cX7_due 1 = .ok (.invokestatic 65, 3) := by decide +kernel
theorem dX7_due_4 : decode cX7_due 4 = .ok (.ifCond .eq 11, 3) := by decide +kernel
theorem dX7_due_7 : decode cX7_due 7 = .ok (.aload_n 0, 1) := by decide +kernel
theorem dX7_due_8 : decode cX7_due 8 = .ok (.iload_n 2, 1) := by decide +kernel
theorem dX7_due_9 : decode cX7_due 9 = .ok (.invokevirtual 141, 3) := by decide +kernel
theorem dX7_due_12 : decode cX7_due 12 = .ok (.ifCond .ne 5, 3) := by decide +kernel
theorem dX7_due_15 : decode cX7_due 15 = .ok (.iconst (-1), 1) := by decide +kernel
theorem dX7_due_16 : decode cX7_due 16 = .ok (.ireturn, 1) := by decide +kernel
theorem dX7_due_17 : decode cX7_due 17 = .ok (.aload_n 0, 1) := by decide +kernel
theorem dX7_due_18 : decode cX7_due 18 = .ok (.getfield 47, 3) := by decide +kernel
theorem dX7_due_21 : decode cX7_due 21 = .ok (.getfield 144, 3) := by decide +kernel
theorem dX7_due_24 : decode cX7_due 24 = .ok (.iload_n 1, 1) := by decide +kernel
theorem dX7_due_25 : decode cX7_due 25 = .ok (.bipush 40, 2) := by decide +kernel
theorem dX7_due_27 : decode cX7_due 27 = .ok (.imul, 1) := by decide +kernel
theorem dX7_due_28 : decode cX7_due 28 = .ok (.iload_n 2, 1) := by decide +kernel
theorem dX7_due_29 : decode cX7_due 29 = .ok (.iadd, 1) := by decide +kernel
theorem dX7_due_30 : decode cX7_due 30 = .ok (.iaload, 1) := by decide +kernel
theorem dX7_due_31 : decode cX7_due 31 = .ok (.ireturn, 1) := by decide +kernel
set_option maxRecDepth 20000 in
theorem ggX7_hand_X7_isHand : GoodIn wsX7_hand wsX7_isHand := goodIn_r _ [11] rfl (by decide +kernel)
set_option maxRecDepth 20000 in
theorem gX7_hand_X7_isHand : GoodIn wsX7_hand (va_wsS RX7 65 yX7_isHand wsX7_isHand) := goodIn_app (goodIn_of _ (by decide +kernel)) ggX7_hand_X7_isHand
set_option maxRecDepth 20000 in
theorem ggX7_hand_X2_allDues : GoodIn wsX7_hand wsX2_allDues := goodIn_r _ [16, 17, 18, 19, 20, 15, 21, 22, 188, 189, 190, 191, 192, 193, 194, 195, 196, 197, 198, 199, 200, 201, 202, 203] rfl (by decide +kernel)
set_option maxRecDepth 20000 in
theorem gX7_hand_X2_allDues : GoodIn wsX7_hand (wsV RX7 154 RX2 yX2_allDues wsX2_allDues) := goodIn_app (goodIn_of _ (by decide +kernel)) ggX7_hand_X2_allDues
set_option maxRecDepth 20000 in
theorem ggX7_hand_X2_reckonTo : GoodIn wsX7_hand wsX2_reckonTo := goodIn_r _ [26, 27, 28, 29, 30, 17, 31, 32, 33, 15, 34, 35, 36, 37, 38, 39, 40, 41, 42, 43, 44, 45, 46, 47, 48, 49, 50, 51, 52, 53, 54, 55, 56, 57, 58, 59, 60, 61, 62, 63, 64, 65, 66, 67, 68, 69, 70, 71, 72, 73, 74, 75, 76, 77, 78, 79, 80, 81, 82, 83, 84, 85, 86, 87, 88, 89, 90, 91, 92, 93, 94, 95, 96, 97, 98, 99, 100, 101, 102, 103, 104, 105, 106, 107, 108, 109, 110, 111, 112, 113, 114, 115, 116, 117, 118, 119, 120, 121, 122, 123, 124, 125, 126, 127, 128, 129, 130, 131, 132, 133, 134, 10, 135, 136, 137, 138, 139, 140, 141, 142, 143, 144, 145, 146, 147, 148, 149, 150, 151, 152, 153, 154, 155, 156, 157, 158, 159, 160, 161, 162, 163, 164, 165, 22, 166, 167, 168, 169, 170, 171, 18, 19, 20, 21, 188, 189, 190, 191, 192, 193, 194, 195, 196, 197, 198, 199, 200, 201, 202, 203, 204, 205, 206, 207, 208, 209, 210, 211, 212, 213, 214, 215, 216, 217, 218, 219, 220, 221, 222, 223, 224, 225, 226, 227, 228, 229, 230, 231, 232, 233, 234] rfl (by decide +kernel)
set_option maxRecDepth 20000 in
theorem gX7_hand_X2_reckonTo : GoodIn wsX7_hand (wsV RX7 133 RX2 yX2_reckonTo wsX2_reckonTo) := goodIn_app (goodIn_of _ (by decide +kernel)) ggX7_hand_X2_reckonTo
set_option maxRecDepth 20000 in
theorem ggX7_hand_X7_owedTo : GoodIn wsX7_hand wsX7_owedTo := goodIn_r _ [175, 6, 2, 176, 177, 178, 15, 179, 41, 122, 52, 180, 13, 14, 16, 17, 18, 19, 20, 21, 22, 181, 182, 183, 184, 185, 186, 187, 188, 189, 190, 191, 192, 193, 194, 195, 196, 197, 198, 199, 200, 201, 202, 203] rfl (by decide +kernel)
set_option maxRecDepth 20000 in
theorem gX7_hand_X7_owedTo : GoodIn wsX7_hand (wsV RX7 161 RX7 yX7_owedTo wsX7_owedTo) := goodIn_app (goodIn_of _ (by decide +kernel)) ggX7_hand_X7_owedTo
theorem dX7_hand_0 : decode cX7_hand 0 = .ok (.iload_n 1, 1) := by decide +kernel
theorem dX7_hand_1 : decode cX7_hand 1 = .ok (.invokestatic 65, 3) := by decide +kernel
theorem dX7_hand_4 : decode cX7_hand 4 = .ok (.ifCond .ne 7, 3) := by decide +kernel
theorem dX7_hand_7 : decode cX7_hand 7 = .ok (.ldc2_w 128, 3) := by decide +kernel
theorem dX7_hand_10 : decode cX7_hand 10 = .ok (.lreturn, 1) := by decide +kernel
theorem dX7_hand_11 : decode cX7_hand 11 = .ok (.iload_n 2, 1) := by decide +kernel
theorem dX7_hand_12 : decode cX7_hand 12 = .ok (.tableswitch 95 0 4 #[36, 46, 56, 65, 75], 36) := by decide +kernel
theorem dX7_hand_48 : decode cX7_hand 48 = .ok (.aload_n 0, 1) := by decide +kernel
theorem dX7_hand_49 : decode cX7_hand 49 = .ok (.getfield 47, 3) := by decide +kernel
theorem dX7_hand_52 : decode cX7_hand 52 = .ok (.getfield 147, 3) := by decide +kernel
theorem dX7_hand_55 : decode cX7_hand 55 = .ok (.iload_n 1, 1) := by decide +kernel
theorem dX7_hand_56 : decode cX7_hand 56 = .ok (.laload, 1) := by decide +kernel
theorem dX7_hand_57 : decode cX7_hand 57 = .ok (.lreturn, 1) := by decide +kernel
theorem dX7_hand_58 : decode cX7_hand 58 = .ok (.aload_n 0, 1) := by decide +kernel
theorem dX7_hand_59 : decode cX7_hand 59 = .ok (.getfield 47, 3) := by decide +kernel
theorem dX7_hand_62 : decode cX7_hand 62 = .ok (.getfield 151, 3) := by decide +kernel
theorem dX7_hand_65 : decode cX7_hand 65 = .ok (.iload_n 1, 1) := by decide +kernel
theorem dX7_hand_66 : decode cX7_hand 66 = .ok (.laload, 1) := by decide +kernel
theorem dX7_hand_67 : decode cX7_hand 67 = .ok (.lreturn, 1) := by decide +kernel
theorem dX7_hand_68 : decode cX7_hand 68 = .ok (.aload_n 0, 1) := by decide +kernel
theorem dX7_hand_69 : decode cX7_hand 69 = .ok (.getfield 47, 3) := by decide +kernel
theorem dX7_hand_72 : decode cX7_hand 72 = .ok (.iload_n 1, 1) := by decide +kernel
theorem dX7_hand_73 : decode cX7_hand 73 = .ok (.invokevirtual 154, 3) := by decide +kernel
theorem dX7_hand_76 : decode cX7_hand 76 = .ok (.lreturn, 1) := by decide +kernel
theorem dX7_hand_77 : decode cX7_hand 77 = .ok (.aload_n 0, 1) := by decide +kernel
theorem dX7_hand_78 : decode cX7_hand 78 = .ok (.getfield 47, 3) := by decide +kernel
theorem dX7_hand_81 : decode cX7_hand 81 = .ok (.getfield 158, 3) := by decide +kernel
theorem dX7_hand_84 : decode cX7_hand 84 = .ok (.iload_n 1, 1) := by decide +kernel
theorem dX7_hand_85 : decode cX7_hand 85 = .ok (.laload, 1) := by decide +kernel
theorem dX7_hand_86 : decode cX7_hand 86 = .ok (.lreturn, 1) := by decide +kernel
theorem dX7_hand_87 : decode cX7_hand 87 = .ok (.aload_n 0, 1) := by decide +kernel
theorem dX7_hand_88 : decode cX7_hand 88 = .ok (.getfield 51, 3) := by decide +kernel
theorem dX7_hand_91 : decode cX7_hand 91 = .ok (.aload_n 0, 1) := by decide +kernel
theorem dX7_hand_92 : decode cX7_hand 92 = .ok (.getfield 47, 3) := by decide +kernel
theorem dX7_hand_95 : decode cX7_hand 95 = .ok (.getfield 105, 3) := by decide +kernel
theorem dX7_hand_98 : decode cX7_hand 98 = .ok (.invokevirtual 133, 3) := by decide +kernel
theorem dX7_hand_101 : decode cX7_hand 101 = .ok (.aload_n 0, 1) := by decide +kernel
theorem dX7_hand_102 : decode cX7_hand 102 = .ok (.iload_n 1, 1) := by decide +kernel
theorem dX7_hand_103 : decode cX7_hand 103 = .ok (.invokevirtual 161, 3) := by decide +kernel
theorem dX7_hand_106 : decode cX7_hand 106 = .ok (.lreturn, 1) := by decide +kernel
theorem dX7_hand_107 : decode cX7_hand 107 = .ok (.ldc2_w 128, 3) := by decide +kernel
theorem dX7_hand_110 : decode cX7_hand 110 = .ok (.lreturn, 1) := by decide +kernel
set_option maxRecDepth 20000 in
theorem ggX7_has_X2_stillIn : GoodIn wsX7_has wsX2_stillIn := goodIn_r _ [12, 13, 14, 15, 16, 17, 18, 35, 36, 37, 38, 39, 40, 41, 42, 43, 44, 45, 46, 47, 48, 49, 50, 26, 27, 28, 29, 30, 31, 32, 33, 34] rfl (by decide +kernel)
set_option maxRecDepth 20000 in
theorem gX7_has_X2_stillIn : GoodIn wsX7_has (wsV RX7 170 RX2 yX2_stillIn wsX2_stillIn) := goodIn_app (goodIn_of _ (by decide +kernel)) ggX7_has_X2_stillIn
theorem dX7_has_0 : decode cX7_has 0 = .ok (.iload_n 1, 1) := by decide +kernel
theorem dX7_has_1 : decode cX7_has 1 = .ok (.ifCond .lt 14, 3) := by decide +kernel
theorem dX7_has_4 : decode cX7_has 4 = .ok (.iload_n 1, 1) := by decide +kernel
theorem dX7_has_5 : decode cX7_has 5 = .ok (.aload_n 0, 1) := by decide +kernel
theorem dX7_has_6 : decode cX7_has 6 = .ok (.getfield 19, 3) := by decide +kernel
theorem dX7_has_9 : decode cX7_has 9 = .ok (.getfield 86, 3) := by decide +kernel
theorem dX7_has_12 : decode cX7_has 12 = .ok (.if_icmp .lt 7, 3) := by decide +kernel
theorem dX7_has_15 : decode cX7_has 15 = .ok (.ldc2_w 128, 3) := by decide +kernel
theorem dX7_has_18 : decode cX7_has 18 = .ok (.lreturn, 1) := by decide +kernel
theorem dX7_has_19 : decode cX7_has 19 = .ok (.iload_n 2, 1) := by decide +kernel
theorem dX7_has_20 : decode cX7_has 20 = .ok (.ifCond .ne 13, 3) := by decide +kernel
theorem dX7_has_23 : decode cX7_has 23 = .ok (.aload_n 0, 1) := by decide +kernel
theorem dX7_has_24 : decode cX7_has 24 = .ok (.getfield 47, 3) := by decide +kernel
theorem dX7_has_27 : decode cX7_has 27 = .ok (.getfield 164, 3) := by decide +kernel
theorem dX7_has_30 : decode cX7_has 30 = .ok (.iload_n 1, 1) := by decide +kernel
theorem dX7_has_31 : decode cX7_has 31 = .ok (.laload, 1) := by decide +kernel
theorem dX7_has_32 : decode cX7_has 32 = .ok (.lreturn, 1) := by decide +kernel
theorem dX7_has_33 : decode cX7_has 33 = .ok (.iload_n 2, 1) := by decide +kernel
theorem dX7_has_34 : decode cX7_has 34 = .ok (.iconst 1, 1) := by decide +kernel
theorem dX7_has_35 : decode cX7_has 35 = .ok (.if_icmp .ne 13, 3) := by decide +kernel
theorem dX7_has_38 : decode cX7_has 38 = .ok (.aload_n 0, 1) := by decide +kernel
theorem dX7_has_39 : decode cX7_has 39 = .ok (.getfield 47, 3) := by decide +kernel
theorem dX7_has_42 : decode cX7_has 42 = .ok (.getfield 167, 3) := by decide +kernel
theorem dX7_has_45 : decode cX7_has 45 = .ok (.iload_n 1, 1) := by decide +kernel
theorem dX7_has_46 : decode cX7_has 46 = .ok (.laload, 1) := by decide +kernel
theorem dX7_has_47 : decode cX7_has 47 = .ok (.lreturn, 1) := by decide +kernel
theorem dX7_has_48 : decode cX7_has 48 = .ok (.iload_n 2, 1) := by decide +kernel
theorem dX7_has_49 : decode cX7_has 49 = .ok (.iconst 2, 1) := by decide +kernel
theorem dX7_has_50 : decode cX7_has 50 = .ok (.if_icmp .ne 12, 3) := by decide +kernel
theorem dX7_has_53 : decode cX7_has 53 = .ok (.aload_n 0, 1) := by decide +kernel
theorem dX7_has_54 : decode cX7_has 54 = .ok (.getfield 47, 3) := by decide +kernel
theorem dX7_has_57 : decode cX7_has 57 = .ok (.iload_n 1, 1) := by decide +kernel
theorem dX7_has_58 : decode cX7_has 58 = .ok (.invokevirtual 170, 3) := by decide +kernel
theorem dX7_has_61 : decode cX7_has 61 = .ok (.lreturn, 1) := by decide +kernel
theorem dX7_has_62 : decode cX7_has 62 = .ok (.iload_n 2, 1) := by decide +kernel
theorem dX7_has_63 : decode cX7_has 63 = .ok (.bipush 20, 2) := by decide +kernel
theorem dX7_has_65 : decode cX7_has 65 = .ok (.if_icmp .lt 27, 3) := by decide +kernel
theorem dX7_has_68 : decode cX7_has 68 = .ok (.iload_n 2, 1) := by decide +kernel
theorem dX7_has_69 : decode cX7_has 69 = .ok (.bipush 60, 2) := by decide +kernel
theorem dX7_has_71 : decode cX7_has 71 = .ok (.if_icmp .ge 21, 3) := by decide +kernel
theorem dX7_has_74 : decode cX7_has 74 = .ok (.aload_n 0, 1) := by decide +kernel
theorem dX7_has_75 : decode cX7_has 75 = .ok (.getfield 47, 3) := by decide +kernel
theorem dX7_has_78 : decode cX7_has 78 = .ok (.getfield 173, 3) := by decide +kernel
theorem dX7_has_81 : decode cX7_has 81 = .ok (.iload_n 1, 1) := by decide +kernel
theorem dX7_has_82 : decode cX7_has 82 = .ok (.bipush 40, 2) := by decide +kernel
theorem dX7_has_84 : decode cX7_has 84 = .ok (.imul, 1) := by decide +kernel
theorem dX7_has_85 : decode cX7_has 85 = .ok (.iload_n 2, 1) := by decide +kernel
theorem dX7_has_86 : decode cX7_has 86 = .ok (.iadd, 1) := by decide +kernel
theorem dX7_has_87 : decode cX7_has 87 = .ok (.bipush 20, 2) := by decide +kernel
theorem dX7_has_89 : decode cX7_has 89 = .ok (.isub, 1) := by decide +kernel
theorem dX7_has_90 : decode cX7_has 90 = .ok (.laload, 1) := by decide +kernel
theorem dX7_has_91 : decode cX7_has 91 = .ok (.lreturn, 1) := by decide +kernel
theorem dX7_has_92 : decode cX7_has 92 = .ok (.lconst 0, 1) := by decide +kernel
theorem dX7_has_93 : decode cX7_has 93 = .ok (.lreturn, 1) := by decide +kernel
set_option maxRecDepth 20000 in
theorem ggX7_told_X7_isClosed : GoodIn wsX7_told wsX7_isClosed := goodIn_r _ [6, 7, 8, 37, 38, 39, 40, 41, 42, 43, 44, 45, 46, 47, 48, 49, 50, 51, 52, 53, 54, 55, 56, 57, 58, 59] rfl (by decide +kernel)
set_option maxRecDepth 20000 in
theorem gX7_told_X7_isClosed : GoodIn wsX7_told (wsV RX7 141 RX7 yX7_isClosed wsX7_isClosed) := goodIn_app (goodIn_of _ (by decide +kernel)) ggX7_told_X7_isClosed
set_option maxRecDepth 20000 in
theorem ggX7_told_X7_isTheTerm : GoodIn wsX7_told wsX7_isTheTerm := goodIn_r _ [12, 7, 8, 37, 38, 39, 40, 41, 42, 43, 44, 45, 46, 47, 48, 49, 50, 51, 52, 53, 54, 55, 56, 57, 58, 59] rfl (by decide +kernel)
set_option maxRecDepth 20000 in
theorem gX7_told_X7_isTheTerm : GoodIn wsX7_told (wsV RX7 176 RX7 yX7_isTheTerm wsX7_isTheTerm) := goodIn_app (goodIn_of _ (by decide +kernel)) ggX7_told_X7_isTheTerm
set_option maxRecDepth 20000 in
theorem ggX7_told_X7_isWork : GoodIn wsX7_told wsX7_isWork := goodIn_r _ [15] rfl (by decide +kernel)
set_option maxRecDepth 20000 in
theorem gX7_told_X7_isWork : GoodIn wsX7_told (va_wsS RX7 54 yX7_isWork wsX7_isWork) := goodIn_app (goodIn_of _ (by decide +kernel)) ggX7_told_X7_isWork
set_option maxRecDepth 20000 in
theorem ggX7_told_X4_coinsOf : GoodIn wsX7_told wsX4_coinsOf := goodIn_r _ [20, 21, 60, 61, 62, 63, 64, 65] rfl (by decide +kernel)
set_option maxRecDepth 20000 in
theorem gX7_told_X4_coinsOf : GoodIn wsX7_told (wsV RX7 179 RX4 yX4_coinsOf wsX4_coinsOf) := goodIn_app (goodIn_of _ (by decide +kernel)) ggX7_told_X4_coinsOf
set_option maxRecDepth 20000 in
theorem ggX7_told_X4_wayOf : GoodIn wsX7_told wsX4_wayOf := goodIn_r _ [25, 26, 60, 61, 62, 63, 64, 65] rfl (by decide +kernel)
set_option maxRecDepth 20000 in
theorem gX7_told_X4_wayOf : GoodIn wsX7_told (wsV RX7 183 RX4 yX4_wayOf wsX4_wayOf) := goodIn_app (goodIn_of _ (by decide +kernel)) ggX7_told_X4_wayOf
set_option maxRecDepth 20000 in
theorem ggX7_told_X4_isOpen : GoodIn wsX7_told wsX4_isOpen := goodIn_r _ [30, 31, 60, 61, 62, 63, 64, 65] rfl (by decide +kernel)
set_option maxRecDepth 20000 in
theorem gX7_told_X4_isOpen : GoodIn wsX7_told (wsV RX7 186 RX4 yX4_isOpen wsX4_isOpen) := goodIn_app (goodIn_of _ (by decide +kernel)) ggX7_told_X4_isOpen
set_option maxRecDepth 20000 in
theorem ggX7_told_X4_placeOf : GoodIn wsX7_told wsX4_placeOf := goodIn_r _ [35, 26, 36, 60, 61, 62, 63, 64, 65] rfl (by decide +kernel)
set_option maxRecDepth 20000 in
theorem gX7_told_X4_placeOf : GoodIn wsX7_told (wsV RX7 189 RX4 yX4_placeOf wsX4_placeOf) := goodIn_app (goodIn_of _ (by decide +kernel)) ggX7_told_X4_placeOf
theorem dX7_told_0 : decode cX7_told 0 = .ok (.aload_n 0, 1) := by decide +kernel
theorem dX7_told_1 : decode cX7_told 1 = .ok (.iload_n 1, 1) := by decide +kernel
theorem dX7_told_2 : decode cX7_told 2 = .ok (.invokevirtual 141, 3) := by decide +kernel
theorem dX7_told_5 : decode cX7_told 5 = .ok (.ifCond .ne 11, 3) := by decide +kernel
theorem dX7_told_8 : decode cX7_told 8 = .ok (.aload_n 0, 1) := by decide +kernel
theorem dX7_told_9 : decode cX7_told 9 = .ok (.iload_n 1, 1) := by decide +kernel
theorem dX7_told_10 : decode cX7_told 10 = .ok (.invokevirtual 176, 3) := by decide +kernel
theorem dX7_told_13 : decode cX7_told 13 = .ok (.ifCond .eq 7, 3) := by decide +kernel
theorem dX7_told_16 : decode cX7_told 16 = .ok (.iconst 1, 1) := by decide +kernel
theorem dX7_told_17 : decode cX7_told 17 = .ok (.goto 4, 3) := by decide +kernel
theorem dX7_told_20 : decode cX7_told 20 = .ok (.iconst 0, 1) := by decide +kernel
theorem dX7_told_21 : decode cX7_told 21 = .ok (.istore 4, 2) := by decide +kernel
theorem dX7_told_23 : decode cX7_told 23 = .ok (.iload 4, 2) := by decide +kernel
theorem dX7_told_25 : decode cX7_told 25 = .ok (.ifCond .eq 10, 3) := by decide +kernel
theorem dX7_told_28 : decode cX7_told 28 = .ok (.iload_n 2, 1) := by decide +kernel
theorem dX7_told_29 : decode cX7_told 29 = .ok (.invokestatic 54, 3) := by decide +kernel
theorem dX7_told_32 : decode cX7_told 32 = .ok (.ifCond .ne 5, 3) := by decide +kernel
theorem dX7_told_35 : decode cX7_told 35 = .ok (.iconst (-1), 1) := by decide +kernel
theorem dX7_told_36 : decode cX7_told 36 = .ok (.ireturn, 1) := by decide +kernel
theorem dX7_told_37 : decode cX7_told 37 = .ok (.iload_n 3, 1) := by decide +kernel
theorem dX7_told_38 : decode cX7_told 38 = .ok (.tableswitch 83 0 4 #[34, 34, 34, 45, 73], 34) := by decide +kernel
theorem dX7_told_72 : decode cX7_told 72 = .ok (.aload_n 0, 1) := by decide +kernel
theorem dX7_told_73 : decode cX7_told 73 = .ok (.getfield 26, 3) := by decide +kernel
theorem dX7_told_76 : decode cX7_told 76 = .ok (.iload_n 1, 1) := by decide +kernel
theorem dX7_told_77 : decode cX7_told 77 = .ok (.iload_n 2, 1) := by decide +kernel
theorem dX7_told_78 : decode cX7_told 78 = .ok (.iload_n 3, 1) := by decide +kernel
theorem dX7_told_79 : decode cX7_told 79 = .ok (.invokevirtual 179, 3) := by decide +kernel
theorem dX7_told_82 : decode cX7_told 82 = .ok (.ireturn, 1) := by decide +kernel
theorem dX7_told_83 : decode cX7_told 83 = .ok (.aload_n 0, 1) := by decide +kernel
theorem dX7_told_84 : decode cX7_told 84 = .ok (.getfield 26, 3) := by decide +kernel
theorem dX7_told_87 : decode cX7_told 87 = .ok (.iload_n 1, 1) := by decide +kernel
theorem dX7_told_88 : decode cX7_told 88 = .ok (.iload_n 2, 1) := by decide +kernel
theorem dX7_told_89 : decode cX7_told 89 = .ok (.invokevirtual 183, 3) := by decide +kernel
theorem dX7_told_92 : decode cX7_told 92 = .ok (.aload_n 0, 1) := by decide +kernel
theorem dX7_told_93 : decode cX7_told 93 = .ok (.getfield 26, 3) := by decide +kernel
theorem dX7_told_96 : decode cX7_told 96 = .ok (.iload_n 1, 1) := by decide +kernel
theorem dX7_told_97 : decode cX7_told 97 = .ok (.iload_n 2, 1) := by decide +kernel
theorem dX7_told_98 : decode cX7_told 98 = .ok (.invokevirtual 186, 3) := by decide +kernel
theorem dX7_told_101 : decode cX7_told 101 = .ok (.ifCond .eq 7, 3) := by decide +kernel
theorem dX7_told_104 : decode cX7_told 104 = .ok (.iconst 4, 1) := by decide +kernel
theorem dX7_told_105 : decode cX7_told 105 = .ok (.goto 4, 3) := by decide +kernel
theorem dX7_told_108 : decode cX7_told 108 = .ok (.iconst 0, 1) := by decide +kernel
theorem dX7_told_109 : decode cX7_told 109 = .ok (.iadd, 1) := by decide +kernel
theorem dX7_told_110 : decode cX7_told 110 = .ok (.ireturn, 1) := by decide +kernel
theorem dX7_told_111 : decode cX7_told 111 = .ok (.aload_n 0, 1) := by decide +kernel
theorem dX7_told_112 : decode cX7_told 112 = .ok (.getfield 26, 3) := by decide +kernel
theorem dX7_told_115 : decode cX7_told 115 = .ok (.iload_n 1, 1) := by decide +kernel
theorem dX7_told_116 : decode cX7_told 116 = .ok (.iload_n 2, 1) := by decide +kernel
theorem dX7_told_117 : decode cX7_told 117 = .ok (.invokevirtual 189, 3) := by decide +kernel
theorem dX7_told_120 : decode cX7_told 120 = .ok (.ireturn, 1) := by decide +kernel
theorem dX7_told_121 : decode cX7_told 121 = .ok (.iconst (-1), 1) := by decide +kernel
theorem dX7_told_122 : decode cX7_told 122 = .ok (.ireturn, 1) := by decide +kernel
set_option maxRecDepth 20000 in
theorem ggX7_mend_X7_isClosed : GoodIn wsX7_mend wsX7_isClosed := goodIn_r _ [8, 9, 3, 60, 61, 62, 63, 64, 65, 66, 67, 68, 69, 70, 71, 72, 73, 74, 75, 76, 77, 78, 79, 80, 81, 82] rfl (by decide +kernel)
set_option maxRecDepth 20000 in
theorem gX7_mend_X7_isClosed : GoodIn wsX7_mend (wsV RX7 141 RX7 yX7_isClosed wsX7_isClosed) := goodIn_app (goodIn_of _ (by decide +kernel)) ggX7_mend_X7_isClosed
set_option maxRecDepth 20000 in
theorem ggX7_mend_X7_reportFits : GoodIn wsX7_mend wsX7_reportFits := goodIn_r _ [13, 14, 15, 16, 17, 7, 18, 19, 20, 21, 22, 60, 61, 62, 63, 64, 65, 66, 83, 84, 85, 86] rfl (by decide +kernel)
set_option maxRecDepth 20000 in
theorem gX7_mend_X7_reportFits : GoodIn wsX7_mend (wsV RX7 108 RX7 yX7_reportFits wsX7_reportFits) := goodIn_app (goodIn_of _ (by decide +kernel)) ggX7_mend_X7_reportFits
set_option maxRecDepth 20000 in
theorem ggX7_mend_X4_put : GoodIn wsX7_mend wsX4_put := goodIn_r _ [27, 28, 29, 30, 31, 32, 87, 88, 89, 90, 91, 92] rfl (by decide +kernel)
set_option maxRecDepth 20000 in
theorem gX7_mend_X4_put : GoodIn wsX7_mend (wsV RX7 112 RX4 yX4_put wsX4_put) := goodIn_app (goodIn_of _ (by decide +kernel)) ggX7_mend_X4_put
set_option maxRecDepth 20000 in
theorem ggX7_mend_X4_bringBack : GoodIn wsX7_mend wsX4_bringBack := goodIn_r _ [36, 37, 87, 88, 89, 90, 91, 92] rfl (by decide +kernel)
set_option maxRecDepth 20000 in
theorem gX7_mend_X4_bringBack : GoodIn wsX7_mend (wsV RX7 192 RX4 yX4_bringBack wsX4_bringBack) := goodIn_app (goodIn_of _ (by decide +kernel)) ggX7_mend_X4_bringBack
set_option maxRecDepth 20000 in
theorem ggX7_mend_X2_clear : GoodIn wsX7_mend wsX2_clear := goodIn_r _ [42, 43, 44, 45, 46, 47, 48, 49, 50, 51, 52, 53, 54, 55, 56, 57, 58, 59, 67, 68, 69, 70, 71, 72, 73, 74, 75, 76, 77, 78, 79, 80, 81, 82] rfl (by decide +kernel)
set_option maxRecDepth 20000 in
theorem gX7_mend_X2_clear : GoodIn wsX7_mend (wsV RX7 195 RX2 yX2_clear wsX2_clear) := goodIn_app (goodIn_of _ (by decide +kernel)) ggX7_mend_X2_clear
theorem dX7_mend_0 : decode cX7_mend 0 = .ok (.aload_n 0, 1) := by decide +kernel
theorem dX7_mend_1 : decode cX7_mend 1 = .ok (.iload_n 1, 1) := by decide +kernel
theorem dX7_mend_2 : decode cX7_mend 2 = .ok (.invokevirtual 141, 3) := by decide +kernel
theorem dX7_mend_5 : decode cX7_mend 5 = .ok (.ifCond .eq 18, 3) := by decide +kernel
theorem dX7_mend_8 : decode cX7_mend 8 = .ok (.aload_n 0, 1) := by decide +kernel
theorem dX7_mend_9 : decode cX7_mend 9 = .ok (.iload_n 2, 1) := by decide +kernel
theorem dX7_mend_10 : decode cX7_mend 10 = .ok (.iload_n 3, 1) := by decide +kernel
theorem dX7_mend_11 : decode cX7_mend 11 = .ok (.iload 4, 2) := by decide +kernel
theorem dX7_mend_13 : decode cX7_mend 13 = .ok (.iload 5, 2) := by decide +kernel
theorem dX7_mend_15 : decode cX7_mend 15 = .ok (.iload 6, 2) := by decide +kernel
theorem dX7_mend_17 : decode cX7_mend 17 = .ok (.invokevirtual 108, 3) := by decide +kernel
theorem dX7_mend_20 : decode cX7_mend 20 = .ok (.ifCond .ne 5, 3) := by decide +kernel
theorem dX7_mend_23 : decode cX7_mend 23 = .ok (.iconst 0, 1) := by decide +kernel
theorem dX7_mend_24 : decode cX7_mend 24 = .ok (.ireturn, 1) := by decide +kernel
theorem dX7_mend_25 : decode cX7_mend 25 = .ok (.aload_n 0, 1) := by decide +kernel
theorem dX7_mend_26 : decode cX7_mend 26 = .ok (.getfield 26, 3) := by decide +kernel
theorem dX7_mend_29 : decode cX7_mend 29 = .ok (.iload_n 1, 1) := by decide +kernel
theorem dX7_mend_30 : decode cX7_mend 30 = .ok (.iload_n 2, 1) := by decide +kernel
theorem dX7_mend_31 : decode cX7_mend 31 = .ok (.iload_n 3, 1) := by decide +kernel
theorem dX7_mend_32 : decode cX7_mend 32 = .ok (.iload 4, 2) := by decide +kernel
theorem dX7_mend_34 : decode cX7_mend 34 = .ok (.iload 5, 2) := by decide +kernel
theorem dX7_mend_36 : decode cX7_mend 36 = .ok (.iload 6, 2) := by decide +kernel
theorem dX7_mend_38 : decode cX7_mend 38 = .ok (.invokevirtual 112, 3) := by decide +kernel
theorem dX7_mend_41 : decode cX7_mend 41 = .ok (.aload_n 0, 1) := by decide +kernel
theorem dX7_mend_42 : decode cX7_mend 42 = .ok (.getfield 26, 3) := by decide +kernel
theorem dX7_mend_45 : decode cX7_mend 45 = .ok (.iload_n 1, 1) := by decide +kernel
theorem dX7_mend_46 : decode cX7_mend 46 = .ok (.iload_n 2, 1) := by decide +kernel
theorem dX7_mend_47 : decode cX7_mend 47 = .ok (.invokevirtual 192, 3) := by decide +kernel
theorem dX7_mend_50 : decode cX7_mend 50 = .ok (.iload_n 1, 1) := by decide +kernel
theorem dX7_mend_51 : decode cX7_mend 51 = .ok (.aload_n 0, 1) := by decide +kernel
theorem dX7_mend_52 : decode cX7_mend 52 = .ok (.getfield 51, 3) := by decide +kernel
theorem dX7_mend_55 : decode cX7_mend 55 = .ok (.getfield 105, 3) := by decide +kernel
theorem dX7_mend_58 : decode cX7_mend 58 = .ok (.if_icmp .ge 10, 3) := by decide +kernel
theorem dX7_mend_61 : decode cX7_mend 61 = .ok (.aload_n 0, 1) := by decide +kernel
theorem dX7_mend_62 : decode cX7_mend 62 = .ok (.getfield 51, 3) := by decide +kernel
theorem dX7_mend_65 : decode cX7_mend 65 = .ok (.invokevirtual 195, 3) := by decide +kernel
theorem dX7_mend_68 : decode cX7_mend 68 = .ok (.iconst 1, 1) := by decide +kernel
theorem dX7_mend_69 : decode cX7_mend 69 = .ok (.ireturn, 1) := by decide +kernel
set_option maxRecDepth 20000 in
theorem ggX7_owe_X2_reckonTo : GoodIn wsX7_owe wsX2_reckonTo := goodIn_r _ [8, 9, 10, 11, 12, 13, 14, 15, 16, 7, 17, 18, 19, 20, 21, 22, 23, 24, 25, 26, 27, 28, 29, 30, 31, 32, 33, 34, 35, 36, 37, 38, 39, 40, 41, 42, 43, 44, 45, 46, 47, 48, 49, 50, 51, 52, 53, 54, 55, 56, 57, 58, 59, 60, 61, 62, 63, 64, 65, 66, 67, 68, 69, 70, 71, 72, 73, 74, 75, 76, 77, 78, 79, 80, 81, 82, 83, 84, 85, 86, 87, 88, 89, 90, 91, 92, 93, 94, 95, 96, 97, 98, 99, 100, 101, 102, 103, 104, 105, 106, 107, 108, 109, 110, 111, 112, 113, 114, 115, 116, 117, 118, 119, 120, 121, 122, 123, 124, 125, 126, 127, 128, 129, 130, 131, 132, 133, 134, 135, 136, 137, 138, 139, 140, 141, 142, 143, 144, 145, 146, 147, 148, 149, 150, 151, 152, 153, 154, 155, 156, 157, 158, 159, 160, 180, 181, 182, 183, 184, 185, 186, 187, 188, 189, 190, 191, 192, 193, 194, 195, 196, 197, 198, 199, 200, 201, 202, 203, 204, 205, 206, 207, 208, 209, 210, 211, 212, 213, 214, 215, 216, 217, 218, 219, 220, 221, 222, 223, 224, 225, 226] rfl (by decide +kernel)
set_option maxRecDepth 20000 in
theorem gX7_owe_X2_reckonTo : GoodIn wsX7_owe (wsV RX7 133 RX2 yX2_reckonTo wsX2_reckonTo) := goodIn_app (goodIn_of _ (by decide +kernel)) ggX7_owe_X2_reckonTo
set_option maxRecDepth 20000 in
theorem ggX7_owe_X7_owedTo : GoodIn wsX7_owe wsX7_owedTo := goodIn_r _ [164, 1, 2, 165, 166, 167, 7, 168, 24, 105, 35, 169, 170, 171, 172, 13, 157, 158, 159, 160, 150, 173, 174, 175, 176, 177, 178, 179, 180, 181, 182, 183, 184, 185, 186, 187, 188, 189, 190, 191, 192, 193, 194, 195] rfl (by decide +kernel)
set_option maxRecDepth 20000 in
theorem gX7_owe_X7_owedTo : GoodIn wsX7_owe (wsV RX7 161 RX7 yX7_owedTo wsX7_owedTo) := goodIn_app (goodIn_of _ (by decide +kernel)) ggX7_owe_X7_owedTo
theorem dX7_owe_0 : decode cX7_owe 0 = .ok (.aload_n 0, 1) := by decide +kernel
theorem dX7_owe_1 : decode cX7_owe 1 = .ok (.getfield 51, 3) := by decide +kernel
theorem dX7_owe_4 : decode cX7_owe 4 = .ok (.aload_n 0, 1) := by decide +kernel
theorem dX7_owe_5 : decode cX7_owe 5 = .ok (.getfield 47, 3) := by decide +kernel
theorem dX7_owe_8 : decode cX7_owe 8 = .ok (.getfield 105, 3) := by decide +kernel
theorem dX7_owe_11 : decode cX7_owe 11 = .ok (.invokevirtual 133, 3) := by decide +kernel
theorem dX7_owe_14 : decode cX7_owe 14 = .ok (.lconst 0, 1) := by decide +kernel
theorem dX7_owe_15 : decode cX7_owe 15 = .ok (.lstore_n 1, 1) := by decide +kernel
theorem dX7_owe_16 : decode cX7_owe 16 = .ok (.iconst 0, 1) := by decide +kernel
theorem dX7_owe_17 : decode cX7_owe 17 = .ok (.istore_n 3, 1) := by decide +kernel
theorem dX7_owe_18 : decode cX7_owe 18 = .ok (.iload_n 3, 1) := by decide +kernel
theorem dX7_owe_19 : decode cX7_owe 19 = .ok (.bipush 12, 2) := by decide +kernel
theorem dX7_owe_21 : decode cX7_owe 21 = .ok (.if_icmp .ge 17, 3) := by decide +kernel
theorem dX7_owe_24 : decode cX7_owe 24 = .ok (.lload_n 1, 1) := by decide +kernel
theorem dX7_owe_25 : decode cX7_owe 25 = .ok (.aload_n 0, 1) := by decide +kernel
theorem dX7_owe_26 : decode cX7_owe 26 = .ok (.iload_n 3, 1) := by decide +kernel
theorem dX7_owe_27 : decode cX7_owe 27 = .ok (.invokevirtual 161, 3) := by decide +kernel
theorem dX7_owe_30 : decode cX7_owe 30 = .ok (.ladd, 1) := by decide +kernel
theorem dX7_owe_31 : decode cX7_owe 31 = .ok (.lstore_n 1, 1) := by decide +kernel
theorem dX7_owe_32 : decode cX7_owe 32 = .ok (.iinc 3 1, 3) := by decide +kernel
theorem dX7_owe_35 : decode cX7_owe 35 = .ok (.goto (-17), 3) := by decide +kernel
theorem dX7_owe_38 : decode cX7_owe 38 = .ok (.lload_n 1, 1) := by decide +kernel
theorem dX7_owe_39 : decode cX7_owe 39 = .ok (.lreturn, 1) := by decide +kernel
set_option maxRecDepth 20000 in
theorem ggX7_settle_X2_reckonTo : GoodIn wsX7_settle wsX2_reckonTo := goodIn_r _ [9, 10, 11, 12, 13, 14, 15, 16, 17, 8, 18, 19, 20, 21, 22, 23, 24, 25, 26, 27, 28, 29, 30, 31, 32, 33, 34, 35, 36, 37, 38, 39, 40, 41, 42, 43, 44, 45, 46, 47, 48, 49, 50, 51, 52, 53, 54, 55, 56, 57, 58, 59, 60, 61, 62, 63, 64, 65, 66, 67, 68, 69, 70, 71, 72, 73, 74, 75, 76, 77, 78, 79, 80, 81, 82, 83, 84, 85, 86, 87, 88, 89, 90, 91, 92, 93, 94, 95, 96, 97, 98, 99, 100, 101, 102, 103, 104, 105, 106, 107, 108, 109, 110, 111, 112, 113, 114, 115, 116, 117, 118, 119, 120, 121, 122, 123, 124, 125, 126, 127, 128, 129, 130, 131, 132, 133, 134, 135, 136, 137, 138, 139, 140, 141, 142, 143, 144, 145, 146, 147, 148, 149, 150, 151, 152, 153, 154, 155, 156, 157, 158, 159, 160, 161, 190, 191, 192, 193, 194, 195, 196, 197, 198, 199, 200, 201, 202, 203, 204, 205, 206, 207, 208, 209, 210, 211, 212, 213, 214, 215, 216, 217, 218, 219, 220, 221, 222, 223, 224, 225, 226, 227, 228, 229, 230, 231, 232, 233, 234, 235, 236] rfl (by decide +kernel)
set_option maxRecDepth 20000 in
theorem gX7_settle_X2_reckonTo : GoodIn wsX7_settle (wsV RX7 133 RX2 yX2_reckonTo wsX2_reckonTo) := goodIn_app (goodIn_of _ (by decide +kernel)) ggX7_settle_X2_reckonTo
set_option maxRecDepth 20000 in
theorem ggX7_settle_X7_owedTo : GoodIn wsX7_settle wsX7_owedTo := goodIn_r _ [165, 1, 2, 166, 167, 168, 8, 169, 25, 106, 36, 170, 171, 172, 173, 14, 158, 159, 160, 161, 151, 183, 184, 185, 186, 187, 188, 189, 190, 191, 192, 193, 194, 195, 196, 197, 198, 199, 200, 201, 202, 203, 204, 205] rfl (by decide +kernel)
set_option maxRecDepth 20000 in
theorem gX7_settle_X7_owedTo : GoodIn wsX7_settle (wsV RX7 161 RX7 yX7_owedTo wsX7_owedTo) := goodIn_app (goodIn_of _ (by decide +kernel)) ggX7_settle_X7_owedTo
set_option maxRecDepth 20000 in
theorem ggX7_settle_X2_becomeLike : GoodIn wsX7_settle wsX2_becomeLike := goodIn_r _ [177, 106, 36, 157, 104, 178, 179, 180, 181, 103, 32, 73, 182, 167, 168, 8, 169, 25, 170, 171, 172, 173, 14, 158, 159, 160, 161, 151, 190, 191, 192, 193, 194, 195, 196, 197, 198, 199, 200, 201, 202, 203, 204, 205] rfl (by decide +kernel)
set_option maxRecDepth 20000 in
theorem gX7_settle_X2_becomeLike : GoodIn wsX7_settle (wsV RX7 198 RX2 yX2_becomeLike wsX2_becomeLike) := goodIn_app (goodIn_of _ (by decide +kernel)) ggX7_settle_X2_becomeLike
theorem dX7_settle_0 : decode cX7_settle 0 = .ok (.aload_n 0, 1) := by decide +kernel
theorem dX7_settle_1 : decode cX7_settle 1 = .ok (.getfield 51, 3) := by decide +kernel
theorem dX7_settle_4 : decode cX7_settle 4 = .ok (.aload_n 0, 1) := by decide +kernel
theorem dX7_settle_5 : decode cX7_settle 5 = .ok (.getfield 47, 3) := by decide +kernel
theorem dX7_settle_8 : decode cX7_settle 8 = .ok (.getfield 105, 3) := by decide +kernel
theorem dX7_settle_11 : decode cX7_settle 11 = .ok (.invokevirtual 133, 3) := by decide +kernel
theorem dX7_settle_14 : decode cX7_settle 14 = .ok (.iconst 0, 1) := by decide +kernel
theorem dX7_settle_15 : decode cX7_settle 15 = .ok (.istore_n 1, 1) := by decide +kernel
theorem dX7_settle_16 : decode cX7_settle 16 = .ok (.iconst 0, 1) := by decide +kernel
theorem dX7_settle_17 : decode cX7_settle 17 = .ok (.istore_n 2, 1) := by decide +kernel
theorem dX7_settle_18 : decode cX7_settle 18 = .ok (.iload_n 2, 1) := by decide +kernel
theorem dX7_settle_19 : decode cX7_settle 19 = .ok (.bipush 12, 2) := by decide +kernel
theorem dX7_settle_21 : decode cX7_settle 21 = .ok (.if_icmp .ge 22, 3) := by decide +kernel
theorem dX7_settle_24 : decode cX7_settle 24 = .ok (.aload_n 0, 1) := by decide +kernel
theorem dX7_settle_25 : decode cX7_settle 25 = .ok (.iload_n 2, 1) := by decide +kernel
theorem dX7_settle_26 : decode cX7_settle 26 = .ok (.invokevirtual 161, 3) := by decide +kernel
theorem dX7_settle_29 : decode cX7_settle 29 = .ok (.lconst 0, 1) := by decide +kernel
theorem dX7_settle_30 : decode cX7_settle 30 = .ok (.lcmp, 1) := by decide +kernel
theorem dX7_settle_31 : decode cX7_settle 31 = .ok (.ifCond .eq 6, 3) := by decide +kernel
theorem dX7_settle_34 : decode cX7_settle 34 = .ok (.iinc 1 1, 3) := by decide +kernel
theorem dX7_settle_37 : decode cX7_settle 37 = .ok (.iinc 2 1, 3) := by decide +kernel
theorem dX7_settle_40 : decode cX7_settle 40 = .ok (.goto (-22), 3) := by decide +kernel
theorem dX7_settle_43 : decode cX7_settle 43 = .ok (.aload_n 0, 1) := by decide +kernel
theorem dX7_settle_44 : decode cX7_settle 44 = .ok (.getfield 47, 3) := by decide +kernel
theorem dX7_settle_47 : decode cX7_settle 47 = .ok (.aload_n 0, 1) := by decide +kernel
theorem dX7_settle_48 : decode cX7_settle 48 = .ok (.getfield 51, 3) := by decide +kernel
theorem dX7_settle_51 : decode cX7_settle 51 = .ok (.invokevirtual 198, 3) := by decide +kernel
theorem dX7_settle_54 : decode cX7_settle 54 = .ok (.aload_n 0, 1) := by decide +kernel
theorem dX7_settle_55 : decode cX7_settle 55 = .ok (.dup, 1) := by decide +kernel
theorem dX7_settle_56 : decode cX7_settle 56 = .ok (.getfield 202, 3) := by decide +kernel
theorem dX7_settle_59 : decode cX7_settle 59 = .ok (.iconst 1, 1) := by decide +kernel
theorem dX7_settle_60 : decode cX7_settle 60 = .ok (.iadd, 1) := by decide +kernel
theorem dX7_settle_61 : decode cX7_settle 61 = .ok (.putfield 202, 3) := by decide +kernel
theorem dX7_settle_64 : decode cX7_settle 64 = .ok (.iload_n 1, 1) := by decide +kernel
theorem dX7_settle_65 : decode cX7_settle 65 = .ok (.ireturn, 1) := by decide +kernel
set_option maxRecDepth 20000 in
theorem ggX7_line_X3_kept : GoodIn wsX7_line wsX3_kept := goodIn_r _ [13, 14, 15, 16, 17, 18, 19, 43, 44, 45, 46, 47, 48, 49] rfl (by decide +kernel)
set_option maxRecDepth 20000 in
theorem gX7_line_X3_kept : GoodIn wsX7_line (wsV RX7 209 RX3 yX3_kept wsX3_kept) := goodIn_app (goodIn_of _ (by decide +kernel)) ggX7_line_X3_kept
theorem dX7_line_0 : decode cX7_line 0 = .ok (.aload_n 0, 1) := by decide +kernel
theorem dX7_line_1 : decode cX7_line 1 = .ok (.getfield 47, 3) := by decide +kernel
theorem dX7_line_4 : decode cX7_line 4 = .ok (.getfield 205, 3) := by decide +kernel
theorem dX7_line_7 : decode cX7_line 7 = .ok (.astore_n 3, 1) := by decide +kernel
theorem dX7_line_8 : decode cX7_line 8 = .ok (.iload_n 1, 1) := by decide +kernel
theorem dX7_line_9 : decode cX7_line 9 = .ok (.ifCond .lt 11, 3) := by decide +kernel
theorem dX7_line_12 : decode cX7_line 12 = .ok (.iload_n 1, 1) := by decide +kernel
theorem dX7_line_13 : decode cX7_line 13 = .ok (.aload_n 3, 1) := by decide +kernel
theorem dX7_line_14 : decode cX7_line 14 = .ok (.invokevirtual 209, 3) := by decide +kernel
theorem dX7_line_17 : decode cX7_line 17 = .ok (.if_icmp .lt 7, 3) := by decide +kernel
theorem dX7_line_20 : decode cX7_line 20 = .ok (.ldc2_w 128, 3) := by decide +kernel
theorem dX7_line_23 : decode cX7_line 23 = .ok (.lreturn, 1) := by decide +kernel
theorem dX7_line_24 : decode cX7_line 24 = .ok (.iload_n 2, 1) := by decide +kernel
theorem dX7_line_25 : decode cX7_line 25 = .ok (.tableswitch 73 0 4 #[35, 43, 51, 59, 66], 35) := by decide +kernel
theorem dX7_line_60 : decode cX7_line 60 = .ok (.aload_n 3, 1) := by decide +kernel
theorem dX7_line_61 : decode cX7_line 61 = .ok (.getfield 214, 3) := by decide +kernel
theorem dX7_line_64 : decode cX7_line 64 = .ok (.iload_n 1, 1) := by decide +kernel
theorem dX7_line_65 : decode cX7_line 65 = .ok (.iaload, 1) := by decide +kernel
theorem dX7_line_66 : decode cX7_line 66 = .ok (.i2l, 1) := by decide +kernel
theorem dX7_line_67 : decode cX7_line 67 = .ok (.lreturn, 1) := by decide +kernel
theorem dX7_line_68 : decode cX7_line 68 = .ok (.aload_n 3, 1) := by decide +kernel
theorem dX7_line_69 : decode cX7_line 69 = .ok (.getfield 217, 3) := by decide +kernel
theorem dX7_line_72 : decode cX7_line 72 = .ok (.iload_n 1, 1) := by decide +kernel
theorem dX7_line_73 : decode cX7_line 73 = .ok (.iaload, 1) := by decide +kernel
theorem dX7_line_74 : decode cX7_line 74 = .ok (.i2l, 1) := by decide +kernel
theorem dX7_line_75 : decode cX7_line 75 = .ok (.lreturn, 1) := by decide +kernel
theorem dX7_line_76 : decode cX7_line 76 = .ok (.aload_n 3, 1) := by decide +kernel
theorem dX7_line_77 : decode cX7_line 77 = .ok (.getfield 220, 3) := by decide +kernel
theorem dX7_line_80 : decode cX7_line 80 = .ok (.iload_n 1, 1) := by decide +kernel
theorem dX7_line_81 : decode cX7_line 81 = .ok (.iaload, 1) := by decide +kernel
theorem dX7_line_82 : decode cX7_line 82 = .ok (.i2l, 1) := by decide +kernel
theorem dX7_line_83 : decode cX7_line 83 = .ok (.lreturn, 1) := by decide +kernel
theorem dX7_line_84 : decode cX7_line 84 = .ok (.aload_n 3, 1) := by decide +kernel
theorem dX7_line_85 : decode cX7_line 85 = .ok (.getfield 223, 3) := by decide +kernel
theorem dX7_line_88 : decode cX7_line 88 = .ok (.iload_n 1, 1) := by decide +kernel
theorem dX7_line_89 : decode cX7_line 89 = .ok (.laload, 1) := by decide +kernel
theorem dX7_line_90 : decode cX7_line 90 = .ok (.lreturn, 1) := by decide +kernel
theorem dX7_line_91 : decode cX7_line 91 = .ok (.aload_n 3, 1) := by decide +kernel
theorem dX7_line_92 : decode cX7_line 92 = .ok (.getfield 226, 3) := by decide +kernel
theorem dX7_line_95 : decode cX7_line 95 = .ok (.iload_n 1, 1) := by decide +kernel
theorem dX7_line_96 : decode cX7_line 96 = .ok (.laload, 1) := by decide +kernel
theorem dX7_line_97 : decode cX7_line 97 = .ok (.lreturn, 1) := by decide +kernel
theorem dX7_line_98 : decode cX7_line 98 = .ok (.ldc2_w 128, 3) := by decide +kernel
theorem dX7_line_101 : decode cX7_line 101 = .ok (.lreturn, 1) := by decide +kernel
set_option maxRecDepth 20000 in
theorem ggX7_count_X2_allFilled : GoodIn wsX7_count wsX2_allFilled := goodIn_r _ [18, 19, 40, 41, 42, 43, 44, 45, 46, 47, 48, 49, 50, 51, 52, 53, 54, 55] rfl (by decide +kernel)
set_option maxRecDepth 20000 in
theorem gX7_count_X2_allFilled : GoodIn wsX7_count (wsV RX7 233 RX2 yX2_allFilled wsX2_allFilled) := goodIn_app (goodIn_of _ (by decide +kernel)) ggX7_count_X2_allFilled
set_option maxRecDepth 20000 in
theorem ggX7_count_X4_tornAt : GoodIn wsX7_count wsX4_tornAt := goodIn_r _ [24, 25, 26, 27, 28, 29, 30, 31, 32, 77, 78, 79, 80, 81, 82] rfl (by decide +kernel)
set_option maxRecDepth 20000 in
theorem gX7_count_X4_tornAt : GoodIn wsX7_count (wsV RX7 242 RX4 yX4_tornAt wsX4_tornAt) := goodIn_app (goodIn_of _ (by decide +kernel)) ggX7_count_X4_tornAt
theorem dX7_count_0 : decode cX7_count 0 = .ok (.iload_n 1, 1) := by decide +kernel
theorem dX7_count_1 : decode cX7_count 1 = .ok (.tableswitch 145 0 7 #[47, 56, 65, 77, 85, 93, 105, 139], 47) := by decide +kernel
theorem dX7_count_48 : decode cX7_count 48 = .ok (.aload_n 0, 1) := by decide +kernel
theorem dX7_count_49 : decode cX7_count 49 = .ok (.getfield 47, 3) := by decide +kernel
theorem dX7_count_52 : decode cX7_count 52 = .ok (.getfield 105, 3) := by decide +kernel
theorem dX7_count_55 : decode cX7_count 55 = .ok (.i2l, 1) := by decide +kernel
theorem dX7_count_56 : decode cX7_count 56 = .ok (.lreturn, 1) := by decide +kernel
theorem dX7_count_57 : decode cX7_count 57 = .ok (.aload_n 0, 1) := by decide +kernel
theorem dX7_count_58 : decode cX7_count 58 = .ok (.getfield 19, 3) := by decide +kernel
theorem dX7_count_61 : decode cX7_count 61 = .ok (.getfield 86, 3) := by decide +kernel
theorem dX7_count_64 : decode cX7_count 64 = .ok (.i2l, 1) := by decide +kernel
theorem dX7_count_65 : decode cX7_count 65 = .ok (.lreturn, 1) := by decide +kernel
theorem dX7_count_66 : decode cX7_count 66 = .ok (.aload_n 0, 1) := by decide +kernel
theorem dX7_count_67 : decode cX7_count 67 = .ok (.getfield 47, 3) := by decide +kernel
theorem dX7_count_70 : decode cX7_count 70 = .ok (.getfield 205, 3) := by decide +kernel
theorem dX7_count_73 : decode cX7_count 73 = .ok (.getfield 229, 3) := by decide +kernel
theorem dX7_count_76 : decode cX7_count 76 = .ok (.i2l, 1) := by decide +kernel
theorem dX7_count_77 : decode cX7_count 77 = .ok (.lreturn, 1) := by decide +kernel
theorem dX7_count_78 : decode cX7_count 78 = .ok (.aload_n 0, 1) := by decide +kernel
theorem dX7_count_79 : decode cX7_count 79 = .ok (.getfield 47, 3) := by decide +kernel
theorem dX7_count_82 : decode cX7_count 82 = .ok (.getfield 230, 3) := by decide +kernel
theorem dX7_count_85 : decode cX7_count 85 = .ok (.lreturn, 1) := by decide +kernel
theorem dX7_count_86 : decode cX7_count 86 = .ok (.aload_n 0, 1) := by decide +kernel
theorem dX7_count_87 : decode cX7_count 87 = .ok (.getfield 47, 3) := by decide +kernel
theorem dX7_count_90 : decode cX7_count 90 = .ok (.invokevirtual 233, 3) := by decide +kernel
theorem dX7_count_93 : decode cX7_count 93 = .ok (.lreturn, 1) := by decide +kernel
theorem dX7_count_94 : decode cX7_count 94 = .ok (.aload_n 0, 1) := by decide +kernel
theorem dX7_count_95 : decode cX7_count 95 = .ok (.getfield 33, 3) := by decide +kernel
theorem dX7_count_98 : decode cX7_count 98 = .ok (.getfield 237, 3) := by decide +kernel
theorem dX7_count_101 : decode cX7_count 101 = .ok (.ldc2_w 240, 3) := by decide +kernel
theorem dX7_count_104 : decode cX7_count 104 = .ok (.lmul, 1) := by decide +kernel
theorem dX7_count_105 : decode cX7_count 105 = .ok (.lreturn, 1) := by decide +kernel
theorem dX7_count_106 : decode cX7_count 106 = .ok (.aload_n 0, 1) := by decide +kernel
theorem dX7_count_107 : decode cX7_count 107 = .ok (.getfield 47, 3) := by decide +kernel
theorem dX7_count_110 : decode cX7_count 110 = .ok (.getfield 105, 3) := by decide +kernel
theorem dX7_count_113 : decode cX7_count 113 = .ok (.bipush 40, 2) := by decide +kernel
theorem dX7_count_115 : decode cX7_count 115 = .ok (.if_icmp .ge 21, 3) := by decide +kernel
theorem dX7_count_118 : decode cX7_count 118 = .ok (.aload_n 0, 1) := by decide +kernel
theorem dX7_count_119 : decode cX7_count 119 = .ok (.getfield 26, 3) := by decide +kernel
theorem dX7_count_122 : decode cX7_count 122 = .ok (.aload_n 0, 1) := by decide +kernel
theorem dX7_count_123 : decode cX7_count 123 = .ok (.getfield 47, 3) := by decide +kernel
theorem dX7_count_126 : decode cX7_count 126 = .ok (.getfield 105, 3) := by decide +kernel
theorem dX7_count_129 : decode cX7_count 129 = .ok (.invokevirtual 242, 3) := by decide +kernel
theorem dX7_count_132 : decode cX7_count 132 = .ok (.i2l, 1) := by decide +kernel
theorem dX7_count_133 : decode cX7_count 133 = .ok (.goto 6, 3) := by decide +kernel
theorem dX7_count_136 : decode cX7_count 136 = .ok (.ldc2_w 128, 3) := by decide +kernel
theorem dX7_count_139 : decode cX7_count 139 = .ok (.lreturn, 1) := by decide +kernel
theorem dX7_count_140 : decode cX7_count 140 = .ok (.aload_n 0, 1) := by decide +kernel
theorem dX7_count_141 : decode cX7_count 141 = .ok (.getfield 202, 3) := by decide +kernel
theorem dX7_count_144 : decode cX7_count 144 = .ok (.i2l, 1) := by decide +kernel
theorem dX7_count_145 : decode cX7_count 145 = .ok (.lreturn, 1) := by decide +kernel
theorem dX7_count_146 : decode cX7_count 146 = .ok (.ldc2_w 128, 3) := by decide +kernel
theorem dX7_count_149 : decode cX7_count 149 = .ok (.lreturn, 1) := by decide +kernel
set_option maxRecDepth 20000 in
theorem ggX7_owedTo_X2_worth : GoodIn wsX7_owedTo wsX2_worth := goodIn_r _ [7, 8, 9, 10, 11, 12, 13, 6, 14, 15, 16, 17, 18, 19, 20, 28, 29, 30, 31, 32, 33, 34, 35, 36, 37, 38, 39, 40, 41, 42, 43] rfl (by decide +kernel)
set_option maxRecDepth 20000 in
theorem gX7_owedTo_X2_worth : GoodIn wsX7_owedTo (wsV RX7 246 RX2 yX2_worth wsX2_worth) := goodIn_app (goodIn_of _ (by decide +kernel)) ggX7_owedTo_X2_worth
theorem dX7_owedTo_0 : decode cX7_owedTo 0 = .ok (.aload_n 0, 1) := by decide +kernel
theorem dX7_owedTo_1 : decode cX7_owedTo 1 = .ok (.getfield 51, 3) := by decide +kernel
theorem dX7_owedTo_4 : decode cX7_owedTo 4 = .ok (.iload_n 1, 1) := by decide +kernel
theorem dX7_owedTo_5 : decode cX7_owedTo 5 = .ok (.invokevirtual 246, 3) := by decide +kernel
theorem dX7_owedTo_8 : decode cX7_owedTo 8 = .ok (.aload_n 0, 1) := by decide +kernel
theorem dX7_owedTo_9 : decode cX7_owedTo 9 = .ok (.getfield 47, 3) := by decide +kernel
theorem dX7_owedTo_12 : decode cX7_owedTo 12 = .ok (.iload_n 1, 1) := by decide +kernel
theorem dX7_owedTo_13 : decode cX7_owedTo 13 = .ok (.invokevirtual 246, 3) := by decide +kernel
theorem dX7_owedTo_16 : decode cX7_owedTo 16 = .ok (.lsub, 1) := by decide +kernel
theorem dX7_owedTo_17 : decode cX7_owedTo 17 = .ok (.lreturn, 1) := by decide +kernel
theorem dX7_isClosed_0 : decode cX7_isClosed 0 = .ok (.iload_n 1, 1) := by decide +kernel
theorem dX7_isClosed_1 : decode cX7_isClosed 1 = .ok (.ifCond .lt 18, 3) := by decide +kernel
theorem dX7_isClosed_4 : decode cX7_isClosed 4 = .ok (.iload_n 1, 1) := by decide +kernel
theorem dX7_isClosed_5 : decode cX7_isClosed 5 = .ok (.aload_n 0, 1) := by decide +kernel
theorem dX7_isClosed_6 : decode cX7_isClosed 6 = .ok (.getfield 47, 3) := by decide +kernel
theorem dX7_isClosed_9 : decode cX7_isClosed 9 = .ok (.getfield 105, 3) := by decide +kernel
theorem dX7_isClosed_12 : decode cX7_isClosed 12 = .ok (.if_icmp .ge 7, 3) := by decide +kernel
theorem dX7_isClosed_15 : decode cX7_isClosed 15 = .ok (.iconst 1, 1) := by decide +kernel
theorem dX7_isClosed_16 : decode cX7_isClosed 16 = .ok (.goto 4, 3) := by decide +kernel
theorem dX7_isClosed_19 : decode cX7_isClosed 19 = .ok (.iconst 0, 1) := by decide +kernel
theorem dX7_isClosed_20 : decode cX7_isClosed 20 = .ok (.ireturn, 1) := by decide +kernel
theorem dX7_isTheTerm_0 : decode cX7_isTheTerm 0 = .ok (.iload_n 1, 1) := by decide +kernel
theorem dX7_isTheTerm_1 : decode cX7_isTheTerm 1 = .ok (.aload_n 0, 1) := by decide +kernel
theorem dX7_isTheTerm_2 : decode cX7_isTheTerm 2 = .ok (.getfield 47, 3) := by decide +kernel
theorem dX7_isTheTerm_5 : decode cX7_isTheTerm 5 = .ok (.getfield 105, 3) := by decide +kernel
theorem dX7_isTheTerm_8 : decode cX7_isTheTerm 8 = .ok (.if_icmp .ne 13, 3) := by decide +kernel
theorem dX7_isTheTerm_11 : decode cX7_isTheTerm 11 = .ok (.iload_n 1, 1) := by decide +kernel
theorem dX7_isTheTerm_12 : decode cX7_isTheTerm 12 = .ok (.bipush 40, 2) := by decide +kernel
theorem dX7_isTheTerm_14 : decode cX7_isTheTerm 14 = .ok (.if_icmp .ge 7, 3) := by decide +kernel
theorem dX7_isTheTerm_17 : decode cX7_isTheTerm 17 = .ok (.iconst 1, 1) := by decide +kernel
theorem dX7_isTheTerm_18 : decode cX7_isTheTerm 18 = .ok (.goto 4, 3) := by decide +kernel
theorem dX7_isTheTerm_21 : decode cX7_isTheTerm 21 = .ok (.iconst 0, 1) := by decide +kernel
theorem dX7_isTheTerm_22 : decode cX7_isTheTerm 22 = .ok (.ireturn, 1) := by decide +kernel
theorem dX7_isDayAhead_0 : decode cX7_isDayAhead 0 = .ok (.iload_n 1, 1) := by decide +kernel
theorem dX7_isDayAhead_1 : decode cX7_isDayAhead 1 = .ok (.aload_n 0, 1) := by decide +kernel
theorem dX7_isDayAhead_2 : decode cX7_isDayAhead 2 = .ok (.getfield 47, 3) := by decide +kernel
theorem dX7_isDayAhead_5 : decode cX7_isDayAhead 5 = .ok (.getfield 105, 3) := by decide +kernel
theorem dX7_isDayAhead_8 : decode cX7_isDayAhead 8 = .ok (.bipush 90, 2) := by decide +kernel
theorem dX7_isDayAhead_10 : decode cX7_isDayAhead 10 = .ok (.imul, 1) := by decide +kernel
theorem dX7_isDayAhead_11 : decode cX7_isDayAhead 11 = .ok (.if_icmp .lt 14, 3) := by decide +kernel
theorem dX7_isDayAhead_14 : decode cX7_isDayAhead 14 = .ok (.iload_n 1, 1) := by decide +kernel
theorem dX7_isDayAhead_15 : decode cX7_isDayAhead 15 = .ok (.sipush 3599, 3) := by decide +kernel
theorem dX7_isDayAhead_18 : decode cX7_isDayAhead 18 = .ok (.if_icmp .gt 7, 3) := by decide +kernel
theorem dX7_isDayAhead_21 : decode cX7_isDayAhead 21 = .ok (.iconst 1, 1) := by decide +kernel
theorem dX7_isDayAhead_22 : decode cX7_isDayAhead 22 = .ok (.goto 4, 3) := by decide +kernel
theorem dX7_isDayAhead_25 : decode cX7_isDayAhead 25 = .ok (.iconst 0, 1) := by decide +kernel
theorem dX7_isDayAhead_26 : decode cX7_isDayAhead 26 = .ok (.ireturn, 1) := by decide +kernel
set_option maxRecDepth 20000 in
theorem ggX7_reportFits_X7_isWork : GoodIn wsX7_reportFits wsX7_isWork := goodIn_r _ [6] rfl (by decide +kernel)
set_option maxRecDepth 20000 in
theorem gX7_reportFits_X7_isWork : GoodIn wsX7_reportFits (va_wsS RX7 54 yX7_isWork wsX7_isWork) := goodIn_app (goodIn_of _ (by decide +kernel)) ggX7_reportFits_X7_isWork
set_option maxRecDepth 20000 in
theorem ggX7_reportFits_X7_isTold : GoodIn wsX7_reportFits wsX7_isTold := goodIn_r _ [9, 10] rfl (by decide +kernel)
set_option maxRecDepth 20000 in
theorem gX7_reportFits_X7_isTold : GoodIn wsX7_reportFits (va_wsS RX7 249 yX7_isTold wsX7_isTold) := goodIn_app (goodIn_of _ (by decide +kernel)) ggX7_reportFits_X7_isTold
theorem dX7_reportFits_0 : decode cX7_reportFits 0 = .ok (.iload_n 1, 1) := by decide +kernel
theorem dX7_reportFits_1 : decode cX7_reportFits 1 = .ok (.invokestatic 54, 3) := by decide +kernel
theorem dX7_reportFits_4 : decode cX7_reportFits 4 = .ok (.ifCond .eq 22, 3) := by decide +kernel
theorem dX7_reportFits_7 : decode cX7_reportFits 7 = .ok (.aload_n 0, 1) := by decide +kernel
theorem dX7_reportFits_8 : decode cX7_reportFits 8 = .ok (.getfield 10, 3) := by decide +kernel
theorem dX7_reportFits_11 : decode cX7_reportFits 11 = .ok (.getfield 82, 3) := by decide +kernel
theorem dX7_reportFits_14 : decode cX7_reportFits 14 = .ok (.iload_n 1, 1) := by decide +kernel
theorem dX7_reportFits_15 : decode cX7_reportFits 15 = .ok (.iaload, 1) := by decide +kernel
theorem dX7_reportFits_16 : decode cX7_reportFits 16 = .ok (.ifCond .eq 10, 3) := by decide +kernel
theorem dX7_reportFits_19 : decode cX7_reportFits 19 = .ok (.iload_n 2, 1) := by decide +kernel
theorem dX7_reportFits_20 : decode cX7_reportFits 20 = .ok (.invokestatic 249, 3) := by decide +kernel
theorem dX7_reportFits_23 : decode cX7_reportFits 23 = .ok (.ifCond .ne 5, 3) := by decide +kernel
theorem dX7_reportFits_26 : decode cX7_reportFits 26 = .ok (.iconst 0, 1) := by decide +kernel
theorem dX7_reportFits_27 : decode cX7_reportFits 27 = .ok (.ireturn, 1) := by decide +kernel
theorem dX7_reportFits_28 : decode cX7_reportFits 28 = .ok (.iload 5, 2) := by decide +kernel
theorem dX7_reportFits_30 : decode cX7_reportFits 30 = .ok (.ifCond .eq 18, 3) := by decide +kernel
theorem dX7_reportFits_33 : decode cX7_reportFits 33 = .ok (.iload_n 3, 1) := by decide +kernel
theorem dX7_reportFits_34 : decode cX7_reportFits 34 = .ok (.invokestatic 249, 3) := by decide +kernel
theorem dX7_reportFits_37 : decode cX7_reportFits 37 = .ok (.ifCond .eq 15, 3) := by decide +kernel
theorem dX7_reportFits_40 : decode cX7_reportFits 40 = .ok (.iload 4, 2) := by decide +kernel
theorem dX7_reportFits_42 : decode cX7_reportFits 42 = .ok (.invokestatic 249, 3) := by decide +kernel
theorem dX7_reportFits_45 : decode cX7_reportFits 45 = .ok (.ifCond .eq 7, 3) := by decide +kernel
theorem dX7_reportFits_48 : decode cX7_reportFits 48 = .ok (.iconst 1, 1) := by decide +kernel
theorem dX7_reportFits_49 : decode cX7_reportFits 49 = .ok (.goto 4, 3) := by decide +kernel
theorem dX7_reportFits_52 : decode cX7_reportFits 52 = .ok (.iconst 0, 1) := by decide +kernel
theorem dX7_reportFits_53 : decode cX7_reportFits 53 = .ok (.ireturn, 1) := by decide +kernel
set_option maxRecDepth 20000 in
theorem ggX7_termsFit_X7_isPart : GoodIn wsX7_termsFit wsX7_isPart := goodIn_r _ [4] rfl (by decide +kernel)
set_option maxRecDepth 20000 in
theorem gX7_termsFit_X7_isPart : GoodIn wsX7_termsFit (va_wsS RX7 68 yX7_isPart wsX7_isPart) := goodIn_app (goodIn_of _ (by decide +kernel)) ggX7_termsFit_X7_isPart
set_option maxRecDepth 20000 in
theorem ggX7_termsFit_X7_isSum : GoodIn wsX7_termsFit wsX7_isSum := goodIn_r _ [7, 8] rfl (by decide +kernel)
set_option maxRecDepth 20000 in
theorem gX7_termsFit_X7_isSum : GoodIn wsX7_termsFit (va_wsS RX7 124 yX7_isSum wsX7_isSum) := goodIn_app (goodIn_of _ (by decide +kernel)) ggX7_termsFit_X7_isSum
theorem dX7_termsFit_0 : decode cX7_termsFit 0 = .ok (.iload_n 0, 1) := by decide +kernel
theorem dX7_termsFit_1 : decode cX7_termsFit 1 = .ok (.tableswitch 100 0 4 #[35, 40, 40, 45, 76], 35) := by decide +kernel
theorem dX7_termsFit_36 : decode cX7_termsFit 36 = .ok (.iload_n 1, 1) := by decide +kernel
theorem dX7_termsFit_37 : decode cX7_termsFit 37 = .ok (.invokestatic 68, 3) := by decide +kernel
theorem dX7_termsFit_40 : decode cX7_termsFit 40 = .ok (.ireturn, 1) := by decide +kernel
theorem dX7_termsFit_41 : decode cX7_termsFit 41 = .ok (.iload_n 1, 1) := by decide +kernel
theorem dX7_termsFit_42 : decode cX7_termsFit 42 = .ok (.invokestatic 124, 3) := by decide +kernel
theorem dX7_termsFit_45 : decode cX7_termsFit 45 = .ok (.ireturn, 1) := by decide +kernel
theorem dX7_termsFit_46 : decode cX7_termsFit 46 = .ok (.iload_n 1, 1) := by decide +kernel
theorem dX7_termsFit_47 : decode cX7_termsFit 47 = .ok (.invokestatic 68, 3) := by decide +kernel
theorem dX7_termsFit_50 : decode cX7_termsFit 50 = .ok (.ifCond .eq 25, 3) := by decide +kernel
theorem dX7_termsFit_53 : decode cX7_termsFit 53 = .ok (.iload_n 2, 1) := by decide +kernel
theorem dX7_termsFit_54 : decode cX7_termsFit 54 = .ok (.invokestatic 124, 3) := by decide +kernel
theorem dX7_termsFit_57 : decode cX7_termsFit 57 = .ok (.ifCond .eq 18, 3) := by decide +kernel
theorem dX7_termsFit_60 : decode cX7_termsFit 60 = .ok (.iload_n 3, 1) := by decide +kernel
theorem dX7_termsFit_61 : decode cX7_termsFit 61 = .ok (.ifCond .lt 14, 3) := by decide +kernel
theorem dX7_termsFit_64 : decode cX7_termsFit 64 = .ok (.iload_n 3, 1) := by decide +kernel
theorem dX7_termsFit_65 : decode cX7_termsFit 65 = .ok (.sipush 1000, 3) := by decide +kernel
theorem dX7_termsFit_68 : decode cX7_termsFit 68 = .ok (.if_icmp .gt 7, 3) := by decide +kernel
theorem dX7_termsFit_71 : decode cX7_termsFit 71 = .ok (.iconst 1, 1) := by decide +kernel
theorem dX7_termsFit_72 : decode cX7_termsFit 72 = .ok (.goto 4, 3) := by decide +kernel
theorem dX7_termsFit_75 : decode cX7_termsFit 75 = .ok (.iconst 0, 1) := by decide +kernel
theorem dX7_termsFit_76 : decode cX7_termsFit 76 = .ok (.ireturn, 1) := by decide +kernel
theorem dX7_termsFit_77 : decode cX7_termsFit 77 = .ok (.iload_n 1, 1) := by decide +kernel
theorem dX7_termsFit_78 : decode cX7_termsFit 78 = .ok (.invokestatic 68, 3) := by decide +kernel
theorem dX7_termsFit_81 : decode cX7_termsFit 81 = .ok (.ifCond .eq 18, 3) := by decide +kernel
theorem dX7_termsFit_84 : decode cX7_termsFit 84 = .ok (.iload_n 2, 1) := by decide +kernel
theorem dX7_termsFit_85 : decode cX7_termsFit 85 = .ok (.iconst 1, 1) := by decide +kernel
theorem dX7_termsFit_86 : decode cX7_termsFit 86 = .ok (.if_icmp .lt 13, 3) := by decide +kernel
theorem dX7_termsFit_89 : decode cX7_termsFit 89 = .ok (.iload_n 2, 1) := by decide +kernel
theorem dX7_termsFit_90 : decode cX7_termsFit 90 = .ok (.bipush 8, 2) := by decide +kernel
theorem dX7_termsFit_92 : decode cX7_termsFit 92 = .ok (.if_icmp .gt 7, 3) := by decide +kernel
theorem dX7_termsFit_95 : decode cX7_termsFit 95 = .ok (.iconst 1, 1) := by decide +kernel
theorem dX7_termsFit_96 : decode cX7_termsFit 96 = .ok (.goto 4, 3) := by decide +kernel
theorem dX7_termsFit_99 : decode cX7_termsFit 99 = .ok (.iconst 0, 1) := by decide +kernel
theorem dX7_termsFit_100 : decode cX7_termsFit 100 = .ok (.ireturn, 1) := by decide +kernel
theorem dX7_termsFit_101 : decode cX7_termsFit 101 = .ok (.iconst 0, 1) := by decide +kernel
theorem dX7_termsFit_102 : decode cX7_termsFit 102 = .ok (.ireturn, 1) := by decide +kernel
theorem dX7_passesOn_0 : decode cX7_passesOn 0 = .ok (.iload_n 0, 1) := by decide +kernel
theorem dX7_passesOn_1 : decode cX7_passesOn 1 = .ok (.ifCond .eq 8, 3) := by decide +kernel
theorem dX7_passesOn_4 : decode cX7_passesOn 4 = .ok (.iload_n 0, 1) := by decide +kernel
theorem dX7_passesOn_5 : decode cX7_passesOn 5 = .ok (.iconst 3, 1) := by decide +kernel
theorem dX7_passesOn_6 : decode cX7_passesOn 6 = .ok (.if_icmp .ne 7, 3) := by decide +kernel
theorem dX7_passesOn_9 : decode cX7_passesOn 9 = .ok (.iconst 1, 1) := by decide +kernel
theorem dX7_passesOn_10 : decode cX7_passesOn 10 = .ok (.goto 4, 3) := by decide +kernel
theorem dX7_passesOn_13 : decode cX7_passesOn 13 = .ok (.iconst 0, 1) := by decide +kernel
theorem dX7_passesOn_14 : decode cX7_passesOn 14 = .ok (.ireturn, 1) := by decide +kernel
theorem dX7_isHand_0 : decode cX7_isHand 0 = .ok (.iload_n 0, 1) := by decide +kernel
theorem dX7_isHand_1 : decode cX7_isHand 1 = .ok (.ifCond .lt 13, 3) := by decide +kernel
theorem dX7_isHand_4 : decode cX7_isHand 4 = .ok (.iload_n 0, 1) := by decide +kernel
theorem dX7_isHand_5 : decode cX7_isHand 5 = .ok (.bipush 12, 2) := by decide +kernel
theorem dX7_isHand_7 : decode cX7_isHand 7 = .ok (.if_icmp .ge 7, 3) := by decide +kernel
theorem dX7_isHand_10 : decode cX7_isHand 10 = .ok (.iconst 1, 1) := by decide +kernel
theorem dX7_isHand_11 : decode cX7_isHand 11 = .ok (.goto 4, 3) := by decide +kernel
theorem dX7_isHand_14 : decode cX7_isHand 14 = .ok (.iconst 0, 1) := by decide +kernel
theorem dX7_isHand_15 : decode cX7_isHand 15 = .ok (.ireturn, 1) := by decide +kernel
theorem dX7_isWork_0 : decode cX7_isWork 0 = .ok (.iload_n 0, 1) := by decide +kernel
theorem dX7_isWork_1 : decode cX7_isWork 1 = .ok (.ifCond .lt 13, 3) := by decide +kernel
theorem dX7_isWork_4 : decode cX7_isWork 4 = .ok (.iload_n 0, 1) := by decide +kernel
theorem dX7_isWork_5 : decode cX7_isWork 5 = .ok (.bipush 12, 2) := by decide +kernel
theorem dX7_isWork_7 : decode cX7_isWork 7 = .ok (.if_icmp .ge 7, 3) := by decide +kernel
theorem dX7_isWork_10 : decode cX7_isWork 10 = .ok (.iconst 1, 1) := by decide +kernel
theorem dX7_isWork_11 : decode cX7_isWork 11 = .ok (.goto 4, 3) := by decide +kernel
theorem dX7_isWork_14 : decode cX7_isWork 14 = .ok (.iconst 0, 1) := by decide +kernel
theorem dX7_isWork_15 : decode cX7_isWork 15 = .ok (.ireturn, 1) := by decide +kernel
theorem dX7_isPart_0 : decode cX7_isPart 0 = .ok (.iload_n 0, 1) := by decide +kernel
theorem dX7_isPart_1 : decode cX7_isPart 1 = .ok (.iconst 1, 1) := by decide +kernel
theorem dX7_isPart_2 : decode cX7_isPart 2 = .ok (.if_icmp .lt 14, 3) := by decide +kernel
theorem dX7_isPart_5 : decode cX7_isPart 5 = .ok (.iload_n 0, 1) := by decide +kernel
theorem dX7_isPart_6 : decode cX7_isPart 6 = .ok (.sipush 1000, 3) := by decide +kernel
theorem dX7_isPart_9 : decode cX7_isPart 9 = .ok (.if_icmp .gt 7, 3) := by decide +kernel
theorem dX7_isPart_12 : decode cX7_isPart 12 = .ok (.iconst 1, 1) := by decide +kernel
theorem dX7_isPart_13 : decode cX7_isPart 13 = .ok (.goto 4, 3) := by decide +kernel
theorem dX7_isPart_16 : decode cX7_isPart 16 = .ok (.iconst 0, 1) := by decide +kernel
theorem dX7_isPart_17 : decode cX7_isPart 17 = .ok (.ireturn, 1) := by decide +kernel
theorem dX7_isSum_0 : decode cX7_isSum 0 = .ok (.iload_n 0, 1) := by decide +kernel
theorem dX7_isSum_1 : decode cX7_isSum 1 = .ok (.iconst 1, 1) := by decide +kernel
theorem dX7_isSum_2 : decode cX7_isSum 2 = .ok (.if_icmp .lt 13, 3) := by decide +kernel
theorem dX7_isSum_5 : decode cX7_isSum 5 = .ok (.iload_n 0, 1) := by decide +kernel
theorem dX7_isSum_6 : decode cX7_isSum 6 = .ok (.ldc 252, 2) := by decide +kernel
theorem dX7_isSum_8 : decode cX7_isSum 8 = .ok (.if_icmp .gt 7, 3) := by decide +kernel
theorem dX7_isSum_11 : decode cX7_isSum 11 = .ok (.iconst 1, 1) := by decide +kernel
theorem dX7_isSum_12 : decode cX7_isSum 12 = .ok (.goto 4, 3) := by decide +kernel
theorem dX7_isSum_15 : decode cX7_isSum 15 = .ok (.iconst 0, 1) := by decide +kernel
theorem dX7_isSum_16 : decode cX7_isSum 16 = .ok (.ireturn, 1) := by decide +kernel
theorem dX7_isTold_0 : decode cX7_isTold 0 = .ok (.iload_n 0, 1) := by decide +kernel
theorem dX7_isTold_1 : decode cX7_isTold 1 = .ok (.ifCond .lt 13, 3) := by decide +kernel
theorem dX7_isTold_4 : decode cX7_isTold 4 = .ok (.iload_n 0, 1) := by decide +kernel
theorem dX7_isTold_5 : decode cX7_isTold 5 = .ok (.ldc 252, 2) := by decide +kernel
theorem dX7_isTold_7 : decode cX7_isTold 7 = .ok (.if_icmp .gt 7, 3) := by decide +kernel
theorem dX7_isTold_10 : decode cX7_isTold 10 = .ok (.iconst 1, 1) := by decide +kernel
theorem dX7_isTold_11 : decode cX7_isTold 11 = .ok (.goto 4, 3) := by decide +kernel
theorem dX7_isTold_14 : decode cX7_isTold 14 = .ok (.iconst 0, 1) := by decide +kernel
theorem dX7_isTold_15 : decode cX7_isTold 15 = .ok (.ireturn, 1) := by decide +kernel
set_option maxRecDepth 20000 in
theorem ggX7_isSharer_X7_isHand : GoodIn wsX7_isSharer wsX7_isHand := goodIn_r _ [4] rfl (by decide +kernel)
set_option maxRecDepth 20000 in
theorem gX7_isSharer_X7_isHand : GoodIn wsX7_isSharer (va_wsS RX7 65 yX7_isHand wsX7_isHand) := goodIn_app (goodIn_of _ (by decide +kernel)) ggX7_isSharer_X7_isHand
set_option maxRecDepth 20000 in
theorem ggX7_isSharer_X7_isPart : GoodIn wsX7_isSharer wsX7_isPart := goodIn_r _ [7] rfl (by decide +kernel)
set_option maxRecDepth 20000 in
theorem gX7_isSharer_X7_isPart : GoodIn wsX7_isSharer (va_wsS RX7 68 yX7_isPart wsX7_isPart) := goodIn_app (goodIn_of _ (by decide +kernel)) ggX7_isSharer_X7_isPart
theorem dX7_isSharer_0 : decode cX7_isSharer 0 = .ok (.iload_n 0, 1) := by decide +kernel
theorem dX7_isSharer_1 : decode cX7_isSharer 1 = .ok (.iconst (-1), 1) := by decide +kernel
theorem dX7_isSharer_2 : decode cX7_isSharer 2 = .ok (.if_icmp .ne 15, 3) := by decide +kernel
theorem dX7_isSharer_5 : decode cX7_isSharer 5 = .ok (.iload_n 1, 1) := by decide +kernel
theorem dX7_isSharer_6 : decode cX7_isSharer 6 = .ok (.ifCond .ne 7, 3) := by decide +kernel
theorem dX7_isSharer_9 : decode cX7_isSharer 9 = .ok (.iconst 1, 1) := by decide +kernel
theorem dX7_isSharer_10 : decode cX7_isSharer 10 = .ok (.goto 26, 3) := by decide +kernel
theorem dX7_isSharer_13 : decode cX7_isSharer 13 = .ok (.iconst 0, 1) := by decide +kernel
theorem dX7_isSharer_14 : decode cX7_isSharer 14 = .ok (.goto 22, 3) := by decide +kernel
theorem dX7_isSharer_17 : decode cX7_isSharer 17 = .ok (.iload_n 0, 1) := by decide +kernel
theorem dX7_isSharer_18 : decode cX7_isSharer 18 = .ok (.invokestatic 65, 3) := by decide +kernel
theorem dX7_isSharer_21 : decode cX7_isSharer 21 = .ok (.ifCond .eq 14, 3) := by decide +kernel
theorem dX7_isSharer_24 : decode cX7_isSharer 24 = .ok (.iload_n 1, 1) := by decide +kernel
theorem dX7_isSharer_25 : decode cX7_isSharer 25 = .ok (.invokestatic 68, 3) := by decide +kernel
theorem dX7_isSharer_28 : decode cX7_isSharer 28 = .ok (.ifCond .eq 7, 3) := by decide +kernel
theorem dX7_isSharer_31 : decode cX7_isSharer 31 = .ok (.iconst 1, 1) := by decide +kernel
theorem dX7_isSharer_32 : decode cX7_isSharer 32 = .ok (.goto 4, 3) := by decide +kernel
theorem dX7_isSharer_35 : decode cX7_isSharer 35 = .ok (.iconst 0, 1) := by decide +kernel
theorem dX7_isSharer_36 : decode cX7_isSharer 36 = .ok (.ireturn, 1) := by decide +kernel
theorem dX8_init_0 : decode cX8_init 0 = .ok (.aload_n 0, 1) := by decide +kernel
theorem dX8_init_1 : decode cX8_init 1 = .ok (.invokespecial 1, 3) := by decide +kernel
theorem dX8_init_4 : decode cX8_init 4 = .ok (.aload_n 0, 1) := by decide +kernel
theorem dX8_init_5 : decode cX8_init 5 = .ok (.bipush 12, 2) := by decide +kernel
theorem dX8_init_7 : decode cX8_init 7 = .ok (.newarray .int, 2) := by decide +kernel
theorem dX8_init_9 : decode cX8_init 9 = .ok (.putfield 7, 3) := by decide +kernel
theorem dX8_init_12 : decode cX8_init 12 = .ok (.aload_n 0, 1) := by decide +kernel
theorem dX8_init_13 : decode cX8_init 13 = .ok (.bipush 72, 2) := by decide +kernel
theorem dX8_init_15 : decode cX8_init 15 = .ok (.newarray .int, 2) := by decide +kernel
theorem dX8_init_17 : decode cX8_init 17 = .ok (.putfield 13, 3) := by decide +kernel
theorem dX8_init_20 : decode cX8_init 20 = .ok (.aload_n 0, 1) := by decide +kernel
theorem dX8_init_21 : decode cX8_init 21 = .ok (.sipush 216, 3) := by decide +kernel
theorem dX8_init_24 : decode cX8_init 24 = .ok (.newarray .int, 2) := by decide +kernel
theorem dX8_init_26 : decode cX8_init 26 = .ok (.putfield 16, 3) := by decide +kernel
theorem dX8_init_29 : decode cX8_init 29 = .ok (.aload_n 0, 1) := by decide +kernel
theorem dX8_init_30 : decode cX8_init 30 = .ok (.sipush 216, 3) := by decide +kernel
theorem dX8_init_33 : decode cX8_init 33 = .ok (.newarray .int, 2) := by decide +kernel
theorem dX8_init_35 : decode cX8_init 35 = .ok (.putfield 19, 3) := by decide +kernel
theorem dX8_init_38 : decode cX8_init 38 = .ok (.aload_n 0, 1) := by decide +kernel
theorem dX8_init_39 : decode cX8_init 39 = .ok (.bipush 24, 2) := by decide +kernel
theorem dX8_init_41 : decode cX8_init 41 = .ok (.newarray .int, 2) := by decide +kernel
theorem dX8_init_43 : decode cX8_init 43 = .ok (.putfield 22, 3) := by decide +kernel
theorem dX8_init_46 : decode cX8_init 46 = .ok (.aload_n 0, 1) := by decide +kernel
theorem dX8_init_47 : decode cX8_init 47 = .ok (.bipush 24, 2) := by decide +kernel
theorem dX8_init_49 : decode cX8_init 49 = .ok (.newarray .int, 2) := by decide +kernel
theorem dX8_init_51 : decode cX8_init 51 = .ok (.putfield 25, 3) := by decide +kernel
theorem dX8_init_54 : decode cX8_init 54 = .ok (.aload_n 0, 1) := by decide +kernel
theorem dX8_init_55 : decode cX8_init 55 = .ok (.bipush 24, 2) := by decide +kernel
theorem dX8_init_57 : decode cX8_init 57 = .ok (.newarray .int, 2) := by decide +kernel
theorem dX8_init_59 : decode cX8_init 59 = .ok (.putfield 28, 3) := by decide +kernel
theorem dX8_init_62 : decode cX8_init 62 = .ok (.aload_n 0, 1) := by decide +kernel
theorem dX8_init_63 : decode cX8_init 63 = .ok (.bipush 24, 2) := by decide +kernel
theorem dX8_init_65 : decode cX8_init 65 = .ok (.newarray .int, 2) := by decide +kernel
theorem dX8_init_67 : decode cX8_init 67 = .ok (.putfield 31, 3) := by decide +kernel
theorem dX8_init_70 : decode cX8_init 70 = .ok (.aload_n 0, 1) := by decide +kernel
theorem dX8_init_71 : decode cX8_init 71 = .ok (.bipush 24, 2) := by decide +kernel
theorem dX8_init_73 : decode cX8_init 73 = .ok (.newarray .int, 2) := by decide +kernel
theorem dX8_init_75 : decode cX8_init 75 = .ok (.putfield 34, 3) := by decide +kernel
theorem dX8_init_78 : decode cX8_init 78 = .ok (.aload_n 0, 1) := by decide +kernel
theorem dX8_init_79 : decode cX8_init 79 = .ok (.bipush 24, 2) := by decide +kernel
theorem dX8_init_81 : decode cX8_init 81 = .ok (.newarray .int, 2) := by decide +kernel
theorem dX8_init_83 : decode cX8_init 83 = .ok (.putfield 37, 3) := by decide +kernel
theorem dX8_init_86 : decode cX8_init 86 = .ok (.aload_n 0, 1) := by decide +kernel
theorem dX8_init_87 : decode cX8_init 87 = .ok (.bipush 24, 2) := by decide +kernel
theorem dX8_init_89 : decode cX8_init 89 = .ok (.newarray .int, 2) := by decide +kernel
theorem dX8_init_91 : decode cX8_init 91 = .ok (.putfield 40, 3) := by decide +kernel
theorem dX8_init_94 : decode cX8_init 94 = .ok (.aload_n 0, 1) := by decide +kernel
theorem dX8_init_95 : decode cX8_init 95 = .ok (.bipush 24, 2) := by decide +kernel
theorem dX8_init_97 : decode cX8_init 97 = .ok (.newarray .int, 2) := by decide +kernel
theorem dX8_init_99 : decode cX8_init 99 = .ok (.putfield 43, 3) := by decide +kernel
theorem dX8_init_102 : decode cX8_init 102 = .ok (.aload_n 0, 1) := by decide +kernel
theorem dX8_init_103 : decode cX8_init 103 = .ok (.sipush 480, 3) := by decide +kernel
theorem dX8_init_106 : decode cX8_init 106 = .ok (.newarray .int, 2) := by decide +kernel
theorem dX8_init_108 : decode cX8_init 108 = .ok (.putfield 46, 3) := by decide +kernel
theorem dX8_init_111 : decode cX8_init 111 = .ok (.aload_n 0, 1) := by decide +kernel
theorem dX8_init_112 : decode cX8_init 112 = .ok (.sipush 480, 3) := by decide +kernel
theorem dX8_init_115 : decode cX8_init 115 = .ok (.newarray .int, 2) := by decide +kernel
theorem dX8_init_117 : decode cX8_init 117 = .ok (.putfield 49, 3) := by decide +kernel
theorem dX8_init_120 : decode cX8_init 120 = .ok (.aload_n 0, 1) := by decide +kernel
theorem dX8_init_121 : decode cX8_init 121 = .ok (.sipush 480, 3) := by decide +kernel
theorem dX8_init_124 : decode cX8_init 124 = .ok (.newarray .int, 2) := by decide +kernel
theorem dX8_init_126 : decode cX8_init 126 = .ok (.putfield 52, 3) := by decide +kernel
theorem dX8_init_129 : decode cX8_init 129 = .ok (.aload_n 0, 1) := by decide +kernel
theorem dX8_init_130 : decode cX8_init 130 = .ok (.sipush 480, 3) := by decide +kernel
theorem dX8_init_133 : decode cX8_init 133 = .ok (.newarray .int, 2) := by decide +kernel
theorem dX8_init_135 : decode cX8_init 135 = .ok (.putfield 55, 3) := by decide +kernel
theorem dX8_init_138 : decode cX8_init 138 = .ok (.aload_n 0, 1) := by decide +kernel
theorem dX8_init_139 : decode cX8_init 139 = .ok (.sipush 480, 3) := by decide +kernel
theorem dX8_init_142 : decode cX8_init 142 = .ok (.newarray .int, 2) := by decide +kernel
theorem dX8_init_144 : decode cX8_init 144 = .ok (.putfield 58, 3) := by decide +kernel
theorem dX8_init_147 : decode cX8_init 147 = .ok (.aload_n 0, 1) := by decide +kernel
theorem dX8_init_148 : decode cX8_init 148 = .ok (.bipush 40, 2) := by decide +kernel
theorem dX8_init_150 : decode cX8_init 150 = .ok (.newarray .int, 2) := by decide +kernel
theorem dX8_init_152 : decode cX8_init 152 = .ok (.putfield 61, 3) := by decide +kernel
theorem dX8_init_155 : decode cX8_init 155 = .ok (.aload_n 0, 1) := by decide +kernel
theorem dX8_init_156 : decode cX8_init 156 = .ok (.bipush 40, 2) := by decide +kernel
theorem dX8_init_158 : decode cX8_init 158 = .ok (.newarray .int, 2) := by decide +kernel
theorem dX8_init_160 : decode cX8_init 160 = .ok (.putfield 64, 3) := by decide +kernel
theorem dX8_init_163 : decode cX8_init 163 = .ok (.aload_n 0, 1) := by decide +kernel
theorem dX8_init_164 : decode cX8_init 164 = .ok (.sipush 480, 3) := by decide +kernel
theorem dX8_init_167 : decode cX8_init 167 = .ok (.newarray .boolean, 2) := by decide +kernel
theorem dX8_init_169 : decode cX8_init 169 = .ok (.putfield 67, 3) := by decide +kernel
theorem dX8_init_172 : decode cX8_init 172 = .ok (.aload_n 0, 1) := by decide +kernel
theorem dX8_init_173 : decode cX8_init 173 = .ok (.bipush 24, 2) := by decide +kernel
theorem dX8_init_175 : decode cX8_init 175 = .ok (.newarray .long, 2) := by decide +kernel
theorem dX8_init_177 : decode cX8_init 177 = .ok (.putfield 71, 3) := by decide +kernel
theorem dX8_init_180 : decode cX8_init 180 = .ok (.aload_n 0, 1) := by decide +kernel
theorem dX8_init_181 : decode cX8_init 181 = .ok (.bipush 24, 2) := by decide +kernel
theorem dX8_init_183 : decode cX8_init 183 = .ok (.newarray .long, 2) := by decide +kernel
theorem dX8_init_185 : decode cX8_init 185 = .ok (.putfield 75, 3) := by decide +kernel
theorem dX8_init_188 : decode cX8_init 188 = .ok (.aload_n 0, 1) := by decide +kernel
theorem dX8_init_189 : decode cX8_init 189 = .ok (.bipush 48, 2) := by decide +kernel
theorem dX8_init_191 : decode cX8_init 191 = .ok (.newarray .long, 2) := by decide +kernel
theorem dX8_init_193 : decode cX8_init 193 = .ok (.putfield 78, 3) := by decide +kernel
theorem dX8_init_196 : decode cX8_init 196 = .ok (.aload_n 0, 1) := by decide +kernel
theorem dX8_init_197 : decode cX8_init 197 = .ok (.bipush 48, 2) := by decide +kernel
theorem dX8_init_199 : decode cX8_init 199 = .ok (.newarray .long, 2) := by decide +kernel
theorem dX8_init_201 : decode cX8_init 201 = .ok (.putfield 81, 3) := by decide +kernel
theorem dX8_init_204 : decode cX8_init 204 = .ok (.aload_n 0, 1) := by decide +kernel
theorem dX8_init_205 : decode cX8_init 205 = .ok (.sipush 1920, 3) := by decide +kernel
theorem dX8_init_208 : decode cX8_init 208 = .ok (.newarray .long, 2) := by decide +kernel
theorem dX8_init_210 : decode cX8_init 210 = .ok (.putfield 84, 3) := by decide +kernel
theorem dX8_init_213 : decode cX8_init 213 = .ok (.aload_n 0, 1) := by decide +kernel
theorem dX8_init_214 : decode cX8_init 214 = .ok (.sipush 960, 3) := by decide +kernel
theorem dX8_init_217 : decode cX8_init 217 = .ok (.newarray .int, 2) := by decide +kernel
theorem dX8_init_219 : decode cX8_init 219 = .ok (.putfield 87, 3) := by decide +kernel
theorem dX8_init_222 : decode cX8_init 222 = .ok (.aload_n 0, 1) := by decide +kernel
theorem dX8_init_223 : decode cX8_init 223 = .ok (.bipush 24, 2) := by decide +kernel
theorem dX8_init_225 : decode cX8_init 225 = .ok (.newarray .int, 2) := by decide +kernel
theorem dX8_init_227 : decode cX8_init 227 = .ok (.putfield 90, 3) := by decide +kernel
theorem dX8_init_230 : decode cX8_init 230 = .ok (.aload_n 0, 1) := by decide +kernel
theorem dX8_init_231 : decode cX8_init 231 = .ok (.iconst 2, 1) := by decide +kernel
theorem dX8_init_232 : decode cX8_init 232 = .ok (.newarray .long, 2) := by decide +kernel
theorem dX8_init_234 : decode cX8_init 234 = .ok (.putfield 93, 3) := by decide +kernel
theorem dX8_init_237 : decode cX8_init 237 = .ok (.aload_n 0, 1) := by decide +kernel
theorem dX8_init_238 : decode cX8_init 238 = .ok (.iconst 3, 1) := by decide +kernel
theorem dX8_init_239 : decode cX8_init 239 = .ok (.newarray .int, 2) := by decide +kernel
theorem dX8_init_241 : decode cX8_init 241 = .ok (.putfield 96, 3) := by decide +kernel
theorem dX8_init_244 : decode cX8_init 244 = .ok (.aload_n 0, 1) := by decide +kernel
theorem dX8_init_245 : decode cX8_init 245 = .ok (.iconst 3, 1) := by decide +kernel
theorem dX8_init_246 : decode cX8_init 246 = .ok (.newarray .int, 2) := by decide +kernel
theorem dX8_init_248 : decode cX8_init 248 = .ok (.putfield 99, 3) := by decide +kernel
theorem dX8_init_251 : decode cX8_init 251 = .ok (.aload_n 0, 1) := by decide +kernel
theorem dX8_init_252 : decode cX8_init 252 = .ok (.iconst 3, 1) := by decide +kernel
theorem dX8_init_253 : decode cX8_init 253 = .ok (.newarray .int, 2) := by decide +kernel
theorem dX8_init_255 : decode cX8_init 255 = .ok (.putfield 102, 3) := by decide +kernel
theorem dX8_init_258 : decode cX8_init 258 = .ok (.aload_n 0, 1) := by decide +kernel
theorem dX8_init_259 : decode cX8_init 259 = .ok (.iconst 3, 1) := by decide +kernel
theorem dX8_init_260 : decode cX8_init 260 = .ok (.newarray .long, 2) := by decide +kernel
theorem dX8_init_262 : decode cX8_init 262 = .ok (.putfield 105, 3) := by decide +kernel
theorem dX8_init_265 : decode cX8_init 265 = .ok (.aload_n 0, 1) := by decide +kernel
theorem dX8_init_266 : decode cX8_init 266 = .ok (.sipush 600, 3) := by decide +kernel
theorem dX8_init_269 : decode cX8_init 269 = .ok (.newarray .int, 2) := by decide +kernel
theorem dX8_init_271 : decode cX8_init 271 = .ok (.putfield 108, 3) := by decide +kernel
theorem dX8_init_274 : decode cX8_init 274 = .ok (.aload_n 0, 1) := by decide +kernel
theorem dX8_init_275 : decode cX8_init 275 = .ok (.sipush 600, 3) := by decide +kernel
theorem dX8_init_278 : decode cX8_init 278 = .ok (.newarray .int, 2) := by decide +kernel
theorem dX8_init_280 : decode cX8_init 280 = .ok (.putfield 111, 3) := by decide +kernel
theorem dX8_init_283 : decode cX8_init 283 = .ok (.aload_n 0, 1) := by decide +kernel
theorem dX8_init_284 : decode cX8_init 284 = .ok (.sipush 600, 3) := by decide +kernel
theorem dX8_init_287 : decode cX8_init 287 = .ok (.newarray .int, 2) := by decide +kernel
theorem dX8_init_289 : decode cX8_init 289 = .ok (.putfield 114, 3) := by decide +kernel
theorem dX8_init_292 : decode cX8_init 292 = .ok (.aload_n 0, 1) := by decide +kernel
theorem dX8_init_293 : decode cX8_init 293 = .ok (.sipush 600, 3) := by decide +kernel
theorem dX8_init_296 : decode cX8_init 296 = .ok (.newarray .long, 2) := by decide +kernel
theorem dX8_init_298 : decode cX8_init 298 = .ok (.putfield 117, 3) := by decide +kernel
theorem dX8_init_301 : decode cX8_init 301 = .ok (.aload_n 0, 1) := by decide +kernel
theorem dX8_init_302 : decode cX8_init 302 = .ok (.sipush 600, 3) := by decide +kernel
theorem dX8_init_305 : decode cX8_init 305 = .ok (.newarray .long, 2) := by decide +kernel
theorem dX8_init_307 : decode cX8_init 307 = .ok (.putfield 120, 3) := by decide +kernel
theorem dX8_init_310 : decode cX8_init 310 = .ok (.aload_n 0, 1) := by decide +kernel
theorem dX8_init_311 : decode cX8_init 311 = .ok (.bipush 60, 2) := by decide +kernel
theorem dX8_init_313 : decode cX8_init 313 = .ok (.newarray .int, 2) := by decide +kernel
theorem dX8_init_315 : decode cX8_init 315 = .ok (.putfield 123, 3) := by decide +kernel
theorem dX8_init_318 : decode cX8_init 318 = .ok (.aload_n 0, 1) := by decide +kernel
theorem dX8_init_319 : decode cX8_init 319 = .ok (.bipush 60, 2) := by decide +kernel
theorem dX8_init_321 : decode cX8_init 321 = .ok (.newarray .int, 2) := by decide +kernel
theorem dX8_init_323 : decode cX8_init 323 = .ok (.putfield 126, 3) := by decide +kernel
theorem dX8_init_326 : decode cX8_init 326 = .ok (.aload_n 0, 1) := by decide +kernel
theorem dX8_init_327 : decode cX8_init 327 = .ok (.bipush 60, 2) := by decide +kernel
theorem dX8_init_329 : decode cX8_init 329 = .ok (.newarray .int, 2) := by decide +kernel
theorem dX8_init_331 : decode cX8_init 331 = .ok (.putfield 129, 3) := by decide +kernel
theorem dX8_init_334 : decode cX8_init 334 = .ok (.iconst 0, 1) := by decide +kernel
theorem dX8_init_335 : decode cX8_init 335 = .ok (.istore_n 1, 1) := by decide +kernel
theorem dX8_init_336 : decode cX8_init 336 = .ok (.iload_n 1, 1) := by decide +kernel
theorem dX8_init_337 : decode cX8_init 337 = .ok (.bipush 40, 2) := by decide +kernel
theorem dX8_init_339 : decode cX8_init 339 = .ok (.if_icmp .ge 17, 3) := by decide +kernel
theorem dX8_init_342 : decode cX8_init 342 = .ok (.aload_n 0, 1) := by decide +kernel
theorem dX8_init_343 : decode cX8_init 343 = .ok (.getfield 64, 3) := by decide +kernel
theorem dX8_init_346 : decode cX8_init 346 = .ok (.iload_n 1, 1) := by decide +kernel
theorem dX8_init_347 : decode cX8_init 347 = .ok (.bipush 12, 2) := by decide +kernel
theorem dX8_init_349 : decode cX8_init 349 = .ok (.iastore, 1) := by decide +kernel
theorem dX8_init_350 : decode cX8_init 350 = .ok (.iinc 1 1, 3) := by decide +kernel
theorem dX8_init_353 : decode cX8_init 353 = .ok (.goto (-17), 3) := by decide +kernel
theorem dX8_init_356 : decode cX8_init 356 = .ok (.return_, 1) := by decide +kernel
theorem dX8_isHand_0 : decode cX8_isHand 0 = .ok (.iload_n 0, 1) := by decide +kernel
theorem dX8_isHand_1 : decode cX8_isHand 1 = .ok (.ifCond .lt 13, 3) := by decide +kernel
theorem dX8_isHand_4 : decode cX8_isHand 4 = .ok (.iload_n 0, 1) := by decide +kernel
theorem dX8_isHand_5 : decode cX8_isHand 5 = .ok (.bipush 12, 2) := by decide +kernel
theorem dX8_isHand_7 : decode cX8_isHand 7 = .ok (.if_icmp .ge 7, 3) := by decide +kernel
theorem dX8_isHand_10 : decode cX8_isHand 10 = .ok (.iconst 1, 1) := by decide +kernel
theorem dX8_isHand_11 : decode cX8_isHand 11 = .ok (.goto 4, 3) := by decide +kernel
theorem dX8_isHand_14 : decode cX8_isHand 14 = .ok (.iconst 0, 1) := by decide +kernel
theorem dX8_isHand_15 : decode cX8_isHand 15 = .ok (.ireturn, 1) := by decide +kernel
theorem dX8_isWork_0 : decode cX8_isWork 0 = .ok (.iload_n 0, 1) := by decide +kernel
theorem dX8_isWork_1 : decode cX8_isWork 1 = .ok (.ifCond .lt 13, 3) := by decide +kernel
theorem dX8_isWork_4 : decode cX8_isWork 4 = .ok (.iload_n 0, 1) := by decide +kernel
theorem dX8_isWork_5 : decode cX8_isWork 5 = .ok (.bipush 12, 2) := by decide +kernel
theorem dX8_isWork_7 : decode cX8_isWork 7 = .ok (.if_icmp .ge 7, 3) := by decide +kernel
theorem dX8_isWork_10 : decode cX8_isWork 10 = .ok (.iconst 1, 1) := by decide +kernel
theorem dX8_isWork_11 : decode cX8_isWork 11 = .ok (.goto 4, 3) := by decide +kernel
theorem dX8_isWork_14 : decode cX8_isWork 14 = .ok (.iconst 0, 1) := by decide +kernel
theorem dX8_isWork_15 : decode cX8_isWork 15 = .ok (.ireturn, 1) := by decide +kernel
set_option maxRecDepth 20000 in
theorem ggX8_isPart_X8_isHand : GoodIn wsX8_isPart wsX8_isHand := goodIn_r _ [4] rfl (by decide +kernel)
set_option maxRecDepth 20000 in
theorem gX8_isPart_X8_isHand : GoodIn wsX8_isPart (va_wsS RX8 132 yX8_isHand wsX8_isHand) := goodIn_app (goodIn_of _ (by decide +kernel)) ggX8_isPart_X8_isHand
theorem dX8_isPart_0 : decode cX8_isPart 0 = .ok (.iload_n 0, 1) := by decide +kernel
theorem dX8_isPart_1 : decode cX8_isPart 1 = .ok (.iconst (-1), 1) := by decide +kernel
theorem dX8_isPart_2 : decode cX8_isPart 2 = .ok (.if_icmp .ne 15, 3) := by decide +kernel
theorem dX8_isPart_5 : decode cX8_isPart 5 = .ok (.iload_n 1, 1) := by decide +kernel
theorem dX8_isPart_6 : decode cX8_isPart 6 = .ok (.ifCond .ne 7, 3) := by decide +kernel
theorem dX8_isPart_9 : decode cX8_isPart 9 = .ok (.iconst 1, 1) := by decide +kernel
theorem dX8_isPart_10 : decode cX8_isPart 10 = .ok (.goto 31, 3) := by decide +kernel
theorem dX8_isPart_13 : decode cX8_isPart 13 = .ok (.iconst 0, 1) := by decide +kernel
theorem dX8_isPart_14 : decode cX8_isPart 14 = .ok (.goto 27, 3) := by decide +kernel
theorem dX8_isPart_17 : decode cX8_isPart 17 = .ok (.iload_n 0, 1) := by decide +kernel
theorem dX8_isPart_18 : decode cX8_isPart 18 = .ok (.invokestatic 132, 3) := by decide +kernel
theorem dX8_isPart_21 : decode cX8_isPart 21 = .ok (.ifCond .eq 19, 3) := by decide +kernel
theorem dX8_isPart_24 : decode cX8_isPart 24 = .ok (.iload_n 1, 1) := by decide +kernel
theorem dX8_isPart_25 : decode cX8_isPart 25 = .ok (.iconst 1, 1) := by decide +kernel
theorem dX8_isPart_26 : decode cX8_isPart 26 = .ok (.if_icmp .lt 14, 3) := by decide +kernel
theorem dX8_isPart_29 : decode cX8_isPart 29 = .ok (.iload_n 1, 1) := by decide +kernel
theorem dX8_isPart_30 : decode cX8_isPart 30 = .ok (.sipush 1000, 3) := by decide +kernel
theorem dX8_isPart_33 : decode cX8_isPart 33 = .ok (.if_icmp .gt 7, 3) := by decide +kernel
theorem dX8_isPart_36 : decode cX8_isPart 36 = .ok (.iconst 1, 1) := by decide +kernel
theorem dX8_isPart_37 : decode cX8_isPart 37 = .ok (.goto 4, 3) := by decide +kernel
theorem dX8_isPart_40 : decode cX8_isPart 40 = .ok (.iconst 0, 1) := by decide +kernel
theorem dX8_isPart_41 : decode cX8_isPart 41 = .ok (.ireturn, 1) := by decide +kernel
theorem dX8_isDay_0 : decode cX8_isDay 0 = .ok (.iload_n 1, 1) := by decide +kernel
theorem dX8_isDay_1 : decode cX8_isDay 1 = .ok (.bipush 90, 2) := by decide +kernel
theorem dX8_isDay_3 : decode cX8_isDay 3 = .ok (.aload_n 0, 1) := by decide +kernel
theorem dX8_isDay_4 : decode cX8_isDay 4 = .ok (.getfield 136, 3) := by decide +kernel
theorem dX8_isDay_7 : decode cX8_isDay 7 = .ok (.imul, 1) := by decide +kernel
theorem dX8_isDay_8 : decode cX8_isDay 8 = .ok (.if_icmp .lt 14, 3) := by decide +kernel
theorem dX8_isDay_11 : decode cX8_isDay 11 = .ok (.iload_n 1, 1) := by decide +kernel
theorem dX8_isDay_12 : decode cX8_isDay 12 = .ok (.sipush 3599, 3) := by decide +kernel
theorem dX8_isDay_15 : decode cX8_isDay 15 = .ok (.if_icmp .gt 7, 3) := by decide +kernel
theorem dX8_isDay_18 : decode cX8_isDay 18 = .ok (.iconst 1, 1) := by decide +kernel
theorem dX8_isDay_19 : decode cX8_isDay 19 = .ok (.goto 4, 3) := by decide +kernel
theorem dX8_isDay_22 : decode cX8_isDay 22 = .ok (.iconst 0, 1) := by decide +kernel
theorem dX8_isDay_23 : decode cX8_isDay 23 = .ok (.ireturn, 1) := by decide +kernel
set_option maxRecDepth 20000 in
theorem ggX8_share_X8_isWork : GoodIn wsX8_share wsX8_isWork := goodIn_r _ [8] rfl (by decide +kernel)
set_option maxRecDepth 20000 in
theorem gX8_share_X8_isWork : GoodIn wsX8_share (va_wsS RX8 140 yX8_isWork wsX8_isWork) := goodIn_app (goodIn_of _ (by decide +kernel)) ggX8_share_X8_isWork
set_option maxRecDepth 20000 in
theorem ggX8_share_X8_isHand : GoodIn wsX8_share wsX8_isHand := goodIn_r _ [11] rfl (by decide +kernel)
set_option maxRecDepth 20000 in
theorem gX8_share_X8_isHand : GoodIn wsX8_share (va_wsS RX8 132 yX8_isHand wsX8_isHand) := goodIn_app (goodIn_of _ (by decide +kernel)) ggX8_share_X8_isHand
set_option maxRecDepth 20000 in
theorem ggX8_share_X8_isPart : GoodIn wsX8_share wsX8_isPart := goodIn_r _ [14, 9, 10, 7, 11] rfl (by decide +kernel)
set_option maxRecDepth 20000 in
theorem gX8_share_X8_isPart : GoodIn wsX8_share (va_wsS RX8 143 yX8_isPart wsX8_isPart) := goodIn_app (goodIn_of _ (by decide +kernel)) ggX8_share_X8_isPart
set_option maxRecDepth 20000 in
theorem ggX8_share_X8_isDay : GoodIn wsX8_share wsX8_isDay := goodIn_r _ [18, 19, 20, 21, 22, 23, 24, 25, 26, 27, 28, 29, 30, 31, 32, 33, 34, 35, 36, 37, 38, 39, 40, 41, 42, 43, 44, 45, 46, 47, 48, 49, 50, 51, 52, 53, 54, 55, 56, 57, 58, 59, 60, 61, 62, 63, 64, 65, 66] rfl (by decide +kernel)
set_option maxRecDepth 20000 in
theorem gX8_share_X8_isDay : GoodIn wsX8_share (wsV RX8 147 RX8 yX8_isDay wsX8_isDay) := goodIn_app (goodIn_of _ (by decide +kernel)) ggX8_share_X8_isDay
theorem dX8_share_0 : decode cX8_share 0 = .ok (.iload_n 1, 1) := by decide +kernel
theorem dX8_share_1 : decode cX8_share 1 = .ok (.invokestatic 140, 3) := by decide +kernel
theorem dX8_share_4 : decode cX8_share 4 = .ok (.ifCond .eq 51, 3) := by decide +kernel
theorem dX8_share_7 : decode cX8_share 7 = .ok (.iload_n 3, 1) := by decide +kernel
theorem dX8_share_8 : decode cX8_share 8 = .ok (.invokestatic 132, 3) := by decide +kernel
theorem dX8_share_11 : decode cX8_share 11 = .ok (.ifCond .eq 44, 3) := by decide +kernel
theorem dX8_share_14 : decode cX8_share 14 = .ok (.iload_n 3, 1) := by decide +kernel
theorem dX8_share_15 : decode cX8_share 15 = .ok (.iload 4, 2) := by decide +kernel
theorem dX8_share_17 : decode cX8_share 17 = .ok (.invokestatic 143, 3) := by decide +kernel
theorem dX8_share_20 : decode cX8_share 20 = .ok (.ifCond .eq 35, 3) := by decide +kernel
theorem dX8_share_23 : decode cX8_share 23 = .ok (.iload 5, 2) := by decide +kernel
theorem dX8_share_25 : decode cX8_share 25 = .ok (.iload 6, 2) := by decide +kernel
theorem dX8_share_27 : decode cX8_share 27 = .ok (.invokestatic 143, 3) := by decide +kernel
theorem dX8_share_30 : decode cX8_share 30 = .ok (.ifCond .eq 25, 3) := by decide +kernel
theorem dX8_share_33 : decode cX8_share 33 = .ok (.iload 7, 2) := by decide +kernel
theorem dX8_share_35 : decode cX8_share 35 = .ok (.iload 8, 2) := by decide +kernel
theorem dX8_share_37 : decode cX8_share 37 = .ok (.invokestatic 143, 3) := by decide +kernel
theorem dX8_share_40 : decode cX8_share 40 = .ok (.ifCond .eq 15, 3) := by decide +kernel
theorem dX8_share_43 : decode cX8_share 43 = .ok (.iload 5, 2) := by decide +kernel
theorem dX8_share_45 : decode cX8_share 45 = .ok (.iconst (-1), 1) := by decide +kernel
theorem dX8_share_46 : decode cX8_share 46 = .ok (.if_icmp .ne 11, 3) := by decide +kernel
theorem dX8_share_49 : decode cX8_share 49 = .ok (.iload 7, 2) := by decide +kernel
theorem dX8_share_51 : decode cX8_share 51 = .ok (.iconst (-1), 1) := by decide +kernel
theorem dX8_share_52 : decode cX8_share 52 = .ok (.if_icmp .eq 5, 3) := by decide +kernel
theorem dX8_share_55 : decode cX8_share 55 = .ok (.iconst (-1), 1) := by decide +kernel
theorem dX8_share_56 : decode cX8_share 56 = .ok (.ireturn, 1) := by decide +kernel
theorem dX8_share_57 : decode cX8_share 57 = .ok (.iload_n 3, 1) := by decide +kernel
theorem dX8_share_58 : decode cX8_share 58 = .ok (.iload 5, 2) := by decide +kernel
theorem dX8_share_60 : decode cX8_share 60 = .ok (.if_icmp .eq 44, 3) := by decide +kernel
theorem dX8_share_63 : decode cX8_share 63 = .ok (.iload_n 3, 1) := by decide +kernel
theorem dX8_share_64 : decode cX8_share 64 = .ok (.iload 7, 2) := by decide +kernel
theorem dX8_share_66 : decode cX8_share 66 = .ok (.if_icmp .eq 38, 3) := by decide +kernel
theorem dX8_share_69 : decode cX8_share 69 = .ok (.iload 5, 2) := by decide +kernel
theorem dX8_share_71 : decode cX8_share 71 = .ok (.iload 7, 2) := by decide +kernel
theorem dX8_share_73 : decode cX8_share 73 = .ok (.if_icmp .ne 9, 3) := by decide +kernel
theorem dX8_share_76 : decode cX8_share 76 = .ok (.iload 5, 2) := by decide +kernel
theorem dX8_share_78 : decode cX8_share 78 = .ok (.iconst (-1), 1) := by decide +kernel
theorem dX8_share_79 : decode cX8_share 79 = .ok (.if_icmp .ne 25, 3) := by decide +kernel
theorem dX8_share_82 : decode cX8_share 82 = .ok (.iload 4, 2) := by decide +kernel
theorem dX8_share_84 : decode cX8_share 84 = .ok (.iload 6, 2) := by decide +kernel
theorem dX8_share_86 : decode cX8_share 86 = .ok (.iadd, 1) := by decide +kernel
theorem dX8_share_87 : decode cX8_share 87 = .ok (.iload 8, 2) := by decide +kernel
theorem dX8_share_89 : decode cX8_share 89 = .ok (.iadd, 1) := by decide +kernel
theorem dX8_share_90 : decode cX8_share 90 = .ok (.sipush 1000, 3) := by decide +kernel
theorem dX8_share_93 : decode cX8_share 93 = .ok (.if_icmp .ne 11, 3) := by decide +kernel
theorem dX8_share_96 : decode cX8_share 96 = .ok (.aload_n 0, 1) := by decide +kernel
theorem dX8_share_97 : decode cX8_share 97 = .ok (.iload_n 2, 1) := by decide +kernel
theorem dX8_share_98 : decode cX8_share 98 = .ok (.invokevirtual 147, 3) := by decide +kernel
theorem dX8_share_101 : decode cX8_share 101 = .ok (.ifCond .ne 5, 3) := by decide +kernel
theorem dX8_share_104 : decode cX8_share 104 = .ok (.iconst (-1), 1) := by decide +kernel
theorem dX8_share_105 : decode cX8_share 105 = .ok (.ireturn, 1) := by decide +kernel
theorem dX8_share_106 : decode cX8_share 106 = .ok (.aload_n 0, 1) := by decide +kernel
theorem dX8_share_107 : decode cX8_share 107 = .ok (.getfield 7, 3) := by decide +kernel
theorem dX8_share_110 : decode cX8_share 110 = .ok (.iload_n 1, 1) := by decide +kernel
theorem dX8_share_111 : decode cX8_share 111 = .ok (.iaload, 1) := by decide +kernel
theorem dX8_share_112 : decode cX8_share 112 = .ok (.istore 9, 2) := by decide +kernel
theorem dX8_share_114 : decode cX8_share 114 = .ok (.iload 9, 2) := by decide +kernel
theorem dX8_share_116 : decode cX8_share 116 = .ok (.bipush 6, 2) := by decide +kernel
theorem dX8_share_118 : decode cX8_share 118 = .ok (.if_icmp .eq 26, 3) := by decide +kernel
theorem dX8_share_121 : decode cX8_share 121 = .ok (.iload 9, 2) := by decide +kernel
theorem dX8_share_123 : decode cX8_share 123 = .ok (.ifCond .le 23, 3) := by decide +kernel
theorem dX8_share_126 : decode cX8_share 126 = .ok (.iload_n 2, 1) := by decide +kernel
theorem dX8_share_127 : decode cX8_share 127 = .ok (.aload_n 0, 1) := by decide +kernel
theorem dX8_share_128 : decode cX8_share 128 = .ok (.getfield 13, 3) := by decide +kernel
theorem dX8_share_131 : decode cX8_share 131 = .ok (.bipush 6, 2) := by decide +kernel
theorem dX8_share_133 : decode cX8_share 133 = .ok (.iload_n 1, 1) := by decide +kernel
theorem dX8_share_134 : decode cX8_share 134 = .ok (.imul, 1) := by decide +kernel
theorem dX8_share_135 : decode cX8_share 135 = .ok (.iload 9, 2) := by decide +kernel
theorem dX8_share_137 : decode cX8_share 137 = .ok (.iadd, 1) := by decide +kernel
theorem dX8_share_138 : decode cX8_share 138 = .ok (.iconst 1, 1) := by decide +kernel
theorem dX8_share_139 : decode cX8_share 139 = .ok (.isub, 1) := by decide +kernel
theorem dX8_share_140 : decode cX8_share 140 = .ok (.iaload, 1) := by decide +kernel
theorem dX8_share_141 : decode cX8_share 141 = .ok (.if_icmp .gt 5, 3) := by decide +kernel
theorem dX8_share_144 : decode cX8_share 144 = .ok (.iconst (-1), 1) := by decide +kernel
theorem dX8_share_145 : decode cX8_share 145 = .ok (.ireturn, 1) := by decide +kernel
theorem dX8_share_146 : decode cX8_share 146 = .ok (.bipush 6, 2) := by decide +kernel
theorem dX8_share_148 : decode cX8_share 148 = .ok (.iload_n 1, 1) := by decide +kernel
theorem dX8_share_149 : decode cX8_share 149 = .ok (.imul, 1) := by decide +kernel
theorem dX8_share_150 : decode cX8_share 150 = .ok (.iload 9, 2) := by decide +kernel
theorem dX8_share_152 : decode cX8_share 152 = .ok (.iadd, 1) := by decide +kernel
theorem dX8_share_153 : decode cX8_share 153 = .ok (.istore 10, 2) := by decide +kernel
theorem dX8_share_155 : decode cX8_share 155 = .ok (.aload_n 0, 1) := by decide +kernel
theorem dX8_share_156 : decode cX8_share 156 = .ok (.getfield 13, 3) := by decide +kernel
theorem dX8_share_159 : decode cX8_share 159 = .ok (.iload 10, 2) := by decide +kernel
theorem dX8_share_161 : decode cX8_share 161 = .ok (.iload_n 2, 1) := by decide +kernel
theorem dX8_share_162 : decode cX8_share 162 = .ok (.iastore, 1) := by decide +kernel
theorem dX8_share_163 : decode cX8_share 163 = .ok (.aload_n 0, 1) := by decide +kernel
theorem dX8_share_164 : decode cX8_share 164 = .ok (.getfield 16, 3) := by decide +kernel
theorem dX8_share_167 : decode cX8_share 167 = .ok (.iconst 3, 1) := by decide +kernel
theorem dX8_share_168 : decode cX8_share 168 = .ok (.iload 10, 2) := by decide +kernel
theorem dX8_share_170 : decode cX8_share 170 = .ok (.imul, 1) := by decide +kernel
theorem dX8_share_171 : decode cX8_share 171 = .ok (.iload_n 3, 1) := by decide +kernel
theorem dX8_share_172 : decode cX8_share 172 = .ok (.iastore, 1) := by decide +kernel
theorem dX8_share_173 : decode cX8_share 173 = .ok (.aload_n 0, 1) := by decide +kernel
theorem dX8_share_174 : decode cX8_share 174 = .ok (.getfield 16, 3) := by decide +kernel
theorem dX8_share_177 : decode cX8_share 177 = .ok (.iconst 3, 1) := by decide +kernel
theorem dX8_share_178 : decode cX8_share 178 = .ok (.iload 10, 2) := by decide +kernel
theorem dX8_share_180 : decode cX8_share 180 = .ok (.imul, 1) := by decide +kernel
theorem dX8_share_181 : decode cX8_share 181 = .ok (.iconst 1, 1) := by decide +kernel
theorem dX8_share_182 : decode cX8_share 182 = .ok (.iadd, 1) := by decide +kernel
theorem dX8_share_183 : decode cX8_share 183 = .ok (.iload 5, 2) := by decide +kernel
theorem dX8_share_185 : decode cX8_share 185 = .ok (.iastore, 1) := by decide +kernel
theorem dX8_share_186 : decode cX8_share 186 = .ok (.aload_n 0, 1) := by decide +kernel
theorem dX8_share_187 : decode cX8_share 187 = .ok (.getfield 16, 3) := by decide +kernel
theorem dX8_share_190 : decode cX8_share 190 = .ok (.iconst 3, 1) := by decide +kernel
theorem dX8_share_191 : decode cX8_share 191 = .ok (.iload 10, 2) := by decide +kernel
theorem dX8_share_193 : decode cX8_share 193 = .ok (.imul, 1) := by decide +kernel
theorem dX8_share_194 : decode cX8_share 194 = .ok (.iconst 2, 1) := by decide +kernel
theorem dX8_share_195 : decode cX8_share 195 = .ok (.iadd, 1) := by decide +kernel
theorem dX8_share_196 : decode cX8_share 196 = .ok (.iload 7, 2) := by decide +kernel
theorem dX8_share_198 : decode cX8_share 198 = .ok (.iastore, 1) := by decide +kernel
theorem dX8_share_199 : decode cX8_share 199 = .ok (.aload_n 0, 1) := by decide +kernel
theorem dX8_share_200 : decode cX8_share 200 = .ok (.getfield 19, 3) := by decide +kernel
theorem dX8_share_203 : decode cX8_share 203 = .ok (.iconst 3, 1) := by decide +kernel
theorem dX8_share_204 : decode cX8_share 204 = .ok (.iload 10, 2) := by decide +kernel
theorem dX8_share_206 : decode cX8_share 206 = .ok (.imul, 1) := by decide +kernel
theorem dX8_share_207 : decode cX8_share 207 = .ok (.iload 4, 2) := by decide +kernel
theorem dX8_share_209 : decode cX8_share 209 = .ok (.iastore, 1) := by decide +kernel
theorem dX8_share_210 : decode cX8_share 210 = .ok (.aload_n 0, 1) := by decide +kernel
theorem dX8_share_211 : decode cX8_share 211 = .ok (.getfield 19, 3) := by decide +kernel
theorem dX8_share_214 : decode cX8_share 214 = .ok (.iconst 3, 1) := by decide +kernel
theorem dX8_share_215 : decode cX8_share 215 = .ok (.iload 10, 2) := by decide +kernel
theorem dX8_share_217 : decode cX8_share 217 = .ok (.imul, 1) := by decide +kernel
theorem dX8_share_218 : decode cX8_share 218 = .ok (.iconst 1, 1) := by decide +kernel
theorem dX8_share_219 : decode cX8_share 219 = .ok (.iadd, 1) := by decide +kernel
theorem dX8_share_220 : decode cX8_share 220 = .ok (.iload 6, 2) := by decide +kernel
theorem dX8_share_222 : decode cX8_share 222 = .ok (.iastore, 1) := by decide +kernel
theorem dX8_share_223 : decode cX8_share 223 = .ok (.aload_n 0, 1) := by decide +kernel
theorem dX8_share_224 : decode cX8_share 224 = .ok (.getfield 19, 3) := by decide +kernel
theorem dX8_share_227 : decode cX8_share 227 = .ok (.iconst 3, 1) := by decide +kernel
theorem dX8_share_228 : decode cX8_share 228 = .ok (.iload 10, 2) := by decide +kernel
theorem dX8_share_230 : decode cX8_share 230 = .ok (.imul, 1) := by decide +kernel
theorem dX8_share_231 : decode cX8_share 231 = .ok (.iconst 2, 1) := by decide +kernel
theorem dX8_share_232 : decode cX8_share 232 = .ok (.iadd, 1) := by decide +kernel
theorem dX8_share_233 : decode cX8_share 233 = .ok (.iload 8, 2) := by decide +kernel
theorem dX8_share_235 : decode cX8_share 235 = .ok (.iastore, 1) := by decide +kernel
theorem dX8_share_236 : decode cX8_share 236 = .ok (.aload_n 0, 1) := by decide +kernel
theorem dX8_share_237 : decode cX8_share 237 = .ok (.getfield 7, 3) := by decide +kernel
theorem dX8_share_240 : decode cX8_share 240 = .ok (.iload_n 1, 1) := by decide +kernel
theorem dX8_share_241 : decode cX8_share 241 = .ok (.iload 9, 2) := by decide +kernel
