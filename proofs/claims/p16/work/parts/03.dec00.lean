theorem dX0_init_0 : decode cX0_init 0 = .ok (.aload_n 0, 1) := by decide +kernel
theorem dX0_init_1 : decode cX0_init 1 = .ok (.invokespecial 3, 3) := by decide +kernel
theorem dX0_init_4 : decode cX0_init 4 = .ok (.aload_n 0, 1) := by decide +kernel
theorem dX0_init_5 : decode cX0_init 5 = .ok (.bipush 24, 2) := by decide +kernel
theorem dX0_init_7 : decode cX0_init 7 = .ok (.newarray .int, 2) := by decide +kernel
theorem dX0_init_9 : decode cX0_init 9 = .ok (.putfield 9, 3) := by decide +kernel
theorem dX0_init_12 : decode cX0_init 12 = .ok (.aload_n 0, 1) := by decide +kernel
theorem dX0_init_13 : decode cX0_init 13 = .ok (.bipush 24, 2) := by decide +kernel
theorem dX0_init_15 : decode cX0_init 15 = .ok (.newarray .int, 2) := by decide +kernel
theorem dX0_init_17 : decode cX0_init 17 = .ok (.putfield 15, 3) := by decide +kernel
theorem dX0_init_20 : decode cX0_init 20 = .ok (.aload_n 0, 1) := by decide +kernel
theorem dX0_init_21 : decode cX0_init 21 = .ok (.bipush 24, 2) := by decide +kernel
theorem dX0_init_23 : decode cX0_init 23 = .ok (.newarray .int, 2) := by decide +kernel
theorem dX0_init_25 : decode cX0_init 25 = .ok (.putfield 18, 3) := by decide +kernel
theorem dX0_init_28 : decode cX0_init 28 = .ok (.aload_n 0, 1) := by decide +kernel
theorem dX0_init_29 : decode cX0_init 29 = .ok (.bipush 24, 2) := by decide +kernel
theorem dX0_init_31 : decode cX0_init 31 = .ok (.newarray .int, 2) := by decide +kernel
theorem dX0_init_33 : decode cX0_init 33 = .ok (.putfield 21, 3) := by decide +kernel
theorem dX0_init_36 : decode cX0_init 36 = .ok (.aload_n 0, 1) := by decide +kernel
theorem dX0_init_37 : decode cX0_init 37 = .ok (.bipush 24, 2) := by decide +kernel
theorem dX0_init_39 : decode cX0_init 39 = .ok (.newarray .int, 2) := by decide +kernel
theorem dX0_init_41 : decode cX0_init 41 = .ok (.putfield 24, 3) := by decide +kernel
theorem dX0_init_44 : decode cX0_init 44 = .ok (.aload_n 0, 1) := by decide +kernel
theorem dX0_init_45 : decode cX0_init 45 = .ok (.bipush 24, 2) := by decide +kernel
theorem dX0_init_47 : decode cX0_init 47 = .ok (.newarray .int, 2) := by decide +kernel
theorem dX0_init_49 : decode cX0_init 49 = .ok (.putfield 27, 3) := by decide +kernel
theorem dX0_init_52 : decode cX0_init 52 = .ok (.aload_n 0, 1) := by decide +kernel
theorem dX0_init_53 : decode cX0_init 53 = .ok (.bipush 24, 2) := by decide +kernel
theorem dX0_init_55 : decode cX0_init 55 = .ok (.newarray .int, 2) := by decide +kernel
theorem dX0_init_57 : decode cX0_init 57 = .ok (.putfield 30, 3) := by decide +kernel
theorem dX0_init_60 : decode cX0_init 60 = .ok (.aload_n 0, 1) := by decide +kernel
theorem dX0_init_61 : decode cX0_init 61 = .ok (.bipush 24, 2) := by decide +kernel
theorem dX0_init_63 : decode cX0_init 63 = .ok (.newarray .int, 2) := by decide +kernel
theorem dX0_init_65 : decode cX0_init 65 = .ok (.putfield 33, 3) := by decide +kernel
theorem dX0_init_68 : decode cX0_init 68 = .ok (.return_, 1) := by decide +kernel
theorem dX0_add_0 : decode cX0_add 0 = .ok (.aload_n 0, 1) := by decide +kernel
theorem dX0_add_1 : decode cX0_add 1 = .ok (.getfield 36, 3) := by decide +kernel
theorem dX0_add_4 : decode cX0_add 4 = .ok (.istore 5, 2) := by decide +kernel
theorem dX0_add_6 : decode cX0_add 6 = .ok (.aload_n 0, 1) := by decide +kernel
theorem dX0_add_7 : decode cX0_add 7 = .ok (.getfield 9, 3) := by decide +kernel
theorem dX0_add_10 : decode cX0_add 10 = .ok (.iload 5, 2) := by decide +kernel
theorem dX0_add_12 : decode cX0_add 12 = .ok (.iload_n 1, 1) := by decide +kernel
theorem dX0_add_13 : decode cX0_add 13 = .ok (.iastore, 1) := by decide +kernel
theorem dX0_add_14 : decode cX0_add 14 = .ok (.aload_n 0, 1) := by decide +kernel
theorem dX0_add_15 : decode cX0_add 15 = .ok (.getfield 15, 3) := by decide +kernel
theorem dX0_add_18 : decode cX0_add 18 = .ok (.iload 5, 2) := by decide +kernel
theorem dX0_add_20 : decode cX0_add 20 = .ok (.iload_n 2, 1) := by decide +kernel
theorem dX0_add_21 : decode cX0_add 21 = .ok (.iastore, 1) := by decide +kernel
theorem dX0_add_22 : decode cX0_add 22 = .ok (.aload_n 0, 1) := by decide +kernel
theorem dX0_add_23 : decode cX0_add 23 = .ok (.getfield 18, 3) := by decide +kernel
theorem dX0_add_26 : decode cX0_add 26 = .ok (.iload 5, 2) := by decide +kernel
theorem dX0_add_28 : decode cX0_add 28 = .ok (.iload_n 3, 1) := by decide +kernel
theorem dX0_add_29 : decode cX0_add 29 = .ok (.iastore, 1) := by decide +kernel
theorem dX0_add_30 : decode cX0_add 30 = .ok (.aload_n 0, 1) := by decide +kernel
theorem dX0_add_31 : decode cX0_add 31 = .ok (.getfield 21, 3) := by decide +kernel
theorem dX0_add_34 : decode cX0_add 34 = .ok (.iload 5, 2) := by decide +kernel
theorem dX0_add_36 : decode cX0_add 36 = .ok (.iload 4, 2) := by decide +kernel
theorem dX0_add_38 : decode cX0_add 38 = .ok (.iastore, 1) := by decide +kernel
theorem dX0_add_39 : decode cX0_add 39 = .ok (.aload_n 0, 1) := by decide +kernel
theorem dX0_add_40 : decode cX0_add 40 = .ok (.dup, 1) := by decide +kernel
theorem dX0_add_41 : decode cX0_add 41 = .ok (.getfield 36, 3) := by decide +kernel
theorem dX0_add_44 : decode cX0_add 44 = .ok (.iconst 1, 1) := by decide +kernel
theorem dX0_add_45 : decode cX0_add 45 = .ok (.iadd, 1) := by decide +kernel
theorem dX0_add_46 : decode cX0_add 46 = .ok (.putfield 36, 3) := by decide +kernel
theorem dX0_add_49 : decode cX0_add 49 = .ok (.iload 5, 2) := by decide +kernel
theorem dX0_add_51 : decode cX0_add 51 = .ok (.ireturn, 1) := by decide +kernel
theorem dX0_agree_0 : decode cX0_agree 0 = .ok (.aload_n 0, 1) := by decide +kernel
theorem dX0_agree_1 : decode cX0_agree 1 = .ok (.getfield 24, 3) := by decide +kernel
theorem dX0_agree_4 : decode cX0_agree 4 = .ok (.iload_n 1, 1) := by decide +kernel
theorem dX0_agree_5 : decode cX0_agree 5 = .ok (.iload_n 2, 1) := by decide +kernel
theorem dX0_agree_6 : decode cX0_agree 6 = .ok (.iastore, 1) := by decide +kernel
theorem dX0_agree_7 : decode cX0_agree 7 = .ok (.aload_n 0, 1) := by decide +kernel
theorem dX0_agree_8 : decode cX0_agree 8 = .ok (.getfield 27, 3) := by decide +kernel
theorem dX0_agree_11 : decode cX0_agree 11 = .ok (.iload_n 1, 1) := by decide +kernel
theorem dX0_agree_12 : decode cX0_agree 12 = .ok (.iload_n 3, 1) := by decide +kernel
theorem dX0_agree_13 : decode cX0_agree 13 = .ok (.iastore, 1) := by decide +kernel
theorem dX0_agree_14 : decode cX0_agree 14 = .ok (.aload_n 0, 1) := by decide +kernel
theorem dX0_agree_15 : decode cX0_agree 15 = .ok (.getfield 30, 3) := by decide +kernel
theorem dX0_agree_18 : decode cX0_agree 18 = .ok (.iload_n 1, 1) := by decide +kernel
theorem dX0_agree_19 : decode cX0_agree 19 = .ok (.iload 4, 2) := by decide +kernel
theorem dX0_agree_21 : decode cX0_agree 21 = .ok (.iastore, 1) := by decide +kernel
theorem dX0_agree_22 : decode cX0_agree 22 = .ok (.aload_n 0, 1) := by decide +kernel
theorem dX0_agree_23 : decode cX0_agree 23 = .ok (.getfield 33, 3) := by decide +kernel
theorem dX0_agree_26 : decode cX0_agree 26 = .ok (.iload_n 1, 1) := by decide +kernel
theorem dX0_agree_27 : decode cX0_agree 27 = .ok (.iload 5, 2) := by decide +kernel
theorem dX0_agree_29 : decode cX0_agree 29 = .ok (.iastore, 1) := by decide +kernel
theorem dX0_agree_30 : decode cX0_agree 30 = .ok (.return_, 1) := by decide +kernel
theorem dX0_holdsFor_0 : decode cX0_holdsFor 0 = .ok (.aload_n 0, 1) := by decide +kernel
theorem dX0_holdsFor_1 : decode cX0_holdsFor 1 = .ok (.getfield 15, 3) := by decide +kernel
theorem dX0_holdsFor_4 : decode cX0_holdsFor 4 = .ok (.iload_n 1, 1) := by decide +kernel
theorem dX0_holdsFor_5 : decode cX0_holdsFor 5 = .ok (.iaload, 1) := by decide +kernel
theorem dX0_holdsFor_6 : decode cX0_holdsFor 6 = .ok (.iload_n 2, 1) := by decide +kernel
theorem dX0_holdsFor_7 : decode cX0_holdsFor 7 = .ok (.if_icmp .ne 32, 3) := by decide +kernel
theorem dX0_holdsFor_10 : decode cX0_holdsFor 10 = .ok (.aload_n 0, 1) := by decide +kernel
theorem dX0_holdsFor_11 : decode cX0_holdsFor 11 = .ok (.getfield 18, 3) := by decide +kernel
theorem dX0_holdsFor_14 : decode cX0_holdsFor 14 = .ok (.iload_n 1, 1) := by decide +kernel
theorem dX0_holdsFor_15 : decode cX0_holdsFor 15 = .ok (.iaload, 1) := by decide +kernel
theorem dX0_holdsFor_16 : decode cX0_holdsFor 16 = .ok (.iload_n 3, 1) := by decide +kernel
theorem dX0_holdsFor_17 : decode cX0_holdsFor 17 = .ok (.ishr, 1) := by decide +kernel
theorem dX0_holdsFor_18 : decode cX0_holdsFor 18 = .ok (.iconst 1, 1) := by decide +kernel
theorem dX0_holdsFor_19 : decode cX0_holdsFor 19 = .ok (.iand, 1) := by decide +kernel
theorem dX0_holdsFor_20 : decode cX0_holdsFor 20 = .ok (.iconst 1, 1) := by decide +kernel
theorem dX0_holdsFor_21 : decode cX0_holdsFor 21 = .ok (.if_icmp .ne 18, 3) := by decide +kernel
theorem dX0_holdsFor_24 : decode cX0_holdsFor 24 = .ok (.aload_n 0, 1) := by decide +kernel
theorem dX0_holdsFor_25 : decode cX0_holdsFor 25 = .ok (.getfield 21, 3) := by decide +kernel
theorem dX0_holdsFor_28 : decode cX0_holdsFor 28 = .ok (.iload_n 1, 1) := by decide +kernel
theorem dX0_holdsFor_29 : decode cX0_holdsFor 29 = .ok (.iaload, 1) := by decide +kernel
theorem dX0_holdsFor_30 : decode cX0_holdsFor 30 = .ok (.iload 4, 2) := by decide +kernel
theorem dX0_holdsFor_32 : decode cX0_holdsFor 32 = .ok (.if_icmp .gt 7, 3) := by decide +kernel
theorem dX0_holdsFor_35 : decode cX0_holdsFor 35 = .ok (.iconst 1, 1) := by decide +kernel
theorem dX0_holdsFor_36 : decode cX0_holdsFor 36 = .ok (.goto 4, 3) := by decide +kernel
theorem dX0_holdsFor_39 : decode cX0_holdsFor 39 = .ok (.iconst 0, 1) := by decide +kernel
theorem dX0_holdsFor_40 : decode cX0_holdsFor 40 = .ok (.ireturn, 1) := by decide +kernel
theorem dX0_isReserveOf_0 : decode cX0_isReserveOf 0 = .ok (.aload_n 0, 1) := by decide +kernel
theorem dX0_isReserveOf_1 : decode cX0_isReserveOf 1 = .ok (.getfield 9, 3) := by decide +kernel
theorem dX0_isReserveOf_4 : decode cX0_isReserveOf 4 = .ok (.iload_n 1, 1) := by decide +kernel
theorem dX0_isReserveOf_5 : decode cX0_isReserveOf 5 = .ok (.iaload, 1) := by decide +kernel
theorem dX0_isReserveOf_6 : decode cX0_isReserveOf 6 = .ok (.iconst 4, 1) := by decide +kernel
theorem dX0_isReserveOf_7 : decode cX0_isReserveOf 7 = .ok (.if_icmp .ne 17, 3) := by decide +kernel
theorem dX0_isReserveOf_10 : decode cX0_isReserveOf 10 = .ok (.aload_n 0, 1) := by decide +kernel
theorem dX0_isReserveOf_11 : decode cX0_isReserveOf 11 = .ok (.getfield 15, 3) := by decide +kernel
theorem dX0_isReserveOf_14 : decode cX0_isReserveOf 14 = .ok (.iload_n 1, 1) := by decide +kernel
theorem dX0_isReserveOf_15 : decode cX0_isReserveOf 15 = .ok (.iaload, 1) := by decide +kernel
theorem dX0_isReserveOf_16 : decode cX0_isReserveOf 16 = .ok (.iload_n 2, 1) := by decide +kernel
theorem dX0_isReserveOf_17 : decode cX0_isReserveOf 17 = .ok (.if_icmp .ne 7, 3) := by decide +kernel
theorem dX0_isReserveOf_20 : decode cX0_isReserveOf 20 = .ok (.iconst 1, 1) := by decide +kernel
theorem dX0_isReserveOf_21 : decode cX0_isReserveOf 21 = .ok (.goto 4, 3) := by decide +kernel
theorem dX0_isReserveOf_24 : decode cX0_isReserveOf 24 = .ok (.iconst 0, 1) := by decide +kernel
theorem dX0_isReserveOf_25 : decode cX0_isReserveOf 25 = .ok (.ireturn, 1) := by decide +kernel
theorem dX1_init_0 : decode cX1_init 0 = .ok (.aload_n 0, 1) := by decide +kernel
theorem dX1_init_1 : decode cX1_init 1 = .ok (.invokespecial 1, 3) := by decide +kernel
theorem dX1_init_4 : decode cX1_init 4 = .ok (.aload_n 0, 1) := by decide +kernel
theorem dX1_init_5 : decode cX1_init 5 = .ok (.aload_n 1, 1) := by decide +kernel
theorem dX1_init_6 : decode cX1_init 6 = .ok (.putfield 7, 3) := by decide +kernel
theorem dX1_init_9 : decode cX1_init 9 = .ok (.aload_n 0, 1) := by decide +kernel
theorem dX1_init_10 : decode cX1_init 10 = .ok (.aload_n 2, 1) := by decide +kernel
theorem dX1_init_11 : decode cX1_init 11 = .ok (.putfield 13, 3) := by decide +kernel
theorem dX1_init_14 : decode cX1_init 14 = .ok (.aload_n 0, 1) := by decide +kernel
theorem dX1_init_15 : decode cX1_init 15 = .ok (.aload_n 3, 1) := by decide +kernel
theorem dX1_init_16 : decode cX1_init 16 = .ok (.putfield 17, 3) := by decide +kernel
theorem dX1_init_19 : decode cX1_init 19 = .ok (.aload_n 0, 1) := by decide +kernel
theorem dX1_init_20 : decode cX1_init 20 = .ok (.aload 4, 2) := by decide +kernel
theorem dX1_init_22 : decode cX1_init 22 = .ok (.putfield 21, 3) := by decide +kernel
theorem dX1_init_25 : decode cX1_init 25 = .ok (.return_, 1) := by decide +kernel
set_option maxRecDepth 20000 in
theorem ggX2_init_X3_init : GoodIn wsX2_init wsX3_init := goodIn_r _ [27, 28, 2, 3, 29, 30, 31, 32, 33, 8, 34, 35, 36, 4, 37, 38, 59, 60, 61, 62, 63, 64, 65] rfl (by decide +kernel)
set_option maxRecDepth 20000 in
theorem gX2_init_X3_init : GoodIn wsX2_init (wsX3_init) := ggX2_init_X3_init
theorem dX2_init_0 : decode cX2_init 0 = .ok (.aload_n 0, 1) := by decide +kernel
theorem dX2_init_1 : decode cX2_init 1 = .ok (.invokespecial 3, 3) := by decide +kernel
theorem dX2_init_4 : decode cX2_init 4 = .ok (.aload_n 0, 1) := by decide +kernel
theorem dX2_init_5 : decode cX2_init 5 = .ok (.bipush 12, 2) := by decide +kernel
theorem dX2_init_7 : decode cX2_init 7 = .ok (.newarray .long, 2) := by decide +kernel
theorem dX2_init_9 : decode cX2_init 9 = .ok (.putfield 9, 3) := by decide +kernel
theorem dX2_init_12 : decode cX2_init 12 = .ok (.aload_n 0, 1) := by decide +kernel
theorem dX2_init_13 : decode cX2_init 13 = .ok (.bipush 12, 2) := by decide +kernel
theorem dX2_init_15 : decode cX2_init 15 = .ok (.newarray .long, 2) := by decide +kernel
theorem dX2_init_17 : decode cX2_init 17 = .ok (.putfield 15, 3) := by decide +kernel
theorem dX2_init_20 : decode cX2_init 20 = .ok (.aload_n 0, 1) := by decide +kernel
theorem dX2_init_21 : decode cX2_init 21 = .ok (.bipush 12, 2) := by decide +kernel
theorem dX2_init_23 : decode cX2_init 23 = .ok (.newarray .long, 2) := by decide +kernel
theorem dX2_init_25 : decode cX2_init 25 = .ok (.putfield 18, 3) := by decide +kernel
theorem dX2_init_28 : decode cX2_init 28 = .ok (.aload_n 0, 1) := by decide +kernel
theorem dX2_init_29 : decode cX2_init 29 = .ok (.sipush 480, 3) := by decide +kernel
theorem dX2_init_32 : decode cX2_init 32 = .ok (.newarray .int, 2) := by decide +kernel
theorem dX2_init_34 : decode cX2_init 34 = .ok (.putfield 21, 3) := by decide +kernel
theorem dX2_init_37 : decode cX2_init 37 = .ok (.aload_n 0, 1) := by decide +kernel
theorem dX2_init_38 : decode cX2_init 38 = .ok (.bipush 24, 2) := by decide +kernel
theorem dX2_init_40 : decode cX2_init 40 = .ok (.newarray .long, 2) := by decide +kernel
theorem dX2_init_42 : decode cX2_init 42 = .ok (.putfield 25, 3) := by decide +kernel
theorem dX2_init_45 : decode cX2_init 45 = .ok (.aload_n 0, 1) := by decide +kernel
theorem dX2_init_46 : decode cX2_init 46 = .ok (.bipush 24, 2) := by decide +kernel
theorem dX2_init_48 : decode cX2_init 48 = .ok (.newarray .long, 2) := by decide +kernel
theorem dX2_init_50 : decode cX2_init 50 = .ok (.putfield 28, 3) := by decide +kernel
theorem dX2_init_53 : decode cX2_init 53 = .ok (.aload_n 0, 1) := by decide +kernel
theorem dX2_init_54 : decode cX2_init 54 = .ok (.sipush 960, 3) := by decide +kernel
theorem dX2_init_57 : decode cX2_init 57 = .ok (.newarray .long, 2) := by decide +kernel
theorem dX2_init_59 : decode cX2_init 59 = .ok (.putfield 31, 3) := by decide +kernel
theorem dX2_init_62 : decode cX2_init 62 = .ok (.aload_n 0, 1) := by decide +kernel
theorem dX2_init_63 : decode cX2_init 63 = .ok (.aload_n 1, 1) := by decide +kernel
theorem dX2_init_64 : decode cX2_init 64 = .ok (.getfield 34, 3) := by decide +kernel
theorem dX2_init_67 : decode cX2_init 67 = .ok (.putfield 40, 3) := by decide +kernel
theorem dX2_init_70 : decode cX2_init 70 = .ok (.aload_n 0, 1) := by decide +kernel
theorem dX2_init_71 : decode cX2_init 71 = .ok (.aload_n 1, 1) := by decide +kernel
theorem dX2_init_72 : decode cX2_init 72 = .ok (.getfield 41, 3) := by decide +kernel
theorem dX2_init_75 : decode cX2_init 75 = .ok (.putfield 45, 3) := by decide +kernel
theorem dX2_init_78 : decode cX2_init 78 = .ok (.aload_n 0, 1) := by decide +kernel
theorem dX2_init_79 : decode cX2_init 79 = .ok (.aload_n 1, 1) := by decide +kernel
theorem dX2_init_80 : decode cX2_init 80 = .ok (.getfield 46, 3) := by decide +kernel
theorem dX2_init_83 : decode cX2_init 83 = .ok (.putfield 50, 3) := by decide +kernel
theorem dX2_init_86 : decode cX2_init 86 = .ok (.aload_n 0, 1) := by decide +kernel
theorem dX2_init_87 : decode cX2_init 87 = .ok (.aload_n 1, 1) := by decide +kernel
theorem dX2_init_88 : decode cX2_init 88 = .ok (.getfield 51, 3) := by decide +kernel
theorem dX2_init_91 : decode cX2_init 91 = .ok (.putfield 55, 3) := by decide +kernel
theorem dX2_init_94 : decode cX2_init 94 = .ok (.aload_n 0, 1) := by decide +kernel
theorem dX2_init_95 : decode cX2_init 95 = .ok (.new 56, 3) := by decide +kernel
theorem dX2_init_98 : decode cX2_init 98 = .ok (.dup, 1) := by decide +kernel
theorem dX2_init_99 : decode cX2_init 99 = .ok (.iload_n 2, 1) := by decide +kernel
theorem dX2_init_100 : decode cX2_init 100 = .ok (.invokespecial 58, 3) := by decide +kernel
theorem dX2_init_103 : decode cX2_init 103 = .ok (.putfield 61, 3) := by decide +kernel
theorem dX2_init_106 : decode cX2_init 106 = .ok (.return_, 1) := by decide +kernel
set_option maxRecDepth 20000 in
theorem ggX2_clear_J7_fill_d0a16 : GoodIn wsX2_clear wsJ7_fill_d0a16 := goodIn_r _ [14] rfl (by decide +kernel)
set_option maxRecDepth 20000 in
theorem gX2_clear_J7_fill_d0a16 : GoodIn wsX2_clear (va_wsS RX2 65 yJ7_fill_d0a16 wsJ7_fill_d0a16) := goodIn_app (goodIn_of _ (by decide +kernel)) ggX2_clear_J7_fill_d0a16
set_option maxRecDepth 20000 in
theorem ggX2_clear_J7_fill_53178 : GoodIn wsX2_clear wsJ7_fill_53178 := goodIn_r _ [17] rfl (by decide +kernel)
set_option maxRecDepth 20000 in
theorem gX2_clear_J7_fill_53178 : GoodIn wsX2_clear (va_wsS RX2 71 yJ7_fill_53178 wsJ7_fill_53178) := goodIn_app (goodIn_of _ (by decide +kernel)) ggX2_clear_J7_fill_53178
theorem dX2_clear_0 : decode cX2_clear 0 = .ok (.aload_n 0, 1) := by decide +kernel
theorem dX2_clear_1 : decode cX2_clear 1 = .ok (.getfield 9, 3) := by decide +kernel
theorem dX2_clear_4 : decode cX2_clear 4 = .ok (.lconst 0, 1) := by decide +kernel
theorem dX2_clear_5 : decode cX2_clear 5 = .ok (.invokestatic 65, 3) := by decide +kernel
theorem dX2_clear_8 : decode cX2_clear 8 = .ok (.aload_n 0, 1) := by decide +kernel
theorem dX2_clear_9 : decode cX2_clear 9 = .ok (.getfield 15, 3) := by decide +kernel
theorem dX2_clear_12 : decode cX2_clear 12 = .ok (.lconst 0, 1) := by decide +kernel
theorem dX2_clear_13 : decode cX2_clear 13 = .ok (.invokestatic 65, 3) := by decide +kernel
theorem dX2_clear_16 : decode cX2_clear 16 = .ok (.aload_n 0, 1) := by decide +kernel
theorem dX2_clear_17 : decode cX2_clear 17 = .ok (.getfield 18, 3) := by decide +kernel
theorem dX2_clear_20 : decode cX2_clear 20 = .ok (.lconst 0, 1) := by decide +kernel
theorem dX2_clear_21 : decode cX2_clear 21 = .ok (.invokestatic 65, 3) := by decide +kernel
theorem dX2_clear_24 : decode cX2_clear 24 = .ok (.aload_n 0, 1) := by decide +kernel
theorem dX2_clear_25 : decode cX2_clear 25 = .ok (.getfield 21, 3) := by decide +kernel
theorem dX2_clear_28 : decode cX2_clear 28 = .ok (.iconst 0, 1) := by decide +kernel
theorem dX2_clear_29 : decode cX2_clear 29 = .ok (.invokestatic 71, 3) := by decide +kernel
theorem dX2_clear_32 : decode cX2_clear 32 = .ok (.aload_n 0, 1) := by decide +kernel
theorem dX2_clear_33 : decode cX2_clear 33 = .ok (.getfield 25, 3) := by decide +kernel
theorem dX2_clear_36 : decode cX2_clear 36 = .ok (.lconst 0, 1) := by decide +kernel
theorem dX2_clear_37 : decode cX2_clear 37 = .ok (.invokestatic 65, 3) := by decide +kernel
theorem dX2_clear_40 : decode cX2_clear 40 = .ok (.aload_n 0, 1) := by decide +kernel
theorem dX2_clear_41 : decode cX2_clear 41 = .ok (.getfield 28, 3) := by decide +kernel
theorem dX2_clear_44 : decode cX2_clear 44 = .ok (.lconst 0, 1) := by decide +kernel
theorem dX2_clear_45 : decode cX2_clear 45 = .ok (.invokestatic 65, 3) := by decide +kernel
theorem dX2_clear_48 : decode cX2_clear 48 = .ok (.aload_n 0, 1) := by decide +kernel
theorem dX2_clear_49 : decode cX2_clear 49 = .ok (.getfield 31, 3) := by decide +kernel
theorem dX2_clear_52 : decode cX2_clear 52 = .ok (.lconst 0, 1) := by decide +kernel
theorem dX2_clear_53 : decode cX2_clear 53 = .ok (.invokestatic 65, 3) := by decide +kernel
theorem dX2_clear_56 : decode cX2_clear 56 = .ok (.aload_n 0, 1) := by decide +kernel
theorem dX2_clear_57 : decode cX2_clear 57 = .ok (.lconst 0, 1) := by decide +kernel
theorem dX2_clear_58 : decode cX2_clear 58 = .ok (.putfield 74, 3) := by decide +kernel
theorem dX2_clear_61 : decode cX2_clear 61 = .ok (.aload_n 0, 1) := by decide +kernel
theorem dX2_clear_62 : decode cX2_clear 62 = .ok (.iconst 0, 1) := by decide +kernel
theorem dX2_clear_63 : decode cX2_clear 63 = .ok (.putfield 78, 3) := by decide +kernel
theorem dX2_clear_66 : decode cX2_clear 66 = .ok (.aload_n 0, 1) := by decide +kernel
theorem dX2_clear_67 : decode cX2_clear 67 = .ok (.iconst 0, 1) := by decide +kernel
theorem dX2_clear_68 : decode cX2_clear 68 = .ok (.putfield 82, 3) := by decide +kernel
theorem dX2_clear_71 : decode cX2_clear 71 = .ok (.return_, 1) := by decide +kernel
set_option maxRecDepth 20000 in
theorem ggX2_reckonTo_X2_takeSentOf : GoodIn wsX2_reckonTo wsX2_takeSentOf := goodIn_r _ [10, 11, 12, 13, 14, 15, 16, 17, 18, 19, 20, 9, 21, 5, 22, 23, 24, 25, 26, 3, 27, 28, 29, 30, 31, 32, 33, 34, 35, 36, 154, 155, 156, 157, 158, 159, 160, 161, 162, 163, 164, 165, 166, 167, 168, 169, 170, 171, 172, 173, 174, 175, 176, 177, 178, 179, 180, 181, 182, 183] rfl (by decide +kernel)
set_option maxRecDepth 20000 in
theorem gX2_reckonTo_X2_takeSentOf : GoodIn wsX2_reckonTo (wsV RX2 91 RX2 yX2_takeSentOf wsX2_takeSentOf) := goodIn_app (goodIn_of _ (by decide +kernel)) ggX2_reckonTo_X2_takeSentOf
set_option maxRecDepth 20000 in
theorem ggX2_reckonTo_X2_closeTerm : GoodIn wsX2_reckonTo wsX2_closeTerm := goodIn_r _ [40, 41, 42, 43, 5, 44, 45, 46, 47, 48, 49, 50, 51, 52, 53, 54, 55, 56, 57, 58, 59, 60, 61, 62, 9, 63, 64, 65, 17, 66, 67, 68, 69, 70, 71, 72, 73, 74, 75, 76, 77, 78, 79, 80, 81, 82, 83, 84, 85, 86, 87, 88, 89, 90, 91, 92, 93, 22, 23, 94, 95, 96, 24, 97, 98, 99, 100, 101, 102, 103, 104, 105, 106, 107, 108, 109, 110, 111, 112, 113, 114, 115, 33, 116, 36, 117, 118, 119, 120, 121, 122, 123, 25, 26, 3, 27, 124, 125, 126, 127, 128, 129, 130, 131, 132, 133, 134, 135, 136, 137, 138, 139, 140, 141, 142, 28, 143, 144, 145, 146, 147, 148, 149, 150, 151, 152, 153, 154, 155, 156, 157, 158, 159, 160, 161, 162, 163, 164, 165, 166, 167, 168, 169, 184, 185, 186, 187, 188, 189, 190, 191, 192, 193, 194, 195, 196, 197, 198, 199, 200, 175, 176, 177, 178, 179, 180, 181, 182, 183] rfl (by decide +kernel)
set_option maxRecDepth 20000 in
theorem gX2_reckonTo_X2_closeTerm : GoodIn wsX2_reckonTo (wsV RX2 94 RX2 yX2_closeTerm wsX2_closeTerm) := goodIn_app (goodIn_of _ (by decide +kernel)) ggX2_reckonTo_X2_closeTerm
theorem dX2_reckonTo_0 : decode cX2_reckonTo 0 = .ok (.iload_n 1, 1) := by decide +kernel
theorem dX2_reckonTo_1 : decode cX2_reckonTo 1 = .ok (.bipush 40, 2) := by decide +kernel
theorem dX2_reckonTo_3 : decode cX2_reckonTo 3 = .ok (.invokestatic 85, 3) := by decide +kernel
theorem dX2_reckonTo_6 : decode cX2_reckonTo 6 = .ok (.istore_n 2, 1) := by decide +kernel
theorem dX2_reckonTo_7 : decode cX2_reckonTo 7 = .ok (.aload_n 0, 1) := by decide +kernel
theorem dX2_reckonTo_8 : decode cX2_reckonTo 8 = .ok (.getfield 78, 3) := by decide +kernel
theorem dX2_reckonTo_11 : decode cX2_reckonTo 11 = .ok (.istore_n 3, 1) := by decide +kernel
theorem dX2_reckonTo_12 : decode cX2_reckonTo 12 = .ok (.iload_n 3, 1) := by decide +kernel
theorem dX2_reckonTo_13 : decode cX2_reckonTo 13 = .ok (.iload_n 2, 1) := by decide +kernel
theorem dX2_reckonTo_14 : decode cX2_reckonTo 14 = .ok (.if_icmp .ge 18, 3) := by decide +kernel
theorem dX2_reckonTo_17 : decode cX2_reckonTo 17 = .ok (.aload_n 0, 1) := by decide +kernel
theorem dX2_reckonTo_18 : decode cX2_reckonTo 18 = .ok (.iload_n 3, 1) := by decide +kernel
theorem dX2_reckonTo_19 : decode cX2_reckonTo 19 = .ok (.invokevirtual 91, 3) := by decide +kernel
theorem dX2_reckonTo_22 : decode cX2_reckonTo 22 = .ok (.aload_n 0, 1) := by decide +kernel
theorem dX2_reckonTo_23 : decode cX2_reckonTo 23 = .ok (.invokevirtual 94, 3) := by decide +kernel
theorem dX2_reckonTo_26 : decode cX2_reckonTo 26 = .ok (.iinc 3 1, 3) := by decide +kernel
theorem dX2_reckonTo_29 : decode cX2_reckonTo 29 = .ok (.goto (-17), 3) := by decide +kernel
theorem dX2_reckonTo_32 : decode cX2_reckonTo 32 = .ok (.aload_n 0, 1) := by decide +kernel
theorem dX2_reckonTo_33 : decode cX2_reckonTo 33 = .ok (.iload_n 1, 1) := by decide +kernel
theorem dX2_reckonTo_34 : decode cX2_reckonTo 34 = .ok (.invokevirtual 91, 3) := by decide +kernel
theorem dX2_reckonTo_37 : decode cX2_reckonTo 37 = .ok (.return_, 1) := by decide +kernel
set_option maxRecDepth 20000 in
theorem ggX2_becomeLike_X2_worth : GoodIn wsX2_becomeLike wsX2_worth := goodIn_r _ [16, 17, 1, 2, 18, 19, 20, 15, 21, 22, 23, 24, 25, 26, 27, 28, 29, 30, 31, 32, 33, 34, 35, 36, 37, 38, 39, 40, 41, 42, 43] rfl (by decide +kernel)
set_option maxRecDepth 20000 in
theorem gX2_becomeLike_X2_worth : GoodIn wsX2_becomeLike (wsV RX2 97 RX2 yX2_worth wsX2_worth) := goodIn_app (goodIn_of _ (by decide +kernel)) ggX2_becomeLike_X2_worth
theorem dX2_becomeLike_0 : decode cX2_becomeLike 0 = .ok (.iconst 0, 1) := by decide +kernel
theorem dX2_becomeLike_1 : decode cX2_becomeLike 1 = .ok (.istore_n 2, 1) := by decide +kernel
theorem dX2_becomeLike_2 : decode cX2_becomeLike 2 = .ok (.iload_n 2, 1) := by decide +kernel
theorem dX2_becomeLike_3 : decode cX2_becomeLike 3 = .ok (.bipush 12, 2) := by decide +kernel
theorem dX2_becomeLike_5 : decode cX2_becomeLike 5 = .ok (.if_icmp .ge 69, 3) := by decide +kernel
theorem dX2_becomeLike_8 : decode cX2_becomeLike 8 = .ok (.aload_n 1, 1) := by decide +kernel
theorem dX2_becomeLike_9 : decode cX2_becomeLike 9 = .ok (.iload_n 2, 1) := by decide +kernel
theorem dX2_becomeLike_10 : decode cX2_becomeLike 10 = .ok (.invokevirtual 97, 3) := by decide +kernel
theorem dX2_becomeLike_13 : decode cX2_becomeLike 13 = .ok (.aload_n 0, 1) := by decide +kernel
theorem dX2_becomeLike_14 : decode cX2_becomeLike 14 = .ok (.iload_n 2, 1) := by decide +kernel
theorem dX2_becomeLike_15 : decode cX2_becomeLike 15 = .ok (.invokevirtual 97, 3) := by decide +kernel
theorem dX2_becomeLike_18 : decode cX2_becomeLike 18 = .ok (.lsub, 1) := by decide +kernel
theorem dX2_becomeLike_19 : decode cX2_becomeLike 19 = .ok (.lstore_n 3, 1) := by decide +kernel
theorem dX2_becomeLike_20 : decode cX2_becomeLike 20 = .ok (.aload_n 0, 1) := by decide +kernel
theorem dX2_becomeLike_21 : decode cX2_becomeLike 21 = .ok (.getfield 9, 3) := by decide +kernel
theorem dX2_becomeLike_24 : decode cX2_becomeLike 24 = .ok (.iload_n 2, 1) := by decide +kernel
theorem dX2_becomeLike_25 : decode cX2_becomeLike 25 = .ok (.dup2, 1) := by decide +kernel
theorem dX2_becomeLike_26 : decode cX2_becomeLike 26 = .ok (.laload, 1) := by decide +kernel
theorem dX2_becomeLike_27 : decode cX2_becomeLike 27 = .ok (.lload_n 3, 1) := by decide +kernel
theorem dX2_becomeLike_28 : decode cX2_becomeLike 28 = .ok (.aload_n 1, 1) := by decide +kernel
theorem dX2_becomeLike_29 : decode cX2_becomeLike 29 = .ok (.getfield 15, 3) := by decide +kernel
theorem dX2_becomeLike_32 : decode cX2_becomeLike 32 = .ok (.iload_n 2, 1) := by decide +kernel
theorem dX2_becomeLike_33 : decode cX2_becomeLike 33 = .ok (.laload, 1) := by decide +kernel
theorem dX2_becomeLike_34 : decode cX2_becomeLike 34 = .ok (.ladd, 1) := by decide +kernel
theorem dX2_becomeLike_35 : decode cX2_becomeLike 35 = .ok (.aload_n 0, 1) := by decide +kernel
theorem dX2_becomeLike_36 : decode cX2_becomeLike 36 = .ok (.getfield 15, 3) := by decide +kernel
theorem dX2_becomeLike_39 : decode cX2_becomeLike 39 = .ok (.iload_n 2, 1) := by decide +kernel
theorem dX2_becomeLike_40 : decode cX2_becomeLike 40 = .ok (.laload, 1) := by decide +kernel
theorem dX2_becomeLike_41 : decode cX2_becomeLike 41 = .ok (.lsub, 1) := by decide +kernel
theorem dX2_becomeLike_42 : decode cX2_becomeLike 42 = .ok (.ladd, 1) := by decide +kernel
theorem dX2_becomeLike_43 : decode cX2_becomeLike 43 = .ok (.lastore, 1) := by decide +kernel
theorem dX2_becomeLike_44 : decode cX2_becomeLike 44 = .ok (.aload_n 0, 1) := by decide +kernel
theorem dX2_becomeLike_45 : decode cX2_becomeLike 45 = .ok (.getfield 15, 3) := by decide +kernel
theorem dX2_becomeLike_48 : decode cX2_becomeLike 48 = .ok (.iload_n 2, 1) := by decide +kernel
theorem dX2_becomeLike_49 : decode cX2_becomeLike 49 = .ok (.aload_n 1, 1) := by decide +kernel
theorem dX2_becomeLike_50 : decode cX2_becomeLike 50 = .ok (.getfield 15, 3) := by decide +kernel
theorem dX2_becomeLike_53 : decode cX2_becomeLike 53 = .ok (.iload_n 2, 1) := by decide +kernel
theorem dX2_becomeLike_54 : decode cX2_becomeLike 54 = .ok (.laload, 1) := by decide +kernel
theorem dX2_becomeLike_55 : decode cX2_becomeLike 55 = .ok (.lastore, 1) := by decide +kernel
theorem dX2_becomeLike_56 : decode cX2_becomeLike 56 = .ok (.aload_n 0, 1) := by decide +kernel
theorem dX2_becomeLike_57 : decode cX2_becomeLike 57 = .ok (.getfield 18, 3) := by decide +kernel
theorem dX2_becomeLike_60 : decode cX2_becomeLike 60 = .ok (.iload_n 2, 1) := by decide +kernel
theorem dX2_becomeLike_61 : decode cX2_becomeLike 61 = .ok (.aload_n 1, 1) := by decide +kernel
theorem dX2_becomeLike_62 : decode cX2_becomeLike 62 = .ok (.getfield 18, 3) := by decide +kernel
theorem dX2_becomeLike_65 : decode cX2_becomeLike 65 = .ok (.iload_n 2, 1) := by decide +kernel
theorem dX2_becomeLike_66 : decode cX2_becomeLike 66 = .ok (.laload, 1) := by decide +kernel
theorem dX2_becomeLike_67 : decode cX2_becomeLike 67 = .ok (.lastore, 1) := by decide +kernel
theorem dX2_becomeLike_68 : decode cX2_becomeLike 68 = .ok (.iinc 2 1, 3) := by decide +kernel
theorem dX2_becomeLike_71 : decode cX2_becomeLike 71 = .ok (.goto (-69), 3) := by decide +kernel
theorem dX2_becomeLike_74 : decode cX2_becomeLike 74 = .ok (.aload_n 1, 1) := by decide +kernel
theorem dX2_becomeLike_75 : decode cX2_becomeLike 75 = .ok (.getfield 25, 3) := by decide +kernel
theorem dX2_becomeLike_78 : decode cX2_becomeLike 78 = .ok (.iconst 0, 1) := by decide +kernel
theorem dX2_becomeLike_79 : decode cX2_becomeLike 79 = .ok (.aload_n 0, 1) := by decide +kernel
theorem dX2_becomeLike_80 : decode cX2_becomeLike 80 = .ok (.getfield 25, 3) := by decide +kernel
theorem dX2_becomeLike_83 : decode cX2_becomeLike 83 = .ok (.iconst 0, 1) := by decide +kernel
theorem dX2_becomeLike_84 : decode cX2_becomeLike 84 = .ok (.bipush 24, 2) := by decide +kernel
theorem dX2_becomeLike_86 : decode cX2_becomeLike 86 = .ok (.invokestatic 101, 3) := by decide +kernel
theorem dX2_becomeLike_89 : decode cX2_becomeLike 89 = .ok (.aload_n 1, 1) := by decide +kernel
theorem dX2_becomeLike_90 : decode cX2_becomeLike 90 = .ok (.getfield 28, 3) := by decide +kernel
theorem dX2_becomeLike_93 : decode cX2_becomeLike 93 = .ok (.iconst 0, 1) := by decide +kernel
theorem dX2_becomeLike_94 : decode cX2_becomeLike 94 = .ok (.aload_n 0, 1) := by decide +kernel
theorem dX2_becomeLike_95 : decode cX2_becomeLike 95 = .ok (.getfield 28, 3) := by decide +kernel
theorem dX2_becomeLike_98 : decode cX2_becomeLike 98 = .ok (.iconst 0, 1) := by decide +kernel
theorem dX2_becomeLike_99 : decode cX2_becomeLike 99 = .ok (.bipush 24, 2) := by decide +kernel
theorem dX2_becomeLike_101 : decode cX2_becomeLike 101 = .ok (.invokestatic 101, 3) := by decide +kernel
theorem dX2_becomeLike_104 : decode cX2_becomeLike 104 = .ok (.aload_n 1, 1) := by decide +kernel
theorem dX2_becomeLike_105 : decode cX2_becomeLike 105 = .ok (.getfield 31, 3) := by decide +kernel
theorem dX2_becomeLike_108 : decode cX2_becomeLike 108 = .ok (.iconst 0, 1) := by decide +kernel
theorem dX2_becomeLike_109 : decode cX2_becomeLike 109 = .ok (.aload_n 0, 1) := by decide +kernel
theorem dX2_becomeLike_110 : decode cX2_becomeLike 110 = .ok (.getfield 31, 3) := by decide +kernel
theorem dX2_becomeLike_113 : decode cX2_becomeLike 113 = .ok (.iconst 0, 1) := by decide +kernel
theorem dX2_becomeLike_114 : decode cX2_becomeLike 114 = .ok (.sipush 960, 3) := by decide +kernel
theorem dX2_becomeLike_117 : decode cX2_becomeLike 117 = .ok (.invokestatic 101, 3) := by decide +kernel
theorem dX2_becomeLike_120 : decode cX2_becomeLike 120 = .ok (.aload_n 0, 1) := by decide +kernel
theorem dX2_becomeLike_121 : decode cX2_becomeLike 121 = .ok (.aload_n 1, 1) := by decide +kernel
theorem dX2_becomeLike_122 : decode cX2_becomeLike 122 = .ok (.getfield 74, 3) := by decide +kernel
theorem dX2_becomeLike_125 : decode cX2_becomeLike 125 = .ok (.putfield 74, 3) := by decide +kernel
theorem dX2_becomeLike_128 : decode cX2_becomeLike 128 = .ok (.return_, 1) := by decide +kernel
set_option maxRecDepth 20000 in
theorem ggX2_worth_X2_allDues : GoodIn wsX2_worth wsX2_allDues := goodIn_r _ [8, 9, 10, 11, 12, 7, 13, 14, 15, 16, 17, 18, 19, 20, 21, 22, 23, 24, 25, 26, 27, 28, 29, 30] rfl (by decide +kernel)
set_option maxRecDepth 20000 in
theorem gX2_worth_X2_allDues : GoodIn wsX2_worth (wsV RX2 107 RX2 yX2_allDues wsX2_allDues) := goodIn_app (goodIn_of _ (by decide +kernel)) ggX2_worth_X2_allDues
theorem dX2_worth_0 : decode cX2_worth 0 = .ok (.aload_n 0, 1) := by decide +kernel
theorem dX2_worth_1 : decode cX2_worth 1 = .ok (.iload_n 1, 1) := by decide +kernel
theorem dX2_worth_2 : decode cX2_worth 2 = .ok (.invokevirtual 107, 3) := by decide +kernel
theorem dX2_worth_5 : decode cX2_worth 5 = .ok (.ldc2_w 110, 3) := by decide +kernel
theorem dX2_worth_8 : decode cX2_worth 8 = .ok (.lmul, 1) := by decide +kernel
theorem dX2_worth_9 : decode cX2_worth 9 = .ok (.aload_n 0, 1) := by decide +kernel
theorem dX2_worth_10 : decode cX2_worth 10 = .ok (.getfield 9, 3) := by decide +kernel
theorem dX2_worth_13 : decode cX2_worth 13 = .ok (.iload_n 1, 1) := by decide +kernel
theorem dX2_worth_14 : decode cX2_worth 14 = .ok (.laload, 1) := by decide +kernel
theorem dX2_worth_15 : decode cX2_worth 15 = .ok (.ladd, 1) := by decide +kernel
theorem dX2_worth_16 : decode cX2_worth 16 = .ok (.aload_n 0, 1) := by decide +kernel
theorem dX2_worth_17 : decode cX2_worth 17 = .ok (.getfield 15, 3) := by decide +kernel
theorem dX2_worth_20 : decode cX2_worth 20 = .ok (.iload_n 1, 1) := by decide +kernel
theorem dX2_worth_21 : decode cX2_worth 21 = .ok (.laload, 1) := by decide +kernel
theorem dX2_worth_22 : decode cX2_worth 22 = .ok (.lsub, 1) := by decide +kernel
theorem dX2_worth_23 : decode cX2_worth 23 = .ok (.lreturn, 1) := by decide +kernel
set_option maxRecDepth 20000 in
theorem ggX2_allDues_X2_duesOf : GoodIn wsX2_allDues wsX2_duesOf := goodIn_r _ [6, 7, 8, 9, 10, 11, 12, 13, 14, 15, 16, 17, 18, 19, 20, 21, 22, 23] rfl (by decide +kernel)
set_option maxRecDepth 20000 in
theorem gX2_allDues_X2_duesOf : GoodIn wsX2_allDues (wsV RX2 112 RX2 yX2_duesOf wsX2_duesOf) := goodIn_app (goodIn_of _ (by decide +kernel)) ggX2_allDues_X2_duesOf
theorem dX2_allDues_0 : decode cX2_allDues 0 = .ok (.aload_n 0, 1) := by decide +kernel
theorem dX2_allDues_1 : decode cX2_allDues 1 = .ok (.iload_n 1, 1) := by decide +kernel
theorem dX2_allDues_2 : decode cX2_allDues 2 = .ok (.iconst 0, 1) := by decide +kernel
theorem dX2_allDues_3 : decode cX2_allDues 3 = .ok (.aload_n 0, 1) := by decide +kernel
theorem dX2_allDues_4 : decode cX2_allDues 4 = .ok (.getfield 78, 3) := by decide +kernel
theorem dX2_allDues_7 : decode cX2_allDues 7 = .ok (.invokevirtual 112, 3) := by decide +kernel
theorem dX2_allDues_10 : decode cX2_allDues 10 = .ok (.lreturn, 1) := by decide +kernel
theorem dX2_allFilled_0 : decode cX2_allFilled 0 = .ok (.lconst 0, 1) := by decide +kernel
theorem dX2_allFilled_1 : decode cX2_allFilled 1 = .ok (.lstore_n 1, 1) := by decide +kernel
theorem dX2_allFilled_2 : decode cX2_allFilled 2 = .ok (.iconst 0, 1) := by decide +kernel
theorem dX2_allFilled_3 : decode cX2_allFilled 3 = .ok (.istore_n 3, 1) := by decide +kernel
theorem dX2_allFilled_4 : decode cX2_allFilled 4 = .ok (.iload_n 3, 1) := by decide +kernel
theorem dX2_allFilled_5 : decode cX2_allFilled 5 = .ok (.bipush 12, 2) := by decide +kernel
theorem dX2_allFilled_7 : decode cX2_allFilled 7 = .ok (.if_icmp .ge 18, 3) := by decide +kernel
theorem dX2_allFilled_10 : decode cX2_allFilled 10 = .ok (.lload_n 1, 1) := by decide +kernel
theorem dX2_allFilled_11 : decode cX2_allFilled 11 = .ok (.aload_n 0, 1) := by decide +kernel
theorem dX2_allFilled_12 : decode cX2_allFilled 12 = .ok (.getfield 18, 3) := by decide +kernel
theorem dX2_allFilled_15 : decode cX2_allFilled 15 = .ok (.iload_n 3, 1) := by decide +kernel
theorem dX2_allFilled_16 : decode cX2_allFilled 16 = .ok (.laload, 1) := by decide +kernel
theorem dX2_allFilled_17 : decode cX2_allFilled 17 = .ok (.ladd, 1) := by decide +kernel
theorem dX2_allFilled_18 : decode cX2_allFilled 18 = .ok (.lstore_n 1, 1) := by decide +kernel
theorem dX2_allFilled_19 : decode cX2_allFilled 19 = .ok (.iinc 3 1, 3) := by decide +kernel
theorem dX2_allFilled_22 : decode cX2_allFilled 22 = .ok (.goto (-18), 3) := by decide +kernel
theorem dX2_allFilled_25 : decode cX2_allFilled 25 = .ok (.lload_n 1, 1) := by decide +kernel
theorem dX2_allFilled_26 : decode cX2_allFilled 26 = .ok (.lreturn, 1) := by decide +kernel
theorem dX2_stillIn_0 : decode cX2_stillIn 0 = .ok (.aload_n 0, 1) := by decide +kernel
theorem dX2_stillIn_1 : decode cX2_stillIn 1 = .ok (.getfield 45, 3) := by decide +kernel
theorem dX2_stillIn_4 : decode cX2_stillIn 4 = .ok (.getfield 116, 3) := by decide +kernel
theorem dX2_stillIn_7 : decode cX2_stillIn 7 = .ok (.iload_n 1, 1) := by decide +kernel
theorem dX2_stillIn_8 : decode cX2_stillIn 8 = .ok (.iaload, 1) := by decide +kernel
theorem dX2_stillIn_9 : decode cX2_stillIn 9 = .ok (.iconst 1, 1) := by decide +kernel
theorem dX2_stillIn_10 : decode cX2_stillIn 10 = .ok (.if_icmp .ne 25, 3) := by decide +kernel
theorem dX2_stillIn_13 : decode cX2_stillIn 13 = .ok (.aload_n 0, 1) := by decide +kernel
theorem dX2_stillIn_14 : decode cX2_stillIn 14 = .ok (.getfield 45, 3) := by decide +kernel
theorem dX2_stillIn_17 : decode cX2_stillIn 17 = .ok (.getfield 121, 3) := by decide +kernel
theorem dX2_stillIn_20 : decode cX2_stillIn 20 = .ok (.iload_n 1, 1) := by decide +kernel
theorem dX2_stillIn_21 : decode cX2_stillIn 21 = .ok (.iaload, 1) := by decide +kernel
theorem dX2_stillIn_22 : decode cX2_stillIn 22 = .ok (.i2l, 1) := by decide +kernel
theorem dX2_stillIn_23 : decode cX2_stillIn 23 = .ok (.ldc2_w 110, 3) := by decide +kernel
theorem dX2_stillIn_26 : decode cX2_stillIn 26 = .ok (.lmul, 1) := by decide +kernel
theorem dX2_stillIn_27 : decode cX2_stillIn 27 = .ok (.aload_n 0, 1) := by decide +kernel
theorem dX2_stillIn_28 : decode cX2_stillIn 28 = .ok (.getfield 25, 3) := by decide +kernel
theorem dX2_stillIn_31 : decode cX2_stillIn 31 = .ok (.iload_n 1, 1) := by decide +kernel
theorem dX2_stillIn_32 : decode cX2_stillIn 32 = .ok (.laload, 1) := by decide +kernel
theorem dX2_stillIn_33 : decode cX2_stillIn 33 = .ok (.lsub, 1) := by decide +kernel
theorem dX2_stillIn_34 : decode cX2_stillIn 34 = .ok (.lreturn, 1) := by decide +kernel
theorem dX2_stillIn_35 : decode cX2_stillIn 35 = .ok (.lconst 0, 1) := by decide +kernel
theorem dX2_stillIn_36 : decode cX2_stillIn 36 = .ok (.lstore_n 2, 1) := by decide +kernel
theorem dX2_stillIn_37 : decode cX2_stillIn 37 = .ok (.iconst 0, 1) := by decide +kernel
theorem dX2_stillIn_38 : decode cX2_stillIn 38 = .ok (.istore 4, 2) := by decide +kernel
theorem dX2_stillIn_40 : decode cX2_stillIn 40 = .ok (.iload 4, 2) := by decide +kernel
theorem dX2_stillIn_42 : decode cX2_stillIn 42 = .ok (.bipush 40, 2) := by decide +kernel
theorem dX2_stillIn_44 : decode cX2_stillIn 44 = .ok (.if_icmp .ge 24, 3) := by decide +kernel
theorem dX2_stillIn_47 : decode cX2_stillIn 47 = .ok (.lload_n 2, 1) := by decide +kernel
theorem dX2_stillIn_48 : decode cX2_stillIn 48 = .ok (.aload_n 0, 1) := by decide +kernel
theorem dX2_stillIn_49 : decode cX2_stillIn 49 = .ok (.getfield 31, 3) := by decide +kernel
theorem dX2_stillIn_52 : decode cX2_stillIn 52 = .ok (.iload_n 1, 1) := by decide +kernel
theorem dX2_stillIn_53 : decode cX2_stillIn 53 = .ok (.bipush 40, 2) := by decide +kernel
theorem dX2_stillIn_55 : decode cX2_stillIn 55 = .ok (.imul, 1) := by decide +kernel
theorem dX2_stillIn_56 : decode cX2_stillIn 56 = .ok (.iload 4, 2) := by decide +kernel
theorem dX2_stillIn_58 : decode cX2_stillIn 58 = .ok (.iadd, 1) := by decide +kernel
theorem dX2_stillIn_59 : decode cX2_stillIn 59 = .ok (.laload, 1) := by decide +kernel
theorem dX2_stillIn_60 : decode cX2_stillIn 60 = .ok (.ladd, 1) := by decide +kernel
theorem dX2_stillIn_61 : decode cX2_stillIn 61 = .ok (.lstore_n 2, 1) := by decide +kernel
theorem dX2_stillIn_62 : decode cX2_stillIn 62 = .ok (.iinc 4 1, 3) := by decide +kernel
theorem dX2_stillIn_65 : decode cX2_stillIn 65 = .ok (.goto (-25), 3) := by decide +kernel
theorem dX2_stillIn_68 : decode cX2_stillIn 68 = .ok (.lload_n 2, 1) := by decide +kernel
theorem dX2_stillIn_69 : decode cX2_stillIn 69 = .ok (.lreturn, 1) := by decide +kernel
theorem dX2_duesOf_0 : decode cX2_duesOf 0 = .ok (.lconst 0, 1) := by decide +kernel
theorem dX2_duesOf_1 : decode cX2_duesOf 1 = .ok (.lstore 4, 2) := by decide +kernel
theorem dX2_duesOf_3 : decode cX2_duesOf 3 = .ok (.iload_n 2, 1) := by decide +kernel
theorem dX2_duesOf_4 : decode cX2_duesOf 4 = .ok (.istore 6, 2) := by decide +kernel
theorem dX2_duesOf_6 : decode cX2_duesOf 6 = .ok (.iload 6, 2) := by decide +kernel
theorem dX2_duesOf_8 : decode cX2_duesOf 8 = .ok (.iload_n 3, 1) := by decide +kernel
theorem dX2_duesOf_9 : decode cX2_duesOf 9 = .ok (.if_icmp .ge 27, 3) := by decide +kernel
theorem dX2_duesOf_12 : decode cX2_duesOf 12 = .ok (.lload 4, 2) := by decide +kernel
theorem dX2_duesOf_14 : decode cX2_duesOf 14 = .ok (.aload_n 0, 1) := by decide +kernel
theorem dX2_duesOf_15 : decode cX2_duesOf 15 = .ok (.getfield 21, 3) := by decide +kernel
theorem dX2_duesOf_18 : decode cX2_duesOf 18 = .ok (.iload_n 1, 1) := by decide +kernel
theorem dX2_duesOf_19 : decode cX2_duesOf 19 = .ok (.bipush 40, 2) := by decide +kernel
theorem dX2_duesOf_21 : decode cX2_duesOf 21 = .ok (.imul, 1) := by decide +kernel
theorem dX2_duesOf_22 : decode cX2_duesOf 22 = .ok (.iload 6, 2) := by decide +kernel
theorem dX2_duesOf_24 : decode cX2_duesOf 24 = .ok (.iadd, 1) := by decide +kernel
theorem dX2_duesOf_25 : decode cX2_duesOf 25 = .ok (.iaload, 1) := by decide +kernel
theorem dX2_duesOf_26 : decode cX2_duesOf 26 = .ok (.i2l, 1) := by decide +kernel
theorem dX2_duesOf_27 : decode cX2_duesOf 27 = .ok (.ladd, 1) := by decide +kernel
theorem dX2_duesOf_28 : decode cX2_duesOf 28 = .ok (.lstore 4, 2) := by decide +kernel
theorem dX2_duesOf_30 : decode cX2_duesOf 30 = .ok (.iinc 6 1, 3) := by decide +kernel
theorem dX2_duesOf_33 : decode cX2_duesOf 33 = .ok (.goto (-27), 3) := by decide +kernel
theorem dX2_duesOf_36 : decode cX2_duesOf 36 = .ok (.lload 4, 2) := by decide +kernel
theorem dX2_duesOf_38 : decode cX2_duesOf 38 = .ok (.lreturn, 1) := by decide +kernel
set_option maxRecDepth 20000 in
theorem ggX2_takeSentOf_X2_takeSent : GoodIn wsX2_takeSentOf wsX2_takeSent := goodIn_r _ [12, 13, 14, 15, 16, 17, 18, 19, 20, 21, 22, 23, 24, 25, 26, 27, 28, 29, 30, 31, 32, 33, 34, 35, 36, 37, 38, 39, 40, 41, 42, 43, 44, 45, 51, 52, 53, 54, 55, 56, 57, 58, 59] rfl (by decide +kernel)
set_option maxRecDepth 20000 in
theorem gX2_takeSentOf_X2_takeSent : GoodIn wsX2_takeSentOf (wsV RX2 138 RX2 yX2_takeSent wsX2_takeSent) := goodIn_app (goodIn_of _ (by decide +kernel)) ggX2_takeSentOf_X2_takeSent
theorem dX2_takeSentOf_0 : decode cX2_takeSentOf 0 = .ok (.aload_n 0, 1) := by decide +kernel
theorem dX2_takeSentOf_1 : decode cX2_takeSentOf 1 = .ok (.getfield 82, 3) := by decide +kernel
theorem dX2_takeSentOf_4 : decode cX2_takeSentOf 4 = .ok (.aload_n 0, 1) := by decide +kernel
theorem dX2_takeSentOf_5 : decode cX2_takeSentOf 5 = .ok (.getfield 55, 3) := by decide +kernel
theorem dX2_takeSentOf_8 : decode cX2_takeSentOf 8 = .ok (.getfield 124, 3) := by decide +kernel
theorem dX2_takeSentOf_11 : decode cX2_takeSentOf 11 = .ok (.if_icmp .ge 65, 3) := by decide +kernel
theorem dX2_takeSentOf_14 : decode cX2_takeSentOf 14 = .ok (.aload_n 0, 1) := by decide +kernel
theorem dX2_takeSentOf_15 : decode cX2_takeSentOf 15 = .ok (.getfield 55, 3) := by decide +kernel
theorem dX2_takeSentOf_18 : decode cX2_takeSentOf 18 = .ok (.getfield 129, 3) := by decide +kernel
theorem dX2_takeSentOf_21 : decode cX2_takeSentOf 21 = .ok (.aload_n 0, 1) := by decide +kernel
theorem dX2_takeSentOf_22 : decode cX2_takeSentOf 22 = .ok (.getfield 82, 3) := by decide +kernel
theorem dX2_takeSentOf_25 : decode cX2_takeSentOf 25 = .ok (.iaload, 1) := by decide +kernel
theorem dX2_takeSentOf_26 : decode cX2_takeSentOf 26 = .ok (.iload_n 1, 1) := by decide +kernel
theorem dX2_takeSentOf_27 : decode cX2_takeSentOf 27 = .ok (.if_icmp .ne 49, 3) := by decide +kernel
theorem dX2_takeSentOf_30 : decode cX2_takeSentOf 30 = .ok (.aload_n 0, 1) := by decide +kernel
theorem dX2_takeSentOf_31 : decode cX2_takeSentOf 31 = .ok (.aload_n 0, 1) := by decide +kernel
theorem dX2_takeSentOf_32 : decode cX2_takeSentOf 32 = .ok (.getfield 55, 3) := by decide +kernel
theorem dX2_takeSentOf_35 : decode cX2_takeSentOf 35 = .ok (.getfield 132, 3) := by decide +kernel
theorem dX2_takeSentOf_38 : decode cX2_takeSentOf 38 = .ok (.aload_n 0, 1) := by decide +kernel
theorem dX2_takeSentOf_39 : decode cX2_takeSentOf 39 = .ok (.getfield 82, 3) := by decide +kernel
theorem dX2_takeSentOf_42 : decode cX2_takeSentOf 42 = .ok (.iaload, 1) := by decide +kernel
theorem dX2_takeSentOf_43 : decode cX2_takeSentOf 43 = .ok (.aload_n 0, 1) := by decide +kernel
theorem dX2_takeSentOf_44 : decode cX2_takeSentOf 44 = .ok (.getfield 55, 3) := by decide +kernel
theorem dX2_takeSentOf_47 : decode cX2_takeSentOf 47 = .ok (.getfield 135, 3) := by decide +kernel
theorem dX2_takeSentOf_50 : decode cX2_takeSentOf 50 = .ok (.aload_n 0, 1) := by decide +kernel
theorem dX2_takeSentOf_51 : decode cX2_takeSentOf 51 = .ok (.getfield 82, 3) := by decide +kernel
theorem dX2_takeSentOf_54 : decode cX2_takeSentOf 54 = .ok (.iaload, 1) := by decide +kernel
theorem dX2_takeSentOf_55 : decode cX2_takeSentOf 55 = .ok (.i2l, 1) := by decide +kernel
theorem dX2_takeSentOf_56 : decode cX2_takeSentOf 56 = .ok (.ldc2_w 110, 3) := by decide +kernel
theorem dX2_takeSentOf_59 : decode cX2_takeSentOf 59 = .ok (.lmul, 1) := by decide +kernel
theorem dX2_takeSentOf_60 : decode cX2_takeSentOf 60 = .ok (.invokevirtual 138, 3) := by decide +kernel
theorem dX2_takeSentOf_63 : decode cX2_takeSentOf 63 = .ok (.aload_n 0, 1) := by decide +kernel
theorem dX2_takeSentOf_64 : decode cX2_takeSentOf 64 = .ok (.dup, 1) := by decide +kernel
theorem dX2_takeSentOf_65 : decode cX2_takeSentOf 65 = .ok (.getfield 82, 3) := by decide +kernel
theorem dX2_takeSentOf_68 : decode cX2_takeSentOf 68 = .ok (.iconst 1, 1) := by decide +kernel
theorem dX2_takeSentOf_69 : decode cX2_takeSentOf 69 = .ok (.iadd, 1) := by decide +kernel
theorem dX2_takeSentOf_70 : decode cX2_takeSentOf 70 = .ok (.putfield 82, 3) := by decide +kernel
theorem dX2_takeSentOf_73 : decode cX2_takeSentOf 73 = .ok (.goto (-73), 3) := by decide +kernel
theorem dX2_takeSentOf_76 : decode cX2_takeSentOf 76 = .ok (.return_, 1) := by decide +kernel
set_option maxRecDepth 20000 in
theorem ggX2_takeSent_X0_isReserveOf : GoodIn wsX2_takeSent wsX0_isReserveOf := goodIn_r _ [15, 16, 17, 34, 35, 36, 37, 38, 39, 40, 41, 42] rfl (by decide +kernel)
set_option maxRecDepth 20000 in
theorem gX2_takeSent_X0_isReserveOf : GoodIn wsX2_takeSent (wsV RX2 143 RX0 yX0_isReserveOf wsX0_isReserveOf) := goodIn_app (goodIn_of _ (by decide +kernel)) ggX2_takeSent_X0_isReserveOf
theorem dX2_takeSent_0 : decode cX2_takeSent 0 = .ok (.lload_n 2, 1) := by decide +kernel
theorem dX2_takeSent_1 : decode cX2_takeSent 1 = .ok (.lstore 4, 2) := by decide +kernel
theorem dX2_takeSent_3 : decode cX2_takeSent 3 = .ok (.iconst 0, 1) := by decide +kernel
theorem dX2_takeSent_4 : decode cX2_takeSent 4 = .ok (.istore 6, 2) := by decide +kernel
theorem dX2_takeSent_6 : decode cX2_takeSent 6 = .ok (.iload 6, 2) := by decide +kernel
theorem dX2_takeSent_8 : decode cX2_takeSent 8 = .ok (.aload_n 0, 1) := by decide +kernel
theorem dX2_takeSent_9 : decode cX2_takeSent 9 = .ok (.getfield 78, 3) := by decide +kernel
theorem dX2_takeSent_12 : decode cX2_takeSent 12 = .ok (.if_icmp .ge 95, 3) := by decide +kernel
theorem dX2_takeSent_15 : decode cX2_takeSent 15 = .ok (.lload 4, 2) := by decide +kernel
theorem dX2_takeSent_17 : decode cX2_takeSent 17 = .ok (.lconst 0, 1) := by decide +kernel
theorem dX2_takeSent_18 : decode cX2_takeSent 18 = .ok (.lcmp, 1) := by decide +kernel
theorem dX2_takeSent_19 : decode cX2_takeSent 19 = .ok (.ifCond .le 88, 3) := by decide +kernel
theorem dX2_takeSent_22 : decode cX2_takeSent 22 = .ok (.iconst 0, 1) := by decide +kernel
theorem dX2_takeSent_23 : decode cX2_takeSent 23 = .ok (.istore 7, 2) := by decide +kernel
theorem dX2_takeSent_25 : decode cX2_takeSent 25 = .ok (.iload 7, 2) := by decide +kernel
theorem dX2_takeSent_27 : decode cX2_takeSent 27 = .ok (.aload_n 0, 1) := by decide +kernel
theorem dX2_takeSent_28 : decode cX2_takeSent 28 = .ok (.getfield 45, 3) := by decide +kernel
theorem dX2_takeSent_31 : decode cX2_takeSent 31 = .ok (.getfield 142, 3) := by decide +kernel
theorem dX2_takeSent_34 : decode cX2_takeSent 34 = .ok (.if_icmp .ge 67, 3) := by decide +kernel
theorem dX2_takeSent_37 : decode cX2_takeSent 37 = .ok (.aload_n 0, 1) := by decide +kernel
theorem dX2_takeSent_38 : decode cX2_takeSent 38 = .ok (.getfield 45, 3) := by decide +kernel
theorem dX2_takeSent_41 : decode cX2_takeSent 41 = .ok (.iload 7, 2) := by decide +kernel
theorem dX2_takeSent_43 : decode cX2_takeSent 43 = .ok (.iload_n 1, 1) := by decide +kernel
theorem dX2_takeSent_44 : decode cX2_takeSent 44 = .ok (.invokevirtual 143, 3) := by decide +kernel
theorem dX2_takeSent_47 : decode cX2_takeSent 47 = .ok (.ifCond .eq 48, 3) := by decide +kernel
theorem dX2_takeSent_50 : decode cX2_takeSent 50 = .ok (.lload 4, 2) := by decide +kernel
theorem dX2_takeSent_52 : decode cX2_takeSent 52 = .ok (.aload_n 0, 1) := by decide +kernel
theorem dX2_takeSent_53 : decode cX2_takeSent 53 = .ok (.getfield 31, 3) := by decide +kernel
theorem dX2_takeSent_56 : decode cX2_takeSent 56 = .ok (.iload 7, 2) := by decide +kernel
theorem dX2_takeSent_58 : decode cX2_takeSent 58 = .ok (.bipush 40, 2) := by decide +kernel
theorem dX2_takeSent_60 : decode cX2_takeSent 60 = .ok (.imul, 1) := by decide +kernel
theorem dX2_takeSent_61 : decode cX2_takeSent 61 = .ok (.iload 6, 2) := by decide +kernel
theorem dX2_takeSent_63 : decode cX2_takeSent 63 = .ok (.iadd, 1) := by decide +kernel
theorem dX2_takeSent_64 : decode cX2_takeSent 64 = .ok (.laload, 1) := by decide +kernel
theorem dX2_takeSent_65 : decode cX2_takeSent 65 = .ok (.invokestatic 147, 3) := by decide +kernel
theorem dX2_takeSent_68 : decode cX2_takeSent 68 = .ok (.lstore 8, 2) := by decide +kernel
theorem dX2_takeSent_70 : decode cX2_takeSent 70 = .ok (.aload_n 0, 1) := by decide +kernel
theorem dX2_takeSent_71 : decode cX2_takeSent 71 = .ok (.getfield 31, 3) := by decide +kernel
theorem dX2_takeSent_74 : decode cX2_takeSent 74 = .ok (.iload 7, 2) := by decide +kernel
theorem dX2_takeSent_76 : decode cX2_takeSent 76 = .ok (.bipush 40, 2) := by decide +kernel
theorem dX2_takeSent_78 : decode cX2_takeSent 78 = .ok (.imul, 1) := by decide +kernel
theorem dX2_takeSent_79 : decode cX2_takeSent 79 = .ok (.iload 6, 2) := by decide +kernel
theorem dX2_takeSent_81 : decode cX2_takeSent 81 = .ok (.iadd, 1) := by decide +kernel
theorem dX2_takeSent_82 : decode cX2_takeSent 82 = .ok (.dup2, 1) := by decide +kernel
theorem dX2_takeSent_83 : decode cX2_takeSent 83 = .ok (.laload, 1) := by decide +kernel
theorem dX2_takeSent_84 : decode cX2_takeSent 84 = .ok (.lload 8, 2) := by decide +kernel
theorem dX2_takeSent_86 : decode cX2_takeSent 86 = .ok (.lsub, 1) := by decide +kernel
theorem dX2_takeSent_87 : decode cX2_takeSent 87 = .ok (.lastore, 1) := by decide +kernel
theorem dX2_takeSent_88 : decode cX2_takeSent 88 = .ok (.lload 4, 2) := by decide +kernel
theorem dX2_takeSent_90 : decode cX2_takeSent 90 = .ok (.lload 8, 2) := by decide +kernel
theorem dX2_takeSent_92 : decode cX2_takeSent 92 = .ok (.lsub, 1) := by decide +kernel
theorem dX2_takeSent_93 : decode cX2_takeSent 93 = .ok (.lstore 4, 2) := by decide +kernel
theorem dX2_takeSent_95 : decode cX2_takeSent 95 = .ok (.iinc 7 1, 3) := by decide +kernel
theorem dX2_takeSent_98 : decode cX2_takeSent 98 = .ok (.goto (-73), 3) := by decide +kernel
theorem dX2_takeSent_101 : decode cX2_takeSent 101 = .ok (.iinc 6 1, 3) := by decide +kernel
theorem dX2_takeSent_104 : decode cX2_takeSent 104 = .ok (.goto (-98), 3) := by decide +kernel
theorem dX2_takeSent_107 : decode cX2_takeSent 107 = .ok (.aload_n 0, 1) := by decide +kernel
theorem dX2_takeSent_108 : decode cX2_takeSent 108 = .ok (.getfield 15, 3) := by decide +kernel
theorem dX2_takeSent_111 : decode cX2_takeSent 111 = .ok (.iload_n 1, 1) := by decide +kernel
theorem dX2_takeSent_112 : decode cX2_takeSent 112 = .ok (.dup2, 1) := by decide +kernel
theorem dX2_takeSent_113 : decode cX2_takeSent 113 = .ok (.laload, 1) := by decide +kernel
theorem dX2_takeSent_114 : decode cX2_takeSent 114 = .ok (.lload 4, 2) := by decide +kernel
theorem dX2_takeSent_116 : decode cX2_takeSent 116 = .ok (.ladd, 1) := by decide +kernel
theorem dX2_takeSent_117 : decode cX2_takeSent 117 = .ok (.lastore, 1) := by decide +kernel
theorem dX2_takeSent_118 : decode cX2_takeSent 118 = .ok (.aload_n 0, 1) := by decide +kernel
theorem dX2_takeSent_119 : decode cX2_takeSent 119 = .ok (.lload 4, 2) := by decide +kernel
theorem dX2_takeSent_121 : decode cX2_takeSent 121 = .ok (.putfield 150, 3) := by decide +kernel
theorem dX2_takeSent_124 : decode cX2_takeSent 124 = .ok (.return_, 1) := by decide +kernel
set_option maxRecDepth 20000 in
theorem ggX2_closeTerm_X4_sizeOf : GoodIn wsX2_closeTerm wsX4_sizeOf := goodIn_r _ [9, 10, 150, 151, 152, 153, 154, 155] rfl (by decide +kernel)
set_option maxRecDepth 20000 in
theorem gX2_closeTerm_X4_sizeOf : GoodIn wsX2_closeTerm (wsV RX2 154 RX4 yX4_sizeOf wsX4_sizeOf) := goodIn_app (goodIn_of _ (by decide +kernel)) ggX2_closeTerm_X4_sizeOf
set_option maxRecDepth 20000 in
theorem ggX2_closeTerm_X4_workAt : GoodIn wsX2_closeTerm wsX4_workAt := goodIn_r _ [14, 15, 150, 151, 152, 153, 154, 155] rfl (by decide +kernel)
set_option maxRecDepth 20000 in
theorem gX2_closeTerm_X4_workAt : GoodIn wsX2_closeTerm (wsV RX2 160 RX4 yX4_workAt wsX4_workAt) := goodIn_app (goodIn_of _ (by decide +kernel)) ggX2_closeTerm_X4_workAt
set_option maxRecDepth 20000 in
theorem ggX2_closeTerm_X4_isOpen : GoodIn wsX2_closeTerm wsX4_isOpen := goodIn_r _ [19, 20, 150, 151, 152, 153, 154, 155] rfl (by decide +kernel)
set_option maxRecDepth 20000 in
theorem gX2_closeTerm_X4_isOpen : GoodIn wsX2_closeTerm (wsV RX2 163 RX4 yX4_isOpen wsX4_isOpen) := goodIn_app (goodIn_of _ (by decide +kernel)) ggX2_closeTerm_X4_isOpen
set_option maxRecDepth 20000 in
theorem ggX2_closeTerm_X2_bringIn : GoodIn wsX2_closeTerm wsX2_bringIn := goodIn_r _ [25, 3, 4, 26, 27, 28, 29, 30, 31, 32, 33, 34, 8, 35, 36, 37, 38, 39, 40, 41, 42, 43, 44, 24, 45, 46, 47, 48, 49, 50, 51, 52, 53, 54, 55, 56, 1, 57, 58, 59, 60, 61, 62, 63, 64, 65, 66, 67, 68, 69, 70, 71, 72, 73, 74, 75, 76, 77, 78, 79, 80, 81, 82, 83, 84, 85, 86, 87, 88, 89, 90, 91, 92, 93, 94, 95, 96, 97, 98, 99, 100, 101, 102, 103, 104, 105, 127, 128, 129, 130, 131, 132, 133, 134, 135, 136, 137, 138, 139, 140, 141, 142, 156, 157, 158, 159, 150, 151, 152, 153, 154, 155, 160, 161, 162, 163, 164, 165, 166, 167, 168, 143, 144, 145, 146, 147, 148, 149] rfl (by decide +kernel)
set_option maxRecDepth 20000 in
theorem gX2_closeTerm_X2_bringIn : GoodIn wsX2_closeTerm (wsV RX2 166 RX2 yX2_bringIn wsX2_bringIn) := goodIn_app (goodIn_of _ (by decide +kernel)) ggX2_closeTerm_X2_bringIn
set_option maxRecDepth 20000 in
theorem ggX2_closeTerm_X2_emptyOldBags : GoodIn wsX2_closeTerm wsX2_emptyOldBags := goodIn_r _ [109, 57, 58, 59, 4, 96, 64, 110, 62, 127, 128, 129, 130, 131, 132, 133, 134, 135, 136, 137, 138, 139, 140, 141, 142, 160, 161, 162, 163, 164, 165, 166, 167, 168] rfl (by decide +kernel)
set_option maxRecDepth 20000 in
theorem gX2_closeTerm_X2_emptyOldBags : GoodIn wsX2_closeTerm (wsV RX2 169 RX2 yX2_emptyOldBags wsX2_emptyOldBags) := goodIn_app (goodIn_of _ (by decide +kernel)) ggX2_closeTerm_X2_emptyOldBags
set_option maxRecDepth 20000 in
theorem ggX2_closeTerm_X2_payHands : GoodIn wsX2_closeTerm wsX2_payHands := goodIn_r _ [114, 115, 64, 92, 93, 94, 95, 28, 97, 98, 99, 116, 4, 127, 128, 129, 130, 131, 132, 133, 134, 135, 136, 137, 138, 139, 140, 141, 142] rfl (by decide +kernel)
set_option maxRecDepth 20000 in
theorem gX2_closeTerm_X2_payHands : GoodIn wsX2_closeTerm (wsV RX2 172 RX2 yX2_payHands wsX2_payHands) := goodIn_app (goodIn_of _ (by decide +kernel)) ggX2_closeTerm_X2_payHands
set_option maxRecDepth 20000 in
theorem ggX2_closeTerm_X2_fillFloors : GoodIn wsX2_closeTerm wsX2_fillFloors := goodIn_r _ [120, 57, 58, 59, 121, 110, 4, 91, 97, 98, 94, 99, 116, 122, 42, 43, 44, 24, 45, 123, 124, 125, 126, 127, 128, 129, 130, 131, 132, 133, 134, 135, 136, 137, 138, 139, 140, 141, 142, 160, 161, 162, 163, 164, 165, 166, 167, 168] rfl (by decide +kernel)
set_option maxRecDepth 20000 in
theorem gX2_closeTerm_X2_fillFloors : GoodIn wsX2_closeTerm (wsV RX2 175 RX2 yX2_fillFloors wsX2_fillFloors) := goodIn_app (goodIn_of _ (by decide +kernel)) ggX2_closeTerm_X2_fillFloors
theorem dX2_closeTerm_0 : decode cX2_closeTerm 0 = .ok (.aload_n 0, 1) := by decide +kernel
theorem dX2_closeTerm_1 : decode cX2_closeTerm 1 = .ok (.getfield 61, 3) := by decide +kernel
theorem dX2_closeTerm_4 : decode cX2_closeTerm 4 = .ok (.iconst 0, 1) := by decide +kernel
theorem dX2_closeTerm_5 : decode cX2_closeTerm 5 = .ok (.putfield 153, 3) := by decide +kernel
theorem dX2_closeTerm_8 : decode cX2_closeTerm 8 = .ok (.iconst 0, 1) := by decide +kernel
theorem dX2_closeTerm_9 : decode cX2_closeTerm 9 = .ok (.istore_n 1, 1) := by decide +kernel
theorem dX2_closeTerm_10 : decode cX2_closeTerm 10 = .ok (.iload_n 1, 1) := by decide +kernel
theorem dX2_closeTerm_11 : decode cX2_closeTerm 11 = .ok (.aload_n 0, 1) := by decide +kernel
theorem dX2_closeTerm_12 : decode cX2_closeTerm 12 = .ok (.getfield 50, 3) := by decide +kernel
theorem dX2_closeTerm_15 : decode cX2_closeTerm 15 = .ok (.aload_n 0, 1) := by decide +kernel
theorem dX2_closeTerm_16 : decode cX2_closeTerm 16 = .ok (.getfield 78, 3) := by decide +kernel
theorem dX2_closeTerm_19 : decode cX2_closeTerm 19 = .ok (.invokevirtual 154, 3) := by decide +kernel
theorem dX2_closeTerm_22 : decode cX2_closeTerm 22 = .ok (.if_icmp .ge 42, 3) := by decide +kernel
theorem dX2_closeTerm_25 : decode cX2_closeTerm 25 = .ok (.aload_n 0, 1) := by decide +kernel
theorem dX2_closeTerm_26 : decode cX2_closeTerm 26 = .ok (.getfield 50, 3) := by decide +kernel
theorem dX2_closeTerm_29 : decode cX2_closeTerm 29 = .ok (.aload_n 0, 1) := by decide +kernel
theorem dX2_closeTerm_30 : decode cX2_closeTerm 30 = .ok (.getfield 78, 3) := by decide +kernel
theorem dX2_closeTerm_33 : decode cX2_closeTerm 33 = .ok (.iload_n 1, 1) := by decide +kernel
theorem dX2_closeTerm_34 : decode cX2_closeTerm 34 = .ok (.invokevirtual 160, 3) := by decide +kernel
theorem dX2_closeTerm_37 : decode cX2_closeTerm 37 = .ok (.istore_n 2, 1) := by decide +kernel
theorem dX2_closeTerm_38 : decode cX2_closeTerm 38 = .ok (.aload_n 0, 1) := by decide +kernel
theorem dX2_closeTerm_39 : decode cX2_closeTerm 39 = .ok (.getfield 50, 3) := by decide +kernel
theorem dX2_closeTerm_42 : decode cX2_closeTerm 42 = .ok (.aload_n 0, 1) := by decide +kernel
theorem dX2_closeTerm_43 : decode cX2_closeTerm 43 = .ok (.getfield 78, 3) := by decide +kernel
theorem dX2_closeTerm_46 : decode cX2_closeTerm 46 = .ok (.iload_n 2, 1) := by decide +kernel
theorem dX2_closeTerm_47 : decode cX2_closeTerm 47 = .ok (.invokevirtual 163, 3) := by decide +kernel
theorem dX2_closeTerm_50 : decode cX2_closeTerm 50 = .ok (.ifCond .ne 8, 3) := by decide +kernel
theorem dX2_closeTerm_53 : decode cX2_closeTerm 53 = .ok (.aload_n 0, 1) := by decide +kernel
theorem dX2_closeTerm_54 : decode cX2_closeTerm 54 = .ok (.iload_n 2, 1) := by decide +kernel
theorem dX2_closeTerm_55 : decode cX2_closeTerm 55 = .ok (.invokevirtual 166, 3) := by decide +kernel
theorem dX2_closeTerm_58 : decode cX2_closeTerm 58 = .ok (.iinc 1 1, 3) := by decide +kernel
theorem dX2_closeTerm_61 : decode cX2_closeTerm 61 = .ok (.goto (-51), 3) := by decide +kernel
theorem dX2_closeTerm_64 : decode cX2_closeTerm 64 = .ok (.aload_n 0, 1) := by decide +kernel
theorem dX2_closeTerm_65 : decode cX2_closeTerm 65 = .ok (.invokevirtual 169, 3) := by decide +kernel
theorem dX2_closeTerm_68 : decode cX2_closeTerm 68 = .ok (.aload_n 0, 1) := by decide +kernel
theorem dX2_closeTerm_69 : decode cX2_closeTerm 69 = .ok (.invokevirtual 172, 3) := by decide +kernel
theorem dX2_closeTerm_72 : decode cX2_closeTerm 72 = .ok (.aload_n 0, 1) := by decide +kernel
theorem dX2_closeTerm_73 : decode cX2_closeTerm 73 = .ok (.getfield 78, 3) := by decide +kernel
theorem dX2_closeTerm_76 : decode cX2_closeTerm 76 = .ok (.iconst 4, 1) := by decide +kernel
theorem dX2_closeTerm_77 : decode cX2_closeTerm 77 = .ok (.irem, 1) := by decide +kernel
theorem dX2_closeTerm_78 : decode cX2_closeTerm 78 = .ok (.iconst 3, 1) := by decide +kernel
theorem dX2_closeTerm_79 : decode cX2_closeTerm 79 = .ok (.if_icmp .ne 7, 3) := by decide +kernel
theorem dX2_closeTerm_82 : decode cX2_closeTerm 82 = .ok (.aload_n 0, 1) := by decide +kernel
theorem dX2_closeTerm_83 : decode cX2_closeTerm 83 = .ok (.invokevirtual 175, 3) := by decide +kernel
theorem dX2_closeTerm_86 : decode cX2_closeTerm 86 = .ok (.aload_n 0, 1) := by decide +kernel
theorem dX2_closeTerm_87 : decode cX2_closeTerm 87 = .ok (.dup, 1) := by decide +kernel
theorem dX2_closeTerm_88 : decode cX2_closeTerm 88 = .ok (.getfield 78, 3) := by decide +kernel
theorem dX2_closeTerm_91 : decode cX2_closeTerm 91 = .ok (.iconst 1, 1) := by decide +kernel
theorem dX2_closeTerm_92 : decode cX2_closeTerm 92 = .ok (.iadd, 1) := by decide +kernel
theorem dX2_closeTerm_93 : decode cX2_closeTerm 93 = .ok (.putfield 78, 3) := by decide +kernel
theorem dX2_closeTerm_96 : decode cX2_closeTerm 96 = .ok (.return_, 1) := by decide +kernel
theorem dX2_lastDay_0 : decode cX2_lastDay 0 = .ok (.aload_n 0, 1) := by decide +kernel
theorem dX2_lastDay_1 : decode cX2_lastDay 1 = .ok (.getfield 78, 3) := by decide +kernel
theorem dX2_lastDay_4 : decode cX2_lastDay 4 = .ok (.bipush 90, 2) := by decide +kernel
theorem dX2_lastDay_6 : decode cX2_lastDay 6 = .ok (.imul, 1) := by decide +kernel
theorem dX2_lastDay_7 : decode cX2_lastDay 7 = .ok (.bipush 90, 2) := by decide +kernel
theorem dX2_lastDay_9 : decode cX2_lastDay 9 = .ok (.iadd, 1) := by decide +kernel
theorem dX2_lastDay_10 : decode cX2_lastDay 10 = .ok (.iconst 1, 1) := by decide +kernel
theorem dX2_lastDay_11 : decode cX2_lastDay 11 = .ok (.isub, 1) := by decide +kernel
theorem dX2_lastDay_12 : decode cX2_lastDay 12 = .ok (.ireturn, 1) := by decide +kernel
set_option maxRecDepth 20000 in
theorem ggX2_bringIn_X4_wayOf : GoodIn wsX2_bringIn wsX4_wayOf := goodIn_r _ [13, 14, 106, 107, 108, 109, 110, 111] rfl (by decide +kernel)
set_option maxRecDepth 20000 in
theorem gX2_bringIn_X4_wayOf : GoodIn wsX2_bringIn (wsV RX2 178 RX4 yX4_wayOf wsX4_wayOf) := goodIn_app (goodIn_of _ (by decide +kernel)) ggX2_bringIn_X4_wayOf
set_option maxRecDepth 20000 in
theorem ggX2_bringIn_X4_coinsOf : GoodIn wsX2_bringIn wsX4_coinsOf := goodIn_r _ [18, 19, 106, 107, 108, 109, 110, 111] rfl (by decide +kernel)
set_option maxRecDepth 20000 in
theorem gX2_bringIn_X4_coinsOf : GoodIn wsX2_bringIn (wsV RX2 181 RX4 yX4_coinsOf wsX4_coinsOf) := goodIn_app (goodIn_of _ (by decide +kernel)) ggX2_bringIn_X4_coinsOf
set_option maxRecDepth 20000 in
theorem ggX2_bringIn_X2_lastDay : GoodIn wsX2_bringIn wsX2_lastDay := goodIn_r _ [24, 2, 86, 87, 88, 89, 90, 91, 92, 93, 94, 95, 96, 97, 98, 99, 100, 101] rfl (by decide +kernel)
set_option maxRecDepth 20000 in
theorem gX2_bringIn_X2_lastDay : GoodIn wsX2_bringIn (wsV RX2 185 RX2 yX2_lastDay wsX2_lastDay) := goodIn_app (goodIn_of _ (by decide +kernel)) ggX2_bringIn_X2_lastDay
set_option maxRecDepth 20000 in
theorem ggX2_bringIn_X6_setAt : GoodIn wsX2_bringIn wsX6_setAt := goodIn_r _ [29, 30, 31, 102, 103, 104, 105] rfl (by decide +kernel)
set_option maxRecDepth 20000 in
theorem gX2_bringIn_X6_setAt : GoodIn wsX2_bringIn (wsV RX2 189 RX6 yX6_setAt wsX6_setAt) := goodIn_app (goodIn_of _ (by decide +kernel)) ggX2_bringIn_X6_setAt
set_option maxRecDepth 20000 in
theorem ggX2_bringIn_X2_runLine : GoodIn wsX2_bringIn wsX2_runLine := goodIn_r _ [35, 36, 37, 38, 39, 40, 41, 42, 2, 43, 44, 45, 46, 47, 48, 49, 50, 51, 52, 53, 54, 55, 56, 57, 58, 20, 21, 22, 23, 24, 59, 60, 61, 62, 63, 64, 65, 66, 67, 68, 69, 70, 71, 7, 5, 72, 73, 74, 75, 76, 77, 78, 79, 80, 32, 33, 34, 81, 82, 83, 84, 85, 86, 87, 88, 89, 90, 91, 92, 93, 94, 95, 96, 97, 98, 99, 100, 101, 112, 113, 114, 115, 116, 117, 118, 119, 120, 121, 122, 123, 124, 125, 126, 127] rfl (by decide +kernel)
set_option maxRecDepth 20000 in
theorem gX2_bringIn_X2_runLine : GoodIn wsX2_bringIn (wsV RX2 200 RX2 yX2_runLine wsX2_runLine) := goodIn_app (goodIn_of _ (by decide +kernel)) ggX2_bringIn_X2_runLine
theorem dX2_bringIn_0 : decode cX2_bringIn 0 = .ok (.aload_n 0, 1) := by decide +kernel
theorem dX2_bringIn_1 : decode cX2_bringIn 1 = .ok (.getfield 50, 3) := by decide +kernel
theorem dX2_bringIn_4 : decode cX2_bringIn 4 = .ok (.aload_n 0, 1) := by decide +kernel
theorem dX2_bringIn_5 : decode cX2_bringIn 5 = .ok (.getfield 78, 3) := by decide +kernel
theorem dX2_bringIn_8 : decode cX2_bringIn 8 = .ok (.iload_n 1, 1) := by decide +kernel
theorem dX2_bringIn_9 : decode cX2_bringIn 9 = .ok (.invokevirtual 178, 3) := by decide +kernel
theorem dX2_bringIn_12 : decode cX2_bringIn 12 = .ok (.iconst 2, 1) := by decide +kernel
theorem dX2_bringIn_13 : decode cX2_bringIn 13 = .ok (.if_icmp .ne 7, 3) := by decide +kernel
theorem dX2_bringIn_16 : decode cX2_bringIn 16 = .ok (.iconst 3, 1) := by decide +kernel
theorem dX2_bringIn_17 : decode cX2_bringIn 17 = .ok (.goto 4, 3) := by decide +kernel
theorem dX2_bringIn_20 : decode cX2_bringIn 20 = .ok (.iconst 1, 1) := by decide +kernel
theorem dX2_bringIn_21 : decode cX2_bringIn 21 = .ok (.istore_n 2, 1) := by decide +kernel
theorem dX2_bringIn_22 : decode cX2_bringIn 22 = .ok (.iconst 0, 1) := by decide +kernel
theorem dX2_bringIn_23 : decode cX2_bringIn 23 = .ok (.istore_n 3, 1) := by decide +kernel
theorem dX2_bringIn_24 : decode cX2_bringIn 24 = .ok (.iload_n 3, 1) := by decide +kernel
theorem dX2_bringIn_25 : decode cX2_bringIn 25 = .ok (.iload_n 2, 1) := by decide +kernel
theorem dX2_bringIn_26 : decode cX2_bringIn 26 = .ok (.if_icmp .ge 132, 3) := by decide +kernel
theorem dX2_bringIn_29 : decode cX2_bringIn 29 = .ok (.aload_n 0, 1) := by decide +kernel
theorem dX2_bringIn_30 : decode cX2_bringIn 30 = .ok (.getfield 50, 3) := by decide +kernel
theorem dX2_bringIn_33 : decode cX2_bringIn 33 = .ok (.aload_n 0, 1) := by decide +kernel
theorem dX2_bringIn_34 : decode cX2_bringIn 34 = .ok (.getfield 78, 3) := by decide +kernel
theorem dX2_bringIn_37 : decode cX2_bringIn 37 = .ok (.iload_n 1, 1) := by decide +kernel
theorem dX2_bringIn_38 : decode cX2_bringIn 38 = .ok (.iload_n 3, 1) := by decide +kernel
theorem dX2_bringIn_39 : decode cX2_bringIn 39 = .ok (.invokevirtual 181, 3) := by decide +kernel
theorem dX2_bringIn_42 : decode cX2_bringIn 42 = .ok (.i2l, 1) := by decide +kernel
theorem dX2_bringIn_43 : decode cX2_bringIn 43 = .ok (.lstore 4, 2) := by decide +kernel
theorem dX2_bringIn_45 : decode cX2_bringIn 45 = .ok (.aload_n 0, 1) := by decide +kernel
theorem dX2_bringIn_46 : decode cX2_bringIn 46 = .ok (.getfield 40, 3) := by decide +kernel
theorem dX2_bringIn_49 : decode cX2_bringIn 49 = .ok (.iload_n 1, 1) := by decide +kernel
theorem dX2_bringIn_50 : decode cX2_bringIn 50 = .ok (.aload_n 0, 1) := by decide +kernel
theorem dX2_bringIn_51 : decode cX2_bringIn 51 = .ok (.invokevirtual 185, 3) := by decide +kernel
theorem dX2_bringIn_54 : decode cX2_bringIn 54 = .ok (.iload_n 2, 1) := by decide +kernel
theorem dX2_bringIn_55 : decode cX2_bringIn 55 = .ok (.iconst 1, 1) := by decide +kernel
theorem dX2_bringIn_56 : decode cX2_bringIn 56 = .ok (.isub, 1) := by decide +kernel
theorem dX2_bringIn_57 : decode cX2_bringIn 57 = .ok (.iload_n 3, 1) := by decide +kernel
theorem dX2_bringIn_58 : decode cX2_bringIn 58 = .ok (.isub, 1) := by decide +kernel
theorem dX2_bringIn_59 : decode cX2_bringIn 59 = .ok (.bipush 30, 2) := by decide +kernel
theorem dX2_bringIn_61 : decode cX2_bringIn 61 = .ok (.imul, 1) := by decide +kernel
theorem dX2_bringIn_62 : decode cX2_bringIn 62 = .ok (.isub, 1) := by decide +kernel
theorem dX2_bringIn_63 : decode cX2_bringIn 63 = .ok (.invokevirtual 189, 3) := by decide +kernel
theorem dX2_bringIn_66 : decode cX2_bringIn 66 = .ok (.istore 6, 2) := by decide +kernel
theorem dX2_bringIn_68 : decode cX2_bringIn 68 = .ok (.aload_n 0, 1) := by decide +kernel
theorem dX2_bringIn_69 : decode cX2_bringIn 69 = .ok (.dup, 1) := by decide +kernel
theorem dX2_bringIn_70 : decode cX2_bringIn 70 = .ok (.getfield 74, 3) := by decide +kernel
theorem dX2_bringIn_73 : decode cX2_bringIn 73 = .ok (.lload 4, 2) := by decide +kernel
theorem dX2_bringIn_75 : decode cX2_bringIn 75 = .ok (.ldc2_w 110, 3) := by decide +kernel
theorem dX2_bringIn_78 : decode cX2_bringIn 78 = .ok (.lmul, 1) := by decide +kernel
theorem dX2_bringIn_79 : decode cX2_bringIn 79 = .ok (.ladd, 1) := by decide +kernel
theorem dX2_bringIn_80 : decode cX2_bringIn 80 = .ok (.putfield 74, 3) := by decide +kernel
theorem dX2_bringIn_83 : decode cX2_bringIn 83 = .ok (.iload 6, 2) := by decide +kernel
theorem dX2_bringIn_85 : decode cX2_bringIn 85 = .ok (.iconst 3, 1) := by decide +kernel
theorem dX2_bringIn_86 : decode cX2_bringIn 86 = .ok (.imul, 1) := by decide +kernel
theorem dX2_bringIn_87 : decode cX2_bringIn 87 = .ok (.istore 7, 2) := by decide +kernel
theorem dX2_bringIn_89 : decode cX2_bringIn 89 = .ok (.iload 7, 2) := by decide +kernel
theorem dX2_bringIn_91 : decode cX2_bringIn 91 = .ok (.iload 6, 2) := by decide +kernel
theorem dX2_bringIn_93 : decode cX2_bringIn 93 = .ok (.iconst 1, 1) := by decide +kernel
theorem dX2_bringIn_94 : decode cX2_bringIn 94 = .ok (.iadd, 1) := by decide +kernel
theorem dX2_bringIn_95 : decode cX2_bringIn 95 = .ok (.iconst 3, 1) := by decide +kernel
theorem dX2_bringIn_96 : decode cX2_bringIn 96 = .ok (.imul, 1) := by decide +kernel
theorem dX2_bringIn_97 : decode cX2_bringIn 97 = .ok (.if_icmp .ge 55, 3) := by decide +kernel
theorem dX2_bringIn_100 : decode cX2_bringIn 100 = .ok (.lload 4, 2) := by decide +kernel
theorem dX2_bringIn_102 : decode cX2_bringIn 102 = .ok (.aload_n 0, 1) := by decide +kernel
theorem dX2_bringIn_103 : decode cX2_bringIn 103 = .ok (.getfield 40, 3) := by decide +kernel
theorem dX2_bringIn_106 : decode cX2_bringIn 106 = .ok (.getfield 194, 3) := by decide +kernel
theorem dX2_bringIn_109 : decode cX2_bringIn 109 = .ok (.iload 7, 2) := by decide +kernel
theorem dX2_bringIn_111 : decode cX2_bringIn 111 = .ok (.iaload, 1) := by decide +kernel
theorem dX2_bringIn_112 : decode cX2_bringIn 112 = .ok (.i2l, 1) := by decide +kernel
theorem dX2_bringIn_113 : decode cX2_bringIn 113 = .ok (.lmul, 1) := by decide +kernel
theorem dX2_bringIn_114 : decode cX2_bringIn 114 = .ok (.ldc2_w 197, 3) := by decide +kernel
theorem dX2_bringIn_117 : decode cX2_bringIn 117 = .ok (.lmul, 1) := by decide +kernel
theorem dX2_bringIn_118 : decode cX2_bringIn 118 = .ok (.lstore 8, 2) := by decide +kernel
theorem dX2_bringIn_120 : decode cX2_bringIn 120 = .ok (.lload 8, 2) := by decide +kernel
theorem dX2_bringIn_122 : decode cX2_bringIn 122 = .ok (.lconst 0, 1) := by decide +kernel
theorem dX2_bringIn_123 : decode cX2_bringIn 123 = .ok (.lcmp, 1) := by decide +kernel
theorem dX2_bringIn_124 : decode cX2_bringIn 124 = .ok (.ifCond .le 22, 3) := by decide +kernel
theorem dX2_bringIn_127 : decode cX2_bringIn 127 = .ok (.aload_n 0, 1) := by decide +kernel
theorem dX2_bringIn_128 : decode cX2_bringIn 128 = .ok (.iload_n 1, 1) := by decide +kernel
theorem dX2_bringIn_129 : decode cX2_bringIn 129 = .ok (.aload_n 0, 1) := by decide +kernel
theorem dX2_bringIn_130 : decode cX2_bringIn 130 = .ok (.getfield 40, 3) := by decide +kernel
theorem dX2_bringIn_133 : decode cX2_bringIn 133 = .ok (.getfield 199, 3) := by decide +kernel
theorem dX2_bringIn_136 : decode cX2_bringIn 136 = .ok (.iload 7, 2) := by decide +kernel
theorem dX2_bringIn_138 : decode cX2_bringIn 138 = .ok (.iaload, 1) := by decide +kernel
theorem dX2_bringIn_139 : decode cX2_bringIn 139 = .ok (.iconst (-1), 1) := by decide +kernel
theorem dX2_bringIn_140 : decode cX2_bringIn 140 = .ok (.iconst 0, 1) := by decide +kernel
theorem dX2_bringIn_141 : decode cX2_bringIn 141 = .ok (.lload 8, 2) := by decide +kernel
theorem dX2_bringIn_143 : decode cX2_bringIn 143 = .ok (.invokevirtual 200, 3) := by decide +kernel
theorem dX2_bringIn_146 : decode cX2_bringIn 146 = .ok (.iinc 7 1, 3) := by decide +kernel
theorem dX2_bringIn_149 : decode cX2_bringIn 149 = .ok (.goto (-60), 3) := by decide +kernel
theorem dX2_bringIn_152 : decode cX2_bringIn 152 = .ok (.iinc 3 1, 3) := by decide +kernel
theorem dX2_bringIn_155 : decode cX2_bringIn 155 = .ok (.goto (-131), 3) := by decide +kernel
theorem dX2_bringIn_158 : decode cX2_bringIn 158 = .ok (.return_, 1) := by decide +kernel
set_option maxRecDepth 20000 in
theorem ggX2_runLine_X3_begin : GoodIn wsX2_runLine wsX3_begin := goodIn_r _ [15, 16, 17, 18, 19, 20, 21, 87, 88, 89, 90, 91, 92, 93] rfl (by decide +kernel)
set_option maxRecDepth 20000 in
theorem gX2_runLine_X3_begin : GoodIn wsX2_runLine (wsV RX2 204 RX3 yX3_begin wsX3_begin) := goodIn_app (goodIn_of _ (by decide +kernel)) ggX2_runLine_X3_begin
set_option maxRecDepth 20000 in
theorem ggX2_runLine_X7_passesOn : GoodIn wsX2_runLine wsX7_passesOn := goodIn_r _ [24] rfl (by decide +kernel)
set_option maxRecDepth 20000 in
theorem gX2_runLine_X7_passesOn_n208 : GoodIn wsX2_runLine (wsX7_passesOn) := ggX2_runLine_X7_passesOn
set_option maxRecDepth 20000 in
theorem ggX2_runLine_X2_lastDay : GoodIn wsX2_runLine wsX2_lastDay := goodIn_r _ [29, 8, 62, 63, 64, 65, 66, 67, 68, 69, 70, 71, 72, 73, 74, 75, 76, 77] rfl (by decide +kernel)
set_option maxRecDepth 20000 in
theorem gX2_runLine_X2_lastDay : GoodIn wsX2_runLine (wsV RX2 185 RX2 yX2_lastDay wsX2_lastDay) := goodIn_app (goodIn_of _ (by decide +kernel)) ggX2_runLine_X2_lastDay
set_option maxRecDepth 20000 in
theorem ggX2_runLine_X0_holdsFor : GoodIn wsX2_runLine wsX0_holdsFor := goodIn_r _ [34, 35, 36, 37, 78, 79, 80, 81, 82, 83, 84, 85, 86] rfl (by decide +kernel)
set_option maxRecDepth 20000 in
theorem gX2_runLine_X0_holdsFor : GoodIn wsX2_runLine (wsV RX2 212 RX0 yX0_holdsFor wsX0_holdsFor) := goodIn_app (goodIn_of _ (by decide +kernel)) ggX2_runLine_X0_holdsFor
set_option maxRecDepth 20000 in
theorem ggX2_runLine_X2_takenBy : GoodIn wsX2_runLine wsX2_takenBy := goodIn_r _ [41, 2, 42, 4, 43, 44, 6, 45, 46, 47, 48, 49, 5, 50, 51, 52, 53, 62, 63, 64, 65, 66, 67, 68, 69, 70, 71, 72, 73, 74, 75, 76, 77, 78, 79, 80, 81, 82, 83, 84, 85, 86] rfl (by decide +kernel)
set_option maxRecDepth 20000 in
theorem gX2_runLine_X2_takenBy : GoodIn wsX2_runLine (wsV RX2 216 RX2 yX2_takenBy wsX2_takenBy) := goodIn_app (goodIn_of _ (by decide +kernel)) ggX2_runLine_X2_takenBy
set_option maxRecDepth 20000 in
theorem ggX2_runLine_X2_runLine : GoodIn wsX2_runLine wsX2_runLine := goodIn_r _ [0, 1, 2, 3, 4, 5, 6, 7, 8, 9, 10, 11, 12, 13, 14, 15, 16, 17, 18, 19, 20, 21, 22, 23, 24, 25, 26, 27, 28, 29, 30, 31, 32, 33, 34, 35, 36, 37, 38, 39, 40, 41, 42, 43, 44, 45, 46, 47, 48, 49, 50, 51, 52, 53, 54, 55, 56, 57, 58, 59, 60, 61, 62, 63, 64, 65, 66, 67, 68, 69, 70, 71, 72, 73, 74, 75, 76, 77, 78, 79, 80, 81, 82, 83, 84, 85, 86, 87, 88, 89, 90, 91, 92, 93] rfl (by decide +kernel)
set_option maxRecDepth 20000 in
theorem gX2_runLine_X2_runLine : GoodIn wsX2_runLine (wsV RX2 200 RX2 yX2_runLine wsX2_runLine) := goodIn_app (goodIn_of _ (by decide +kernel)) ggX2_runLine_X2_runLine
set_option maxRecDepth 20000 in
theorem ggX2_runLine_X3_end : GoodIn wsX2_runLine wsX3_end := goodIn_r _ [60, 17, 61, 87, 88, 89, 90, 91, 92, 93] rfl (by decide +kernel)
set_option maxRecDepth 20000 in
theorem gX2_runLine_X3_end : GoodIn wsX2_runLine (wsV RX2 223 RX3 yX3_end wsX3_end) := goodIn_app (goodIn_of _ (by decide +kernel)) ggX2_runLine_X3_end
theorem dX2_runLine_0 : decode cX2_runLine 0 = .ok (.aload_n 0, 1) := by decide +kernel
theorem dX2_runLine_1 : decode cX2_runLine 1 = .ok (.getfield 61, 3) := by decide +kernel
theorem dX2_runLine_4 : decode cX2_runLine 4 = .ok (.iload_n 1, 1) := by decide +kernel
theorem dX2_runLine_5 : decode cX2_runLine 5 = .ok (.iload_n 2, 1) := by decide +kernel
theorem dX2_runLine_6 : decode cX2_runLine 6 = .ok (.iload_n 3, 1) := by decide +kernel
theorem dX2_runLine_7 : decode cX2_runLine 7 = .ok (.lload 5, 2) := by decide +kernel
theorem dX2_runLine_9 : decode cX2_runLine 9 = .ok (.invokevirtual 204, 3) := by decide +kernel
theorem dX2_runLine_12 : decode cX2_runLine 12 = .ok (.istore 7, 2) := by decide +kernel
theorem dX2_runLine_14 : decode cX2_runLine 14 = .ok (.lload 5, 2) := by decide +kernel
theorem dX2_runLine_16 : decode cX2_runLine 16 = .ok (.lstore 8, 2) := by decide +kernel
theorem dX2_runLine_18 : decode cX2_runLine 18 = .ok (.iload_n 3, 1) := by decide +kernel
theorem dX2_runLine_19 : decode cX2_runLine 19 = .ok (.iconst 1, 1) := by decide +kernel
theorem dX2_runLine_20 : decode cX2_runLine 20 = .ok (.iadd, 1) := by decide +kernel
theorem dX2_runLine_21 : decode cX2_runLine 21 = .ok (.istore 10, 2) := by decide +kernel
theorem dX2_runLine_23 : decode cX2_runLine 23 = .ok (.iload 10, 2) := by decide +kernel
theorem dX2_runLine_25 : decode cX2_runLine 25 = .ok (.aload_n 0, 1) := by decide +kernel
theorem dX2_runLine_26 : decode cX2_runLine 26 = .ok (.getfield 45, 3) := by decide +kernel
theorem dX2_runLine_29 : decode cX2_runLine 29 = .ok (.getfield 142, 3) := by decide +kernel
theorem dX2_runLine_32 : decode cX2_runLine 32 = .ok (.if_icmp .ge 185, 3) := by decide +kernel
theorem dX2_runLine_35 : decode cX2_runLine 35 = .ok (.lload 8, 2) := by decide +kernel
theorem dX2_runLine_37 : decode cX2_runLine 37 = .ok (.lconst 0, 1) := by decide +kernel
theorem dX2_runLine_38 : decode cX2_runLine 38 = .ok (.lcmp, 1) := by decide +kernel
theorem dX2_runLine_39 : decode cX2_runLine 39 = .ok (.ifCond .le 178, 3) := by decide +kernel
theorem dX2_runLine_42 : decode cX2_runLine 42 = .ok (.aload_n 0, 1) := by decide +kernel
theorem dX2_runLine_43 : decode cX2_runLine 43 = .ok (.getfield 45, 3) := by decide +kernel
theorem dX2_runLine_46 : decode cX2_runLine 46 = .ok (.getfield 116, 3) := by decide +kernel
theorem dX2_runLine_49 : decode cX2_runLine 49 = .ok (.iload 10, 2) := by decide +kernel
theorem dX2_runLine_51 : decode cX2_runLine 51 = .ok (.iaload, 1) := by decide +kernel
theorem dX2_runLine_52 : decode cX2_runLine 52 = .ok (.invokestatic 208, 3) := by decide +kernel
theorem dX2_runLine_55 : decode cX2_runLine 55 = .ok (.istore 11, 2) := by decide +kernel
theorem dX2_runLine_57 : decode cX2_runLine 57 = .ok (.iload 11, 2) := by decide +kernel
theorem dX2_runLine_59 : decode cX2_runLine 59 = .ok (.ifCond .eq 13, 3) := by decide +kernel
theorem dX2_runLine_62 : decode cX2_runLine 62 = .ok (.iload 4, 2) := by decide +kernel
theorem dX2_runLine_64 : decode cX2_runLine 64 = .ok (.iconst 2, 1) := by decide +kernel
theorem dX2_runLine_65 : decode cX2_runLine 65 = .ok (.if_icmp .lt 7, 3) := by decide +kernel
theorem dX2_runLine_68 : decode cX2_runLine 68 = .ok (.iconst 1, 1) := by decide +kernel
theorem dX2_runLine_69 : decode cX2_runLine 69 = .ok (.goto 4, 3) := by decide +kernel
theorem dX2_runLine_72 : decode cX2_runLine 72 = .ok (.iconst 0, 1) := by decide +kernel
theorem dX2_runLine_73 : decode cX2_runLine 73 = .ok (.istore 12, 2) := by decide +kernel
theorem dX2_runLine_75 : decode cX2_runLine 75 = .ok (.iload 12, 2) := by decide +kernel
theorem dX2_runLine_77 : decode cX2_runLine 77 = .ok (.ifCond .ne 134, 3) := by decide +kernel
theorem dX2_runLine_80 : decode cX2_runLine 80 = .ok (.aload_n 0, 1) := by decide +kernel
theorem dX2_runLine_81 : decode cX2_runLine 81 = .ok (.getfield 45, 3) := by decide +kernel
theorem dX2_runLine_84 : decode cX2_runLine 84 = .ok (.iload 10, 2) := by decide +kernel
theorem dX2_runLine_86 : decode cX2_runLine 86 = .ok (.iload_n 2, 1) := by decide +kernel
theorem dX2_runLine_87 : decode cX2_runLine 87 = .ok (.iload_n 1, 1) := by decide +kernel
theorem dX2_runLine_88 : decode cX2_runLine 88 = .ok (.aload_n 0, 1) := by decide +kernel
theorem dX2_runLine_89 : decode cX2_runLine 89 = .ok (.invokevirtual 185, 3) := by decide +kernel
theorem dX2_runLine_92 : decode cX2_runLine 92 = .ok (.invokevirtual 212, 3) := by decide +kernel
theorem dX2_runLine_95 : decode cX2_runLine 95 = .ok (.ifCond .ne 6, 3) := by decide +kernel
theorem dX2_runLine_98 : decode cX2_runLine 98 = .ok (.goto 113, 3) := by decide +kernel
theorem dX2_runLine_101 : decode cX2_runLine 101 = .ok (.aload_n 0, 1) := by decide +kernel
theorem dX2_runLine_102 : decode cX2_runLine 102 = .ok (.iload 10, 2) := by decide +kernel
theorem dX2_runLine_104 : decode cX2_runLine 104 = .ok (.lload 8, 2) := by decide +kernel
theorem dX2_runLine_106 : decode cX2_runLine 106 = .ok (.invokevirtual 216, 3) := by decide +kernel
theorem dX2_runLine_109 : decode cX2_runLine 109 = .ok (.lstore 13, 2) := by decide +kernel
theorem dX2_runLine_111 : decode cX2_runLine 111 = .ok (.aload_n 0, 1) := by decide +kernel
theorem dX2_runLine_112 : decode cX2_runLine 112 = .ok (.getfield 28, 3) := by decide +kernel
theorem dX2_runLine_115 : decode cX2_runLine 115 = .ok (.iload 10, 2) := by decide +kernel
theorem dX2_runLine_117 : decode cX2_runLine 117 = .ok (.dup2, 1) := by decide +kernel
theorem dX2_runLine_118 : decode cX2_runLine 118 = .ok (.laload, 1) := by decide +kernel
theorem dX2_runLine_119 : decode cX2_runLine 119 = .ok (.lload 8, 2) := by decide +kernel
theorem dX2_runLine_121 : decode cX2_runLine 121 = .ok (.ladd, 1) := by decide +kernel
theorem dX2_runLine_122 : decode cX2_runLine 122 = .ok (.lastore, 1) := by decide +kernel
theorem dX2_runLine_123 : decode cX2_runLine 123 = .ok (.aload_n 0, 1) := by decide +kernel
theorem dX2_runLine_124 : decode cX2_runLine 124 = .ok (.getfield 25, 3) := by decide +kernel
theorem dX2_runLine_127 : decode cX2_runLine 127 = .ok (.iload 10, 2) := by decide +kernel
theorem dX2_runLine_129 : decode cX2_runLine 129 = .ok (.dup2, 1) := by decide +kernel
theorem dX2_runLine_130 : decode cX2_runLine 130 = .ok (.laload, 1) := by decide +kernel
theorem dX2_runLine_131 : decode cX2_runLine 131 = .ok (.lload 13, 2) := by decide +kernel
theorem dX2_runLine_133 : decode cX2_runLine 133 = .ok (.ladd, 1) := by decide +kernel
theorem dX2_runLine_134 : decode cX2_runLine 134 = .ok (.lastore, 1) := by decide +kernel
theorem dX2_runLine_135 : decode cX2_runLine 135 = .ok (.lload 8, 2) := by decide +kernel
theorem dX2_runLine_137 : decode cX2_runLine 137 = .ok (.lload 13, 2) := by decide +kernel
theorem dX2_runLine_139 : decode cX2_runLine 139 = .ok (.lsub, 1) := by decide +kernel
theorem dX2_runLine_140 : decode cX2_runLine 140 = .ok (.lstore 8, 2) := by decide +kernel
theorem dX2_runLine_142 : decode cX2_runLine 142 = .ok (.aload_n 0, 1) := by decide +kernel
theorem dX2_runLine_143 : decode cX2_runLine 143 = .ok (.getfield 45, 3) := by decide +kernel
theorem dX2_runLine_146 : decode cX2_runLine 146 = .ok (.getfield 116, 3) := by decide +kernel
theorem dX2_runLine_149 : decode cX2_runLine 149 = .ok (.iload 10, 2) := by decide +kernel
theorem dX2_runLine_151 : decode cX2_runLine 151 = .ok (.iaload, 1) := by decide +kernel
theorem dX2_runLine_152 : decode cX2_runLine 152 = .ok (.iconst 4, 1) := by decide +kernel
theorem dX2_runLine_153 : decode cX2_runLine 153 = .ok (.if_icmp .ne 23, 3) := by decide +kernel
theorem dX2_runLine_156 : decode cX2_runLine 156 = .ok (.aload_n 0, 1) := by decide +kernel
theorem dX2_runLine_157 : decode cX2_runLine 157 = .ok (.getfield 31, 3) := by decide +kernel
theorem dX2_runLine_160 : decode cX2_runLine 160 = .ok (.iload 10, 2) := by decide +kernel
theorem dX2_runLine_162 : decode cX2_runLine 162 = .ok (.bipush 40, 2) := by decide +kernel
theorem dX2_runLine_164 : decode cX2_runLine 164 = .ok (.imul, 1) := by decide +kernel
theorem dX2_runLine_165 : decode cX2_runLine 165 = .ok (.aload_n 0, 1) := by decide +kernel
theorem dX2_runLine_166 : decode cX2_runLine 166 = .ok (.getfield 78, 3) := by decide +kernel
theorem dX2_runLine_169 : decode cX2_runLine 169 = .ok (.iadd, 1) := by decide +kernel
theorem dX2_runLine_170 : decode cX2_runLine 170 = .ok (.dup2, 1) := by decide +kernel
theorem dX2_runLine_171 : decode cX2_runLine 171 = .ok (.laload, 1) := by decide +kernel
theorem dX2_runLine_172 : decode cX2_runLine 172 = .ok (.lload 13, 2) := by decide +kernel
theorem dX2_runLine_174 : decode cX2_runLine 174 = .ok (.ladd, 1) := by decide +kernel
theorem dX2_runLine_175 : decode cX2_runLine 175 = .ok (.lastore, 1) := by decide +kernel
theorem dX2_runLine_176 : decode cX2_runLine 176 = .ok (.iload 11, 2) := by decide +kernel
theorem dX2_runLine_178 : decode cX2_runLine 178 = .ok (.ifCond .eq 33, 3) := by decide +kernel
theorem dX2_runLine_181 : decode cX2_runLine 181 = .ok (.lload 13, 2) := by decide +kernel
theorem dX2_runLine_183 : decode cX2_runLine 183 = .ok (.lconst 0, 1) := by decide +kernel
theorem dX2_runLine_184 : decode cX2_runLine 184 = .ok (.lcmp, 1) := by decide +kernel
theorem dX2_runLine_185 : decode cX2_runLine 185 = .ok (.ifCond .le 26, 3) := by decide +kernel
theorem dX2_runLine_188 : decode cX2_runLine 188 = .ok (.aload_n 0, 1) := by decide +kernel
theorem dX2_runLine_189 : decode cX2_runLine 189 = .ok (.iload_n 1, 1) := by decide +kernel
theorem dX2_runLine_190 : decode cX2_runLine 190 = .ok (.aload_n 0, 1) := by decide +kernel
theorem dX2_runLine_191 : decode cX2_runLine 191 = .ok (.getfield 45, 3) := by decide +kernel
theorem dX2_runLine_194 : decode cX2_runLine 194 = .ok (.getfield 220, 3) := by decide +kernel
theorem dX2_runLine_197 : decode cX2_runLine 197 = .ok (.iload 10, 2) := by decide +kernel
theorem dX2_runLine_199 : decode cX2_runLine 199 = .ok (.iaload, 1) := by decide +kernel
theorem dX2_runLine_200 : decode cX2_runLine 200 = .ok (.iload 10, 2) := by decide +kernel
theorem dX2_runLine_202 : decode cX2_runLine 202 = .ok (.iload 4, 2) := by decide +kernel
theorem dX2_runLine_204 : decode cX2_runLine 204 = .ok (.iconst 1, 1) := by decide +kernel
theorem dX2_runLine_205 : decode cX2_runLine 205 = .ok (.iadd, 1) := by decide +kernel
theorem dX2_runLine_206 : decode cX2_runLine 206 = .ok (.lload 13, 2) := by decide +kernel
theorem dX2_runLine_208 : decode cX2_runLine 208 = .ok (.invokevirtual 200, 3) := by decide +kernel
theorem dX2_runLine_211 : decode cX2_runLine 211 = .ok (.iinc 10 1, 3) := by decide +kernel
theorem dX2_runLine_214 : decode cX2_runLine 214 = .ok (.goto (-191), 3) := by decide +kernel
theorem dX2_runLine_217 : decode cX2_runLine 217 = .ok (.aload_n 0, 1) := by decide +kernel
theorem dX2_runLine_218 : decode cX2_runLine 218 = .ok (.getfield 9, 3) := by decide +kernel
theorem dX2_runLine_221 : decode cX2_runLine 221 = .ok (.iload_n 2, 1) := by decide +kernel
theorem dX2_runLine_222 : decode cX2_runLine 222 = .ok (.dup2, 1) := by decide +kernel
theorem dX2_runLine_223 : decode cX2_runLine 223 = .ok (.laload, 1) := by decide +kernel
theorem dX2_runLine_224 : decode cX2_runLine 224 = .ok (.lload 8, 2) := by decide +kernel
theorem dX2_runLine_226 : decode cX2_runLine 226 = .ok (.ladd, 1) := by decide +kernel
theorem dX2_runLine_227 : decode cX2_runLine 227 = .ok (.lastore, 1) := by decide +kernel
theorem dX2_runLine_228 : decode cX2_runLine 228 = .ok (.aload_n 0, 1) := by decide +kernel
theorem dX2_runLine_229 : decode cX2_runLine 229 = .ok (.getfield 61, 3) := by decide +kernel
theorem dX2_runLine_232 : decode cX2_runLine 232 = .ok (.iload 7, 2) := by decide +kernel
theorem dX2_runLine_234 : decode cX2_runLine 234 = .ok (.lload 8, 2) := by decide +kernel
theorem dX2_runLine_236 : decode cX2_runLine 236 = .ok (.invokevirtual 223, 3) := by decide +kernel
theorem dX2_runLine_239 : decode cX2_runLine 239 = .ok (.return_, 1) := by decide +kernel
theorem dX2_takenBy_0 : decode cX2_takenBy 0 = .ok (.aload_n 0, 1) := by decide +kernel
theorem dX2_takenBy_1 : decode cX2_takenBy 1 = .ok (.getfield 45, 3) := by decide +kernel
theorem dX2_takenBy_4 : decode cX2_takenBy 4 = .ok (.getfield 121, 3) := by decide +kernel
theorem dX2_takenBy_7 : decode cX2_takenBy 7 = .ok (.iload_n 1, 1) := by decide +kernel
theorem dX2_takenBy_8 : decode cX2_takenBy 8 = .ok (.iaload, 1) := by decide +kernel
theorem dX2_takenBy_9 : decode cX2_takenBy 9 = .ok (.i2l, 1) := by decide +kernel
theorem dX2_takenBy_10 : decode cX2_takenBy 10 = .ok (.lstore 4, 2) := by decide +kernel
theorem dX2_takenBy_12 : decode cX2_takenBy 12 = .ok (.aload_n 0, 1) := by decide +kernel
theorem dX2_takenBy_13 : decode cX2_takenBy 13 = .ok (.getfield 45, 3) := by decide +kernel
theorem dX2_takenBy_16 : decode cX2_takenBy 16 = .ok (.getfield 116, 3) := by decide +kernel
theorem dX2_takenBy_19 : decode cX2_takenBy 19 = .ok (.iload_n 1, 1) := by decide +kernel
theorem dX2_takenBy_20 : decode cX2_takenBy 20 = .ok (.iaload, 1) := by decide +kernel
theorem dX2_takenBy_21 : decode cX2_takenBy 21 = .ok (.tableswitch 123 0 4 #[35, 44, 123, 62, 35], 35) := by decide +kernel
theorem dX2_takenBy_56 : decode cX2_takenBy 56 = .ok (.lload_n 2, 1) := by decide +kernel
theorem dX2_takenBy_57 : decode cX2_takenBy 57 = .ok (.lload 4, 2) := by decide +kernel
theorem dX2_takenBy_59 : decode cX2_takenBy 59 = .ok (.lmul, 1) := by decide +kernel
theorem dX2_takenBy_60 : decode cX2_takenBy 60 = .ok (.ldc2_w 197, 3) := by decide +kernel
theorem dX2_takenBy_63 : decode cX2_takenBy 63 = .ok (.ldiv, 1) := by decide +kernel
theorem dX2_takenBy_64 : decode cX2_takenBy 64 = .ok (.lreturn, 1) := by decide +kernel
theorem dX2_takenBy_65 : decode cX2_takenBy 65 = .ok (.lload_n 2, 1) := by decide +kernel
theorem dX2_takenBy_66 : decode cX2_takenBy 66 = .ok (.lload 4, 2) := by decide +kernel
theorem dX2_takenBy_68 : decode cX2_takenBy 68 = .ok (.ldc2_w 110, 3) := by decide +kernel
theorem dX2_takenBy_71 : decode cX2_takenBy 71 = .ok (.lmul, 1) := by decide +kernel
theorem dX2_takenBy_72 : decode cX2_takenBy 72 = .ok (.aload_n 0, 1) := by decide +kernel
theorem dX2_takenBy_73 : decode cX2_takenBy 73 = .ok (.getfield 25, 3) := by decide +kernel
theorem dX2_takenBy_76 : decode cX2_takenBy 76 = .ok (.iload_n 1, 1) := by decide +kernel
theorem dX2_takenBy_77 : decode cX2_takenBy 77 = .ok (.laload, 1) := by decide +kernel
theorem dX2_takenBy_78 : decode cX2_takenBy 78 = .ok (.lsub, 1) := by decide +kernel
theorem dX2_takenBy_79 : decode cX2_takenBy 79 = .ok (.invokestatic 147, 3) := by decide +kernel
theorem dX2_takenBy_82 : decode cX2_takenBy 82 = .ok (.lreturn, 1) := by decide +kernel
theorem dX2_takenBy_83 : decode cX2_takenBy 83 = .ok (.lload_n 2, 1) := by decide +kernel
theorem dX2_takenBy_84 : decode cX2_takenBy 84 = .ok (.lconst 0, 1) := by decide +kernel
theorem dX2_takenBy_85 : decode cX2_takenBy 85 = .ok (.aload_n 0, 1) := by decide +kernel
theorem dX2_takenBy_86 : decode cX2_takenBy 86 = .ok (.getfield 45, 3) := by decide +kernel
theorem dX2_takenBy_89 : decode cX2_takenBy 89 = .ok (.getfield 226, 3) := by decide +kernel
theorem dX2_takenBy_92 : decode cX2_takenBy 92 = .ok (.iload_n 1, 1) := by decide +kernel
theorem dX2_takenBy_93 : decode cX2_takenBy 93 = .ok (.iaload, 1) := by decide +kernel
theorem dX2_takenBy_94 : decode cX2_takenBy 94 = .ok (.i2l, 1) := by decide +kernel
theorem dX2_takenBy_95 : decode cX2_takenBy 95 = .ok (.ldc2_w 110, 3) := by decide +kernel
theorem dX2_takenBy_98 : decode cX2_takenBy 98 = .ok (.lmul, 1) := by decide +kernel
theorem dX2_takenBy_99 : decode cX2_takenBy 99 = .ok (.aload_n 0, 1) := by decide +kernel
theorem dX2_takenBy_100 : decode cX2_takenBy 100 = .ok (.getfield 28, 3) := by decide +kernel
theorem dX2_takenBy_103 : decode cX2_takenBy 103 = .ok (.iload_n 1, 1) := by decide +kernel
theorem dX2_takenBy_104 : decode cX2_takenBy 104 = .ok (.laload, 1) := by decide +kernel
theorem dX2_takenBy_105 : decode cX2_takenBy 105 = .ok (.lsub, 1) := by decide +kernel
theorem dX2_takenBy_106 : decode cX2_takenBy 106 = .ok (.invokestatic 229, 3) := by decide +kernel
theorem dX2_takenBy_109 : decode cX2_takenBy 109 = .ok (.invokestatic 147, 3) := by decide +kernel
theorem dX2_takenBy_112 : decode cX2_takenBy 112 = .ok (.lstore 6, 2) := by decide +kernel
theorem dX2_takenBy_114 : decode cX2_takenBy 114 = .ok (.lload 6, 2) := by decide +kernel
theorem dX2_takenBy_116 : decode cX2_takenBy 116 = .ok (.lload 4, 2) := by decide +kernel
theorem dX2_takenBy_118 : decode cX2_takenBy 118 = .ok (.lmul, 1) := by decide +kernel
theorem dX2_takenBy_119 : decode cX2_takenBy 119 = .ok (.ldc2_w 197, 3) := by decide +kernel
theorem dX2_takenBy_122 : decode cX2_takenBy 122 = .ok (.ldiv, 1) := by decide +kernel
theorem dX2_takenBy_123 : decode cX2_takenBy 123 = .ok (.lload_n 2, 1) := by decide +kernel
theorem dX2_takenBy_124 : decode cX2_takenBy 124 = .ok (.lload 6, 2) := by decide +kernel
theorem dX2_takenBy_126 : decode cX2_takenBy 126 = .ok (.lsub, 1) := by decide +kernel
theorem dX2_takenBy_127 : decode cX2_takenBy 127 = .ok (.aload_n 0, 1) := by decide +kernel
theorem dX2_takenBy_128 : decode cX2_takenBy 128 = .ok (.getfield 45, 3) := by decide +kernel
theorem dX2_takenBy_131 : decode cX2_takenBy 131 = .ok (.getfield 232, 3) := by decide +kernel
theorem dX2_takenBy_134 : decode cX2_takenBy 134 = .ok (.iload_n 1, 1) := by decide +kernel
theorem dX2_takenBy_135 : decode cX2_takenBy 135 = .ok (.iaload, 1) := by decide +kernel
theorem dX2_takenBy_136 : decode cX2_takenBy 136 = .ok (.i2l, 1) := by decide +kernel
theorem dX2_takenBy_137 : decode cX2_takenBy 137 = .ok (.lmul, 1) := by decide +kernel
theorem dX2_takenBy_138 : decode cX2_takenBy 138 = .ok (.ldc2_w 197, 3) := by decide +kernel
theorem dX2_takenBy_141 : decode cX2_takenBy 141 = .ok (.ldiv, 1) := by decide +kernel
theorem dX2_takenBy_142 : decode cX2_takenBy 142 = .ok (.ladd, 1) := by decide +kernel
theorem dX2_takenBy_143 : decode cX2_takenBy 143 = .ok (.lreturn, 1) := by decide +kernel
theorem dX2_takenBy_144 : decode cX2_takenBy 144 = .ok (.lconst 0, 1) := by decide +kernel
theorem dX2_takenBy_145 : decode cX2_takenBy 145 = .ok (.lreturn, 1) := by decide +kernel
theorem dX2_emptyOldBags_0 : decode cX2_emptyOldBags 0 = .ok (.iconst 0, 1) := by decide +kernel
theorem dX2_emptyOldBags_1 : decode cX2_emptyOldBags 1 = .ok (.istore_n 1, 1) := by decide +kernel
theorem dX2_emptyOldBags_2 : decode cX2_emptyOldBags 2 = .ok (.iload_n 1, 1) := by decide +kernel
theorem dX2_emptyOldBags_3 : decode cX2_emptyOldBags 3 = .ok (.aload_n 0, 1) := by decide +kernel
theorem dX2_emptyOldBags_4 : decode cX2_emptyOldBags 4 = .ok (.getfield 45, 3) := by decide +kernel
theorem dX2_emptyOldBags_7 : decode cX2_emptyOldBags 7 = .ok (.getfield 142, 3) := by decide +kernel
theorem dX2_emptyOldBags_10 : decode cX2_emptyOldBags 10 = .ok (.if_icmp .ge 88, 3) := by decide +kernel
theorem dX2_emptyOldBags_13 : decode cX2_emptyOldBags 13 = .ok (.aload_n 0, 1) := by decide +kernel
theorem dX2_emptyOldBags_14 : decode cX2_emptyOldBags 14 = .ok (.getfield 45, 3) := by decide +kernel
theorem dX2_emptyOldBags_17 : decode cX2_emptyOldBags 17 = .ok (.getfield 116, 3) := by decide +kernel
theorem dX2_emptyOldBags_20 : decode cX2_emptyOldBags 20 = .ok (.iload_n 1, 1) := by decide +kernel
theorem dX2_emptyOldBags_21 : decode cX2_emptyOldBags 21 = .ok (.iaload, 1) := by decide +kernel
theorem dX2_emptyOldBags_22 : decode cX2_emptyOldBags 22 = .ok (.iconst 4, 1) := by decide +kernel
theorem dX2_emptyOldBags_23 : decode cX2_emptyOldBags 23 = .ok (.if_icmp .ne 69, 3) := by decide +kernel
theorem dX2_emptyOldBags_26 : decode cX2_emptyOldBags 26 = .ok (.aload_n 0, 1) := by decide +kernel
theorem dX2_emptyOldBags_27 : decode cX2_emptyOldBags 27 = .ok (.getfield 78, 3) := by decide +kernel
theorem dX2_emptyOldBags_30 : decode cX2_emptyOldBags 30 = .ok (.aload_n 0, 1) := by decide +kernel
theorem dX2_emptyOldBags_31 : decode cX2_emptyOldBags 31 = .ok (.getfield 45, 3) := by decide +kernel
theorem dX2_emptyOldBags_34 : decode cX2_emptyOldBags 34 = .ok (.getfield 226, 3) := by decide +kernel
theorem dX2_emptyOldBags_37 : decode cX2_emptyOldBags 37 = .ok (.iload_n 1, 1) := by decide +kernel
theorem dX2_emptyOldBags_38 : decode cX2_emptyOldBags 38 = .ok (.iaload, 1) := by decide +kernel
theorem dX2_emptyOldBags_39 : decode cX2_emptyOldBags 39 = .ok (.if_icmp .lt 53, 3) := by decide +kernel
theorem dX2_emptyOldBags_42 : decode cX2_emptyOldBags 42 = .ok (.iload_n 1, 1) := by decide +kernel
theorem dX2_emptyOldBags_43 : decode cX2_emptyOldBags 43 = .ok (.bipush 40, 2) := by decide +kernel
theorem dX2_emptyOldBags_45 : decode cX2_emptyOldBags 45 = .ok (.imul, 1) := by decide +kernel
theorem dX2_emptyOldBags_46 : decode cX2_emptyOldBags 46 = .ok (.aload_n 0, 1) := by decide +kernel
theorem dX2_emptyOldBags_47 : decode cX2_emptyOldBags 47 = .ok (.getfield 78, 3) := by decide +kernel
theorem dX2_emptyOldBags_50 : decode cX2_emptyOldBags 50 = .ok (.iadd, 1) := by decide +kernel
theorem dX2_emptyOldBags_51 : decode cX2_emptyOldBags 51 = .ok (.aload_n 0, 1) := by decide +kernel
theorem dX2_emptyOldBags_52 : decode cX2_emptyOldBags 52 = .ok (.getfield 45, 3) := by decide +kernel
theorem dX2_emptyOldBags_55 : decode cX2_emptyOldBags 55 = .ok (.getfield 226, 3) := by decide +kernel
theorem dX2_emptyOldBags_58 : decode cX2_emptyOldBags 58 = .ok (.iload_n 1, 1) := by decide +kernel
theorem dX2_emptyOldBags_59 : decode cX2_emptyOldBags 59 = .ok (.iaload, 1) := by decide +kernel
theorem dX2_emptyOldBags_60 : decode cX2_emptyOldBags 60 = .ok (.isub, 1) := by decide +kernel
theorem dX2_emptyOldBags_61 : decode cX2_emptyOldBags 61 = .ok (.istore_n 2, 1) := by decide +kernel
theorem dX2_emptyOldBags_62 : decode cX2_emptyOldBags 62 = .ok (.aload_n 0, 1) := by decide +kernel
theorem dX2_emptyOldBags_63 : decode cX2_emptyOldBags 63 = .ok (.getfield 9, 3) := by decide +kernel
theorem dX2_emptyOldBags_66 : decode cX2_emptyOldBags 66 = .ok (.aload_n 0, 1) := by decide +kernel
theorem dX2_emptyOldBags_67 : decode cX2_emptyOldBags 67 = .ok (.getfield 45, 3) := by decide +kernel
theorem dX2_emptyOldBags_70 : decode cX2_emptyOldBags 70 = .ok (.getfield 235, 3) := by decide +kernel
theorem dX2_emptyOldBags_73 : decode cX2_emptyOldBags 73 = .ok (.iload_n 1, 1) := by decide +kernel
theorem dX2_emptyOldBags_74 : decode cX2_emptyOldBags 74 = .ok (.iaload, 1) := by decide +kernel
theorem dX2_emptyOldBags_75 : decode cX2_emptyOldBags 75 = .ok (.dup2, 1) := by decide +kernel
theorem dX2_emptyOldBags_76 : decode cX2_emptyOldBags 76 = .ok (.laload, 1) := by decide +kernel
theorem dX2_emptyOldBags_77 : decode cX2_emptyOldBags 77 = .ok (.aload_n 0, 1) := by decide +kernel
theorem dX2_emptyOldBags_78 : decode cX2_emptyOldBags 78 = .ok (.getfield 31, 3) := by decide +kernel
theorem dX2_emptyOldBags_81 : decode cX2_emptyOldBags 81 = .ok (.iload_n 2, 1) := by decide +kernel
theorem dX2_emptyOldBags_82 : decode cX2_emptyOldBags 82 = .ok (.laload, 1) := by decide +kernel
theorem dX2_emptyOldBags_83 : decode cX2_emptyOldBags 83 = .ok (.ladd, 1) := by decide +kernel
theorem dX2_emptyOldBags_84 : decode cX2_emptyOldBags 84 = .ok (.lastore, 1) := by decide +kernel
theorem dX2_emptyOldBags_85 : decode cX2_emptyOldBags 85 = .ok (.aload_n 0, 1) := by decide +kernel
theorem dX2_emptyOldBags_86 : decode cX2_emptyOldBags 86 = .ok (.getfield 31, 3) := by decide +kernel
theorem dX2_emptyOldBags_89 : decode cX2_emptyOldBags 89 = .ok (.iload_n 2, 1) := by decide +kernel
theorem dX2_emptyOldBags_90 : decode cX2_emptyOldBags 90 = .ok (.lconst 0, 1) := by decide +kernel
theorem dX2_emptyOldBags_91 : decode cX2_emptyOldBags 91 = .ok (.lastore, 1) := by decide +kernel
theorem dX2_emptyOldBags_92 : decode cX2_emptyOldBags 92 = .ok (.iinc 1 1, 3) := by decide +kernel
theorem dX2_emptyOldBags_95 : decode cX2_emptyOldBags 95 = .ok (.goto (-93), 3) := by decide +kernel
theorem dX2_emptyOldBags_98 : decode cX2_emptyOldBags 98 = .ok (.return_, 1) := by decide +kernel
theorem dX2_payHands_0 : decode cX2_payHands 0 = .ok (.iconst 0, 1) := by decide +kernel
theorem dX2_payHands_1 : decode cX2_payHands 1 = .ok (.istore_n 1, 1) := by decide +kernel
theorem dX2_payHands_2 : decode cX2_payHands 2 = .ok (.iload_n 1, 1) := by decide +kernel
theorem dX2_payHands_3 : decode cX2_payHands 3 = .ok (.bipush 12, 2) := by decide +kernel
theorem dX2_payHands_5 : decode cX2_payHands 5 = .ok (.if_icmp .ge 112, 3) := by decide +kernel
theorem dX2_payHands_8 : decode cX2_payHands 8 = .ok (.aload_n 0, 1) := by decide +kernel
theorem dX2_payHands_9 : decode cX2_payHands 9 = .ok (.getfield 15, 3) := by decide +kernel
theorem dX2_payHands_12 : decode cX2_payHands 12 = .ok (.iload_n 1, 1) := by decide +kernel
theorem dX2_payHands_13 : decode cX2_payHands 13 = .ok (.laload, 1) := by decide +kernel
theorem dX2_payHands_14 : decode cX2_payHands 14 = .ok (.lconst 0, 1) := by decide +kernel
theorem dX2_payHands_15 : decode cX2_payHands 15 = .ok (.lcmp, 1) := by decide +kernel
theorem dX2_payHands_16 : decode cX2_payHands 16 = .ok (.ifCond .le 50, 3) := by decide +kernel
theorem dX2_payHands_19 : decode cX2_payHands 19 = .ok (.aload_n 0, 1) := by decide +kernel
theorem dX2_payHands_20 : decode cX2_payHands 20 = .ok (.getfield 9, 3) := by decide +kernel
theorem dX2_payHands_23 : decode cX2_payHands 23 = .ok (.iload_n 1, 1) := by decide +kernel
theorem dX2_payHands_24 : decode cX2_payHands 24 = .ok (.laload, 1) := by decide +kernel
theorem dX2_payHands_25 : decode cX2_payHands 25 = .ok (.lconst 0, 1) := by decide +kernel
theorem dX2_payHands_26 : decode cX2_payHands 26 = .ok (.lcmp, 1) := by decide +kernel
theorem dX2_payHands_27 : decode cX2_payHands 27 = .ok (.ifCond .le 39, 3) := by decide +kernel
theorem dX2_payHands_30 : decode cX2_payHands 30 = .ok (.aload_n 0, 1) := by decide +kernel
theorem dX2_payHands_31 : decode cX2_payHands 31 = .ok (.getfield 15, 3) := by decide +kernel
theorem dX2_payHands_34 : decode cX2_payHands 34 = .ok (.iload_n 1, 1) := by decide +kernel
theorem dX2_payHands_35 : decode cX2_payHands 35 = .ok (.laload, 1) := by decide +kernel
theorem dX2_payHands_36 : decode cX2_payHands 36 = .ok (.aload_n 0, 1) := by decide +kernel
theorem dX2_payHands_37 : decode cX2_payHands 37 = .ok (.getfield 9, 3) := by decide +kernel
theorem dX2_payHands_40 : decode cX2_payHands 40 = .ok (.iload_n 1, 1) := by decide +kernel
theorem dX2_payHands_41 : decode cX2_payHands 41 = .ok (.laload, 1) := by decide +kernel
theorem dX2_payHands_42 : decode cX2_payHands 42 = .ok (.invokestatic 147, 3) := by decide +kernel
theorem dX2_payHands_45 : decode cX2_payHands 45 = .ok (.lstore_n 2, 1) := by decide +kernel
theorem dX2_payHands_46 : decode cX2_payHands 46 = .ok (.aload_n 0, 1) := by decide +kernel
theorem dX2_payHands_47 : decode cX2_payHands 47 = .ok (.getfield 9, 3) := by decide +kernel
theorem dX2_payHands_50 : decode cX2_payHands 50 = .ok (.iload_n 1, 1) := by decide +kernel
theorem dX2_payHands_51 : decode cX2_payHands 51 = .ok (.dup2, 1) := by decide +kernel
theorem dX2_payHands_52 : decode cX2_payHands 52 = .ok (.laload, 1) := by decide +kernel
theorem dX2_payHands_53 : decode cX2_payHands 53 = .ok (.lload_n 2, 1) := by decide +kernel
theorem dX2_payHands_54 : decode cX2_payHands 54 = .ok (.lsub, 1) := by decide +kernel
theorem dX2_payHands_55 : decode cX2_payHands 55 = .ok (.lastore, 1) := by decide +kernel
theorem dX2_payHands_56 : decode cX2_payHands 56 = .ok (.aload_n 0, 1) := by decide +kernel
theorem dX2_payHands_57 : decode cX2_payHands 57 = .ok (.getfield 15, 3) := by decide +kernel
theorem dX2_payHands_60 : decode cX2_payHands 60 = .ok (.iload_n 1, 1) := by decide +kernel
theorem dX2_payHands_61 : decode cX2_payHands 61 = .ok (.dup2, 1) := by decide +kernel
theorem dX2_payHands_62 : decode cX2_payHands 62 = .ok (.laload, 1) := by decide +kernel
theorem dX2_payHands_63 : decode cX2_payHands 63 = .ok (.lload_n 2, 1) := by decide +kernel
theorem dX2_payHands_64 : decode cX2_payHands 64 = .ok (.lsub, 1) := by decide +kernel
theorem dX2_payHands_65 : decode cX2_payHands 65 = .ok (.lastore, 1) := by decide +kernel
theorem dX2_payHands_66 : decode cX2_payHands 66 = .ok (.lconst 0, 1) := by decide +kernel
theorem dX2_payHands_67 : decode cX2_payHands 67 = .ok (.aload_n 0, 1) := by decide +kernel
theorem dX2_payHands_68 : decode cX2_payHands 68 = .ok (.getfield 9, 3) := by decide +kernel
theorem dX2_payHands_71 : decode cX2_payHands 71 = .ok (.iload_n 1, 1) := by decide +kernel
theorem dX2_payHands_72 : decode cX2_payHands 72 = .ok (.laload, 1) := by decide +kernel
theorem dX2_payHands_73 : decode cX2_payHands 73 = .ok (.ldc2_w 110, 3) := by decide +kernel
theorem dX2_payHands_76 : decode cX2_payHands 76 = .ok (.ldiv, 1) := by decide +kernel
theorem dX2_payHands_77 : decode cX2_payHands 77 = .ok (.invokestatic 229, 3) := by decide +kernel
theorem dX2_payHands_80 : decode cX2_payHands 80 = .ok (.lstore_n 2, 1) := by decide +kernel
theorem dX2_payHands_81 : decode cX2_payHands 81 = .ok (.aload_n 0, 1) := by decide +kernel
theorem dX2_payHands_82 : decode cX2_payHands 82 = .ok (.getfield 9, 3) := by decide +kernel
theorem dX2_payHands_85 : decode cX2_payHands 85 = .ok (.iload_n 1, 1) := by decide +kernel
theorem dX2_payHands_86 : decode cX2_payHands 86 = .ok (.dup2, 1) := by decide +kernel
theorem dX2_payHands_87 : decode cX2_payHands 87 = .ok (.laload, 1) := by decide +kernel
theorem dX2_payHands_88 : decode cX2_payHands 88 = .ok (.lload_n 2, 1) := by decide +kernel
theorem dX2_payHands_89 : decode cX2_payHands 89 = .ok (.ldc2_w 110, 3) := by decide +kernel
theorem dX2_payHands_92 : decode cX2_payHands 92 = .ok (.lmul, 1) := by decide +kernel
theorem dX2_payHands_93 : decode cX2_payHands 93 = .ok (.lsub, 1) := by decide +kernel
theorem dX2_payHands_94 : decode cX2_payHands 94 = .ok (.lastore, 1) := by decide +kernel
theorem dX2_payHands_95 : decode cX2_payHands 95 = .ok (.aload_n 0, 1) := by decide +kernel
theorem dX2_payHands_96 : decode cX2_payHands 96 = .ok (.getfield 21, 3) := by decide +kernel
theorem dX2_payHands_99 : decode cX2_payHands 99 = .ok (.iload_n 1, 1) := by decide +kernel
theorem dX2_payHands_100 : decode cX2_payHands 100 = .ok (.bipush 40, 2) := by decide +kernel
theorem dX2_payHands_102 : decode cX2_payHands 102 = .ok (.imul, 1) := by decide +kernel
theorem dX2_payHands_103 : decode cX2_payHands 103 = .ok (.aload_n 0, 1) := by decide +kernel
theorem dX2_payHands_104 : decode cX2_payHands 104 = .ok (.getfield 78, 3) := by decide +kernel
theorem dX2_payHands_107 : decode cX2_payHands 107 = .ok (.iadd, 1) := by decide +kernel
theorem dX2_payHands_108 : decode cX2_payHands 108 = .ok (.lload_n 2, 1) := by decide +kernel
theorem dX2_payHands_109 : decode cX2_payHands 109 = .ok (.l2i, 1) := by decide +kernel
theorem dX2_payHands_110 : decode cX2_payHands 110 = .ok (.iastore, 1) := by decide +kernel
theorem dX2_payHands_111 : decode cX2_payHands 111 = .ok (.iinc 1 1, 3) := by decide +kernel
theorem dX2_payHands_114 : decode cX2_payHands 114 = .ok (.goto (-112), 3) := by decide +kernel
theorem dX2_payHands_117 : decode cX2_payHands 117 = .ok (.return_, 1) := by decide +kernel
set_option maxRecDepth 20000 in
theorem ggX2_fillFloors_X2_lastDay : GoodIn wsX2_fillFloors wsX2_lastDay := goodIn_r _ [18, 6, 23, 24, 25, 26, 27, 28, 29, 30, 31, 32, 33, 34, 35, 36, 37, 38] rfl (by decide +kernel)
set_option maxRecDepth 20000 in
theorem gX2_fillFloors_X2_lastDay : GoodIn wsX2_fillFloors (wsV RX2 185 RX2 yX2_lastDay wsX2_lastDay) := goodIn_app (goodIn_of _ (by decide +kernel)) ggX2_fillFloors_X2_lastDay
set_option maxRecDepth 20000 in
theorem ggX2_fillFloors_X2_duesOf : GoodIn wsX2_fillFloors wsX2_duesOf := goodIn_r _ [22, 12, 23, 24, 25, 26, 27, 28, 29, 30, 31, 32, 33, 34, 35, 36, 37, 38] rfl (by decide +kernel)
set_option maxRecDepth 20000 in
theorem gX2_fillFloors_X2_duesOf : GoodIn wsX2_fillFloors (wsV RX2 112 RX2 yX2_duesOf wsX2_duesOf) := goodIn_app (goodIn_of _ (by decide +kernel)) ggX2_fillFloors_X2_duesOf
theorem dX2_fillFloors_0 : decode cX2_fillFloors 0 = .ok (.iconst 0, 1) := by decide +kernel
theorem dX2_fillFloors_1 : decode cX2_fillFloors 1 = .ok (.istore_n 1, 1) := by decide +kernel
theorem dX2_fillFloors_2 : decode cX2_fillFloors 2 = .ok (.iload_n 1, 1) := by decide +kernel
theorem dX2_fillFloors_3 : decode cX2_fillFloors 3 = .ok (.aload_n 0, 1) := by decide +kernel
theorem dX2_fillFloors_4 : decode cX2_fillFloors 4 = .ok (.getfield 45, 3) := by decide +kernel
theorem dX2_fillFloors_7 : decode cX2_fillFloors 7 = .ok (.getfield 142, 3) := by decide +kernel
theorem dX2_fillFloors_10 : decode cX2_fillFloors 10 = .ok (.if_icmp .ge 117, 3) := by decide +kernel
theorem dX2_fillFloors_13 : decode cX2_fillFloors 13 = .ok (.aload_n 0, 1) := by decide +kernel
theorem dX2_fillFloors_14 : decode cX2_fillFloors 14 = .ok (.getfield 45, 3) := by decide +kernel
theorem dX2_fillFloors_17 : decode cX2_fillFloors 17 = .ok (.getfield 116, 3) := by decide +kernel
theorem dX2_fillFloors_20 : decode cX2_fillFloors 20 = .ok (.iload_n 1, 1) := by decide +kernel
theorem dX2_fillFloors_21 : decode cX2_fillFloors 21 = .ok (.iaload, 1) := by decide +kernel
theorem dX2_fillFloors_22 : decode cX2_fillFloors 22 = .ok (.iconst 2, 1) := by decide +kernel
theorem dX2_fillFloors_23 : decode cX2_fillFloors 23 = .ok (.if_icmp .ne 98, 3) := by decide +kernel
theorem dX2_fillFloors_26 : decode cX2_fillFloors 26 = .ok (.aload_n 0, 1) := by decide +kernel
theorem dX2_fillFloors_27 : decode cX2_fillFloors 27 = .ok (.getfield 45, 3) := by decide +kernel
theorem dX2_fillFloors_30 : decode cX2_fillFloors 30 = .ok (.getfield 236, 3) := by decide +kernel
theorem dX2_fillFloors_33 : decode cX2_fillFloors 33 = .ok (.iload_n 1, 1) := by decide +kernel
theorem dX2_fillFloors_34 : decode cX2_fillFloors 34 = .ok (.iaload, 1) := by decide +kernel
theorem dX2_fillFloors_35 : decode cX2_fillFloors 35 = .ok (.aload_n 0, 1) := by decide +kernel
theorem dX2_fillFloors_36 : decode cX2_fillFloors 36 = .ok (.invokevirtual 185, 3) := by decide +kernel
theorem dX2_fillFloors_39 : decode cX2_fillFloors 39 = .ok (.if_icmp .gt 82, 3) := by decide +kernel
theorem dX2_fillFloors_42 : decode cX2_fillFloors 42 = .ok (.aload_n 0, 1) := by decide +kernel
theorem dX2_fillFloors_43 : decode cX2_fillFloors 43 = .ok (.getfield 45, 3) := by decide +kernel
theorem dX2_fillFloors_46 : decode cX2_fillFloors 46 = .ok (.getfield 235, 3) := by decide +kernel
theorem dX2_fillFloors_49 : decode cX2_fillFloors 49 = .ok (.iload_n 1, 1) := by decide +kernel
theorem dX2_fillFloors_50 : decode cX2_fillFloors 50 = .ok (.iaload, 1) := by decide +kernel
theorem dX2_fillFloors_51 : decode cX2_fillFloors 51 = .ok (.istore_n 2, 1) := by decide +kernel
theorem dX2_fillFloors_52 : decode cX2_fillFloors 52 = .ok (.aload_n 0, 1) := by decide +kernel
theorem dX2_fillFloors_53 : decode cX2_fillFloors 53 = .ok (.iload_n 2, 1) := by decide +kernel
theorem dX2_fillFloors_54 : decode cX2_fillFloors 54 = .ok (.aload_n 0, 1) := by decide +kernel
theorem dX2_fillFloors_55 : decode cX2_fillFloors 55 = .ok (.getfield 78, 3) := by decide +kernel
theorem dX2_fillFloors_58 : decode cX2_fillFloors 58 = .ok (.iconst 4, 1) := by decide +kernel
theorem dX2_fillFloors_59 : decode cX2_fillFloors 59 = .ok (.isub, 1) := by decide +kernel
theorem dX2_fillFloors_60 : decode cX2_fillFloors 60 = .ok (.iconst 1, 1) := by decide +kernel
theorem dX2_fillFloors_61 : decode cX2_fillFloors 61 = .ok (.iadd, 1) := by decide +kernel
theorem dX2_fillFloors_62 : decode cX2_fillFloors 62 = .ok (.aload_n 0, 1) := by decide +kernel
theorem dX2_fillFloors_63 : decode cX2_fillFloors 63 = .ok (.getfield 78, 3) := by decide +kernel
theorem dX2_fillFloors_66 : decode cX2_fillFloors 66 = .ok (.iconst 1, 1) := by decide +kernel
theorem dX2_fillFloors_67 : decode cX2_fillFloors 67 = .ok (.iadd, 1) := by decide +kernel
theorem dX2_fillFloors_68 : decode cX2_fillFloors 68 = .ok (.invokevirtual 112, 3) := by decide +kernel
theorem dX2_fillFloors_71 : decode cX2_fillFloors 71 = .ok (.lstore_n 3, 1) := by decide +kernel
theorem dX2_fillFloors_72 : decode cX2_fillFloors 72 = .ok (.lconst 0, 1) := by decide +kernel
theorem dX2_fillFloors_73 : decode cX2_fillFloors 73 = .ok (.aload_n 0, 1) := by decide +kernel
theorem dX2_fillFloors_74 : decode cX2_fillFloors 74 = .ok (.getfield 45, 3) := by decide +kernel
theorem dX2_fillFloors_77 : decode cX2_fillFloors 77 = .ok (.getfield 121, 3) := by decide +kernel
theorem dX2_fillFloors_80 : decode cX2_fillFloors 80 = .ok (.iload_n 1, 1) := by decide +kernel
theorem dX2_fillFloors_81 : decode cX2_fillFloors 81 = .ok (.iaload, 1) := by decide +kernel
theorem dX2_fillFloors_82 : decode cX2_fillFloors 82 = .ok (.i2l, 1) := by decide +kernel
theorem dX2_fillFloors_83 : decode cX2_fillFloors 83 = .ok (.lload_n 3, 1) := by decide +kernel
theorem dX2_fillFloors_84 : decode cX2_fillFloors 84 = .ok (.lsub, 1) := by decide +kernel
theorem dX2_fillFloors_85 : decode cX2_fillFloors 85 = .ok (.invokestatic 229, 3) := by decide +kernel
theorem dX2_fillFloors_88 : decode cX2_fillFloors 88 = .ok (.lstore 5, 2) := by decide +kernel
theorem dX2_fillFloors_90 : decode cX2_fillFloors 90 = .ok (.aload_n 0, 1) := by decide +kernel
theorem dX2_fillFloors_91 : decode cX2_fillFloors 91 = .ok (.getfield 21, 3) := by decide +kernel
theorem dX2_fillFloors_94 : decode cX2_fillFloors 94 = .ok (.iload_n 2, 1) := by decide +kernel
theorem dX2_fillFloors_95 : decode cX2_fillFloors 95 = .ok (.bipush 40, 2) := by decide +kernel
theorem dX2_fillFloors_97 : decode cX2_fillFloors 97 = .ok (.imul, 1) := by decide +kernel
theorem dX2_fillFloors_98 : decode cX2_fillFloors 98 = .ok (.aload_n 0, 1) := by decide +kernel
theorem dX2_fillFloors_99 : decode cX2_fillFloors 99 = .ok (.getfield 78, 3) := by decide +kernel
theorem dX2_fillFloors_102 : decode cX2_fillFloors 102 = .ok (.iadd, 1) := by decide +kernel
theorem dX2_fillFloors_103 : decode cX2_fillFloors 103 = .ok (.dup2, 1) := by decide +kernel
theorem dX2_fillFloors_104 : decode cX2_fillFloors 104 = .ok (.iaload, 1) := by decide +kernel
theorem dX2_fillFloors_105 : decode cX2_fillFloors 105 = .ok (.lload 5, 2) := by decide +kernel
theorem dX2_fillFloors_107 : decode cX2_fillFloors 107 = .ok (.l2i, 1) := by decide +kernel
theorem dX2_fillFloors_108 : decode cX2_fillFloors 108 = .ok (.iadd, 1) := by decide +kernel
theorem dX2_fillFloors_109 : decode cX2_fillFloors 109 = .ok (.iastore, 1) := by decide +kernel
theorem dX2_fillFloors_110 : decode cX2_fillFloors 110 = .ok (.aload_n 0, 1) := by decide +kernel
theorem dX2_fillFloors_111 : decode cX2_fillFloors 111 = .ok (.getfield 18, 3) := by decide +kernel
theorem dX2_fillFloors_114 : decode cX2_fillFloors 114 = .ok (.iload_n 2, 1) := by decide +kernel
theorem dX2_fillFloors_115 : decode cX2_fillFloors 115 = .ok (.dup2, 1) := by decide +kernel
theorem dX2_fillFloors_116 : decode cX2_fillFloors 116 = .ok (.laload, 1) := by decide +kernel
theorem dX2_fillFloors_117 : decode cX2_fillFloors 117 = .ok (.lload 5, 2) := by decide +kernel
theorem dX2_fillFloors_119 : decode cX2_fillFloors 119 = .ok (.ladd, 1) := by decide +kernel
theorem dX2_fillFloors_120 : decode cX2_fillFloors 120 = .ok (.lastore, 1) := by decide +kernel
theorem dX2_fillFloors_121 : decode cX2_fillFloors 121 = .ok (.iinc 1 1, 3) := by decide +kernel
theorem dX2_fillFloors_124 : decode cX2_fillFloors 124 = .ok (.goto (-122), 3) := by decide +kernel
theorem dX2_fillFloors_127 : decode cX2_fillFloors 127 = .ok (.return_, 1) := by decide +kernel
theorem dX3_init_0 : decode cX3_init 0 = .ok (.aload_n 0, 1) := by decide +kernel
theorem dX3_init_1 : decode cX3_init 1 = .ok (.invokespecial 1, 3) := by decide +kernel
theorem dX3_init_4 : decode cX3_init 4 = .ok (.aload_n 0, 1) := by decide +kernel
theorem dX3_init_5 : decode cX3_init 5 = .ok (.iconst 0, 1) := by decide +kernel
theorem dX3_init_6 : decode cX3_init 6 = .ok (.iload_n 1, 1) := by decide +kernel
theorem dX3_init_7 : decode cX3_init 7 = .ok (.invokestatic 7, 3) := by decide +kernel
theorem dX3_init_10 : decode cX3_init 10 = .ok (.putfield 13, 3) := by decide +kernel
theorem dX3_init_13 : decode cX3_init 13 = .ok (.aload_n 0, 1) := by decide +kernel
theorem dX3_init_14 : decode cX3_init 14 = .ok (.aload_n 0, 1) := by decide +kernel
theorem dX3_init_15 : decode cX3_init 15 = .ok (.getfield 13, 3) := by decide +kernel
theorem dX3_init_18 : decode cX3_init 18 = .ok (.newarray .int, 2) := by decide +kernel
theorem dX3_init_20 : decode cX3_init 20 = .ok (.putfield 19, 3) := by decide +kernel
theorem dX3_init_23 : decode cX3_init 23 = .ok (.aload_n 0, 1) := by decide +kernel
theorem dX3_init_24 : decode cX3_init 24 = .ok (.aload_n 0, 1) := by decide +kernel
theorem dX3_init_25 : decode cX3_init 25 = .ok (.getfield 13, 3) := by decide +kernel
theorem dX3_init_28 : decode cX3_init 28 = .ok (.newarray .int, 2) := by decide +kernel
theorem dX3_init_30 : decode cX3_init 30 = .ok (.putfield 23, 3) := by decide +kernel
theorem dX3_init_33 : decode cX3_init 33 = .ok (.aload_n 0, 1) := by decide +kernel
theorem dX3_init_34 : decode cX3_init 34 = .ok (.aload_n 0, 1) := by decide +kernel
theorem dX3_init_35 : decode cX3_init 35 = .ok (.getfield 13, 3) := by decide +kernel
theorem dX3_init_38 : decode cX3_init 38 = .ok (.newarray .int, 2) := by decide +kernel
theorem dX3_init_40 : decode cX3_init 40 = .ok (.putfield 26, 3) := by decide +kernel
theorem dX3_init_43 : decode cX3_init 43 = .ok (.aload_n 0, 1) := by decide +kernel
theorem dX3_init_44 : decode cX3_init 44 = .ok (.aload_n 0, 1) := by decide +kernel
theorem dX3_init_45 : decode cX3_init 45 = .ok (.getfield 13, 3) := by decide +kernel
theorem dX3_init_48 : decode cX3_init 48 = .ok (.newarray .long, 2) := by decide +kernel
theorem dX3_init_50 : decode cX3_init 50 = .ok (.putfield 29, 3) := by decide +kernel
theorem dX3_init_53 : decode cX3_init 53 = .ok (.aload_n 0, 1) := by decide +kernel
theorem dX3_init_54 : decode cX3_init 54 = .ok (.aload_n 0, 1) := by decide +kernel
theorem dX3_init_55 : decode cX3_init 55 = .ok (.getfield 13, 3) := by decide +kernel
theorem dX3_init_58 : decode cX3_init 58 = .ok (.newarray .long, 2) := by decide +kernel
theorem dX3_init_60 : decode cX3_init 60 = .ok (.putfield 33, 3) := by decide +kernel
theorem dX3_init_63 : decode cX3_init 63 = .ok (.return_, 1) := by decide +kernel
theorem dX3_kept_0 : decode cX3_kept 0 = .ok (.aload_n 0, 1) := by decide +kernel
theorem dX3_kept_1 : decode cX3_kept 1 = .ok (.getfield 36, 3) := by decide +kernel
theorem dX3_kept_4 : decode cX3_kept 4 = .ok (.aload_n 0, 1) := by decide +kernel
theorem dX3_kept_5 : decode cX3_kept 5 = .ok (.getfield 13, 3) := by decide +kernel
theorem dX3_kept_8 : decode cX3_kept 8 = .ok (.invokestatic 39, 3) := by decide +kernel
theorem dX3_kept_11 : decode cX3_kept 11 = .ok (.ireturn, 1) := by decide +kernel
theorem dX3_begin_0 : decode cX3_begin 0 = .ok (.aload_n 0, 1) := by decide +kernel
theorem dX3_begin_1 : decode cX3_begin 1 = .ok (.getfield 36, 3) := by decide +kernel
theorem dX3_begin_4 : decode cX3_begin 4 = .ok (.istore 6, 2) := by decide +kernel
theorem dX3_begin_6 : decode cX3_begin 6 = .ok (.iload 6, 2) := by decide +kernel
theorem dX3_begin_8 : decode cX3_begin 8 = .ok (.aload_n 0, 1) := by decide +kernel
theorem dX3_begin_9 : decode cX3_begin 9 = .ok (.getfield 13, 3) := by decide +kernel
theorem dX3_begin_12 : decode cX3_begin 12 = .ok (.if_icmp .ge 36, 3) := by decide +kernel
theorem dX3_begin_15 : decode cX3_begin 15 = .ok (.aload_n 0, 1) := by decide +kernel
theorem dX3_begin_16 : decode cX3_begin 16 = .ok (.getfield 19, 3) := by decide +kernel
theorem dX3_begin_19 : decode cX3_begin 19 = .ok (.iload 6, 2) := by decide +kernel
theorem dX3_begin_21 : decode cX3_begin 21 = .ok (.iload_n 1, 1) := by decide +kernel
theorem dX3_begin_22 : decode cX3_begin 22 = .ok (.iastore, 1) := by decide +kernel
theorem dX3_begin_23 : decode cX3_begin 23 = .ok (.aload_n 0, 1) := by decide +kernel
theorem dX3_begin_24 : decode cX3_begin 24 = .ok (.getfield 23, 3) := by decide +kernel
theorem dX3_begin_27 : decode cX3_begin 27 = .ok (.iload 6, 2) := by decide +kernel
theorem dX3_begin_29 : decode cX3_begin 29 = .ok (.iload_n 2, 1) := by decide +kernel
theorem dX3_begin_30 : decode cX3_begin 30 = .ok (.iastore, 1) := by decide +kernel
theorem dX3_begin_31 : decode cX3_begin 31 = .ok (.aload_n 0, 1) := by decide +kernel
theorem dX3_begin_32 : decode cX3_begin 32 = .ok (.getfield 26, 3) := by decide +kernel
theorem dX3_begin_35 : decode cX3_begin 35 = .ok (.iload 6, 2) := by decide +kernel
theorem dX3_begin_37 : decode cX3_begin 37 = .ok (.iload_n 3, 1) := by decide +kernel
theorem dX3_begin_38 : decode cX3_begin 38 = .ok (.iastore, 1) := by decide +kernel
theorem dX3_begin_39 : decode cX3_begin 39 = .ok (.aload_n 0, 1) := by decide +kernel
theorem dX3_begin_40 : decode cX3_begin 40 = .ok (.getfield 29, 3) := by decide +kernel
theorem dX3_begin_43 : decode cX3_begin 43 = .ok (.iload 6, 2) := by decide +kernel
theorem dX3_begin_45 : decode cX3_begin 45 = .ok (.lload 4, 2) := by decide +kernel
theorem dX3_begin_47 : decode cX3_begin 47 = .ok (.lastore, 1) := by decide +kernel
theorem dX3_begin_48 : decode cX3_begin 48 = .ok (.aload_n 0, 1) := by decide +kernel
theorem dX3_begin_49 : decode cX3_begin 49 = .ok (.dup, 1) := by decide +kernel
theorem dX3_begin_50 : decode cX3_begin 50 = .ok (.getfield 36, 3) := by decide +kernel
theorem dX3_begin_53 : decode cX3_begin 53 = .ok (.iconst 1, 1) := by decide +kernel
theorem dX3_begin_54 : decode cX3_begin 54 = .ok (.iadd, 1) := by decide +kernel
theorem dX3_begin_55 : decode cX3_begin 55 = .ok (.putfield 36, 3) := by decide +kernel
theorem dX3_begin_58 : decode cX3_begin 58 = .ok (.iload 6, 2) := by decide +kernel
theorem dX3_begin_60 : decode cX3_begin 60 = .ok (.ireturn, 1) := by decide +kernel
theorem dX3_end_0 : decode cX3_end 0 = .ok (.iload_n 1, 1) := by decide +kernel
theorem dX3_end_1 : decode cX3_end 1 = .ok (.ifCond .lt 18, 3) := by decide +kernel
theorem dX3_end_4 : decode cX3_end 4 = .ok (.iload_n 1, 1) := by decide +kernel
theorem dX3_end_5 : decode cX3_end 5 = .ok (.aload_n 0, 1) := by decide +kernel
theorem dX3_end_6 : decode cX3_end 6 = .ok (.getfield 13, 3) := by decide +kernel
theorem dX3_end_9 : decode cX3_end 9 = .ok (.if_icmp .ge 10, 3) := by decide +kernel
theorem dX3_end_12 : decode cX3_end 12 = .ok (.aload_n 0, 1) := by decide +kernel
theorem dX3_end_13 : decode cX3_end 13 = .ok (.getfield 33, 3) := by decide +kernel
theorem dX3_end_16 : decode cX3_end 16 = .ok (.iload_n 1, 1) := by decide +kernel
theorem dX3_end_17 : decode cX3_end 17 = .ok (.lload_n 2, 1) := by decide +kernel
theorem dX3_end_18 : decode cX3_end 18 = .ok (.lastore, 1) := by decide +kernel
theorem dX3_end_19 : decode cX3_end 19 = .ok (.return_, 1) := by decide +kernel
theorem dX4_init_0 : decode cX4_init 0 = .ok (.aload_n 0, 1) := by decide +kernel
theorem dX4_init_1 : decode cX4_init 1 = .ok (.invokespecial 3, 3) := by decide +kernel
theorem dX4_init_4 : decode cX4_init 4 = .ok (.aload_n 0, 1) := by decide +kernel
theorem dX4_init_5 : decode cX4_init 5 = .ok (.sipush 1440, 3) := by decide +kernel
theorem dX4_init_8 : decode cX4_init 8 = .ok (.newarray .int, 2) := by decide +kernel
theorem dX4_init_10 : decode cX4_init 10 = .ok (.putfield 9, 3) := by decide +kernel
theorem dX4_init_13 : decode cX4_init 13 = .ok (.aload_n 0, 1) := by decide +kernel
theorem dX4_init_14 : decode cX4_init 14 = .ok (.sipush 480, 3) := by decide +kernel
theorem dX4_init_17 : decode cX4_init 17 = .ok (.newarray .int, 2) := by decide +kernel
theorem dX4_init_19 : decode cX4_init 19 = .ok (.putfield 15, 3) := by decide +kernel
theorem dX4_init_22 : decode cX4_init 22 = .ok (.aload_n 0, 1) := by decide +kernel
theorem dX4_init_23 : decode cX4_init 23 = .ok (.sipush 480, 3) := by decide +kernel
theorem dX4_init_26 : decode cX4_init 26 = .ok (.newarray .int, 2) := by decide +kernel
theorem dX4_init_28 : decode cX4_init 28 = .ok (.putfield 18, 3) := by decide +kernel
theorem dX4_init_31 : decode cX4_init 31 = .ok (.aload_n 0, 1) := by decide +kernel
theorem dX4_init_32 : decode cX4_init 32 = .ok (.sipush 480, 3) := by decide +kernel
theorem dX4_init_35 : decode cX4_init 35 = .ok (.newarray .int, 2) := by decide +kernel
theorem dX4_init_37 : decode cX4_init 37 = .ok (.putfield 21, 3) := by decide +kernel
theorem dX4_init_40 : decode cX4_init 40 = .ok (.aload_n 0, 1) := by decide +kernel
theorem dX4_init_41 : decode cX4_init 41 = .ok (.bipush 40, 2) := by decide +kernel
theorem dX4_init_43 : decode cX4_init 43 = .ok (.newarray .int, 2) := by decide +kernel
theorem dX4_init_45 : decode cX4_init 45 = .ok (.putfield 24, 3) := by decide +kernel
theorem dX4_init_48 : decode cX4_init 48 = .ok (.aload_n 0, 1) := by decide +kernel
theorem dX4_init_49 : decode cX4_init 49 = .ok (.bipush 40, 2) := by decide +kernel
theorem dX4_init_51 : decode cX4_init 51 = .ok (.newarray .int, 2) := by decide +kernel
theorem dX4_init_53 : decode cX4_init 53 = .ok (.putfield 27, 3) := by decide +kernel
theorem dX4_init_56 : decode cX4_init 56 = .ok (.return_, 1) := by decide +kernel
theorem dX4_put_0 : decode cX4_put 0 = .ok (.iload_n 1, 1) := by decide +kernel
theorem dX4_put_1 : decode cX4_put 1 = .ok (.bipush 12, 2) := by decide +kernel
theorem dX4_put_3 : decode cX4_put 3 = .ok (.imul, 1) := by decide +kernel
theorem dX4_put_4 : decode cX4_put 4 = .ok (.iload_n 2, 1) := by decide +kernel
theorem dX4_put_5 : decode cX4_put 5 = .ok (.iadd, 1) := by decide +kernel
theorem dX4_put_6 : decode cX4_put 6 = .ok (.istore 7, 2) := by decide +kernel
theorem dX4_put_8 : decode cX4_put 8 = .ok (.aload_n 0, 1) := by decide +kernel
theorem dX4_put_9 : decode cX4_put 9 = .ok (.getfield 15, 3) := by decide +kernel
theorem dX4_put_12 : decode cX4_put 12 = .ok (.iload 7, 2) := by decide +kernel
theorem dX4_put_14 : decode cX4_put 14 = .ok (.iaload, 1) := by decide +kernel
theorem dX4_put_15 : decode cX4_put 15 = .ok (.ifCond .ne 43, 3) := by decide +kernel
theorem dX4_put_18 : decode cX4_put 18 = .ok (.aload_n 0, 1) := by decide +kernel
theorem dX4_put_19 : decode cX4_put 19 = .ok (.getfield 18, 3) := by decide +kernel
theorem dX4_put_22 : decode cX4_put 22 = .ok (.iload 7, 2) := by decide +kernel
theorem dX4_put_24 : decode cX4_put 24 = .ok (.aload_n 0, 1) := by decide +kernel
theorem dX4_put_25 : decode cX4_put 25 = .ok (.getfield 24, 3) := by decide +kernel
theorem dX4_put_28 : decode cX4_put 28 = .ok (.iload_n 1, 1) := by decide +kernel
theorem dX4_put_29 : decode cX4_put 29 = .ok (.iaload, 1) := by decide +kernel
theorem dX4_put_30 : decode cX4_put 30 = .ok (.iastore, 1) := by decide +kernel
theorem dX4_put_31 : decode cX4_put 31 = .ok (.aload_n 0, 1) := by decide +kernel
theorem dX4_put_32 : decode cX4_put 32 = .ok (.getfield 21, 3) := by decide +kernel
theorem dX4_put_35 : decode cX4_put 35 = .ok (.iload_n 1, 1) := by decide +kernel
theorem dX4_put_36 : decode cX4_put 36 = .ok (.bipush 12, 2) := by decide +kernel
theorem dX4_put_38 : decode cX4_put 38 = .ok (.imul, 1) := by decide +kernel
theorem dX4_put_39 : decode cX4_put 39 = .ok (.aload_n 0, 1) := by decide +kernel
theorem dX4_put_40 : decode cX4_put 40 = .ok (.getfield 24, 3) := by decide +kernel
theorem dX4_put_43 : decode cX4_put 43 = .ok (.iload_n 1, 1) := by decide +kernel
theorem dX4_put_44 : decode cX4_put 44 = .ok (.iaload, 1) := by decide +kernel
theorem dX4_put_45 : decode cX4_put 45 = .ok (.iadd, 1) := by decide +kernel
theorem dX4_put_46 : decode cX4_put 46 = .ok (.iload_n 2, 1) := by decide +kernel
theorem dX4_put_47 : decode cX4_put 47 = .ok (.iastore, 1) := by decide +kernel
theorem dX4_put_48 : decode cX4_put 48 = .ok (.aload_n 0, 1) := by decide +kernel
theorem dX4_put_49 : decode cX4_put 49 = .ok (.getfield 24, 3) := by decide +kernel
theorem dX4_put_52 : decode cX4_put 52 = .ok (.iload_n 1, 1) := by decide +kernel
theorem dX4_put_53 : decode cX4_put 53 = .ok (.dup2, 1) := by decide +kernel
theorem dX4_put_54 : decode cX4_put 54 = .ok (.iaload, 1) := by decide +kernel
theorem dX4_put_55 : decode cX4_put 55 = .ok (.iconst 1, 1) := by decide +kernel
theorem dX4_put_56 : decode cX4_put 56 = .ok (.iadd, 1) := by decide +kernel
theorem dX4_put_57 : decode cX4_put 57 = .ok (.iastore, 1) := by decide +kernel
theorem dX4_put_58 : decode cX4_put 58 = .ok (.aload_n 0, 1) := by decide +kernel
theorem dX4_put_59 : decode cX4_put 59 = .ok (.getfield 15, 3) := by decide +kernel
theorem dX4_put_62 : decode cX4_put 62 = .ok (.iload 7, 2) := by decide +kernel
theorem dX4_put_64 : decode cX4_put 64 = .ok (.iload 6, 2) := by decide +kernel
theorem dX4_put_66 : decode cX4_put 66 = .ok (.ifCond .eq 7, 3) := by decide +kernel
theorem dX4_put_69 : decode cX4_put 69 = .ok (.iconst 2, 1) := by decide +kernel
theorem dX4_put_70 : decode cX4_put 70 = .ok (.goto 4, 3) := by decide +kernel
theorem dX4_put_73 : decode cX4_put 73 = .ok (.iconst 1, 1) := by decide +kernel
theorem dX4_put_74 : decode cX4_put 74 = .ok (.iastore, 1) := by decide +kernel
theorem dX4_put_75 : decode cX4_put 75 = .ok (.aload_n 0, 1) := by decide +kernel
theorem dX4_put_76 : decode cX4_put 76 = .ok (.getfield 9, 3) := by decide +kernel
theorem dX4_put_79 : decode cX4_put 79 = .ok (.iload 7, 2) := by decide +kernel
theorem dX4_put_81 : decode cX4_put 81 = .ok (.iconst 3, 1) := by decide +kernel
theorem dX4_put_82 : decode cX4_put 82 = .ok (.imul, 1) := by decide +kernel
theorem dX4_put_83 : decode cX4_put 83 = .ok (.iload_n 3, 1) := by decide +kernel
theorem dX4_put_84 : decode cX4_put 84 = .ok (.iastore, 1) := by decide +kernel
theorem dX4_put_85 : decode cX4_put 85 = .ok (.aload_n 0, 1) := by decide +kernel
theorem dX4_put_86 : decode cX4_put 86 = .ok (.getfield 9, 3) := by decide +kernel
theorem dX4_put_89 : decode cX4_put 89 = .ok (.iload 7, 2) := by decide +kernel
theorem dX4_put_91 : decode cX4_put 91 = .ok (.iconst 3, 1) := by decide +kernel
theorem dX4_put_92 : decode cX4_put 92 = .ok (.imul, 1) := by decide +kernel
theorem dX4_put_93 : decode cX4_put 93 = .ok (.iconst 1, 1) := by decide +kernel
theorem dX4_put_94 : decode cX4_put 94 = .ok (.iadd, 1) := by decide +kernel
theorem dX4_put_95 : decode cX4_put 95 = .ok (.iload 6, 2) := by decide +kernel
theorem dX4_put_97 : decode cX4_put 97 = .ok (.ifCond .eq 8, 3) := by decide +kernel
theorem dX4_put_100 : decode cX4_put 100 = .ok (.iload 4, 2) := by decide +kernel
theorem dX4_put_102 : decode cX4_put 102 = .ok (.goto 4, 3) := by decide +kernel
theorem dX4_put_105 : decode cX4_put 105 = .ok (.iconst 0, 1) := by decide +kernel
theorem dX4_put_106 : decode cX4_put 106 = .ok (.iastore, 1) := by decide +kernel
theorem dX4_put_107 : decode cX4_put 107 = .ok (.aload_n 0, 1) := by decide +kernel
theorem dX4_put_108 : decode cX4_put 108 = .ok (.getfield 9, 3) := by decide +kernel
theorem dX4_put_111 : decode cX4_put 111 = .ok (.iload 7, 2) := by decide +kernel
theorem dX4_put_113 : decode cX4_put 113 = .ok (.iconst 3, 1) := by decide +kernel
theorem dX4_put_114 : decode cX4_put 114 = .ok (.imul, 1) := by decide +kernel
theorem dX4_put_115 : decode cX4_put 115 = .ok (.iconst 2, 1) := by decide +kernel
theorem dX4_put_116 : decode cX4_put 116 = .ok (.iadd, 1) := by decide +kernel
theorem dX4_put_117 : decode cX4_put 117 = .ok (.iload 6, 2) := by decide +kernel
theorem dX4_put_119 : decode cX4_put 119 = .ok (.ifCond .eq 8, 3) := by decide +kernel
theorem dX4_put_122 : decode cX4_put 122 = .ok (.iload 5, 2) := by decide +kernel
theorem dX4_put_124 : decode cX4_put 124 = .ok (.goto 4, 3) := by decide +kernel
theorem dX4_put_127 : decode cX4_put 127 = .ok (.iconst 0, 1) := by decide +kernel
theorem dX4_put_128 : decode cX4_put 128 = .ok (.iastore, 1) := by decide +kernel
theorem dX4_put_129 : decode cX4_put 129 = .ok (.return_, 1) := by decide +kernel
theorem dX4_tearAt_0 : decode cX4_tearAt 0 = .ok (.aload_n 0, 1) := by decide +kernel
theorem dX4_tearAt_1 : decode cX4_tearAt 1 = .ok (.getfield 27, 3) := by decide +kernel
theorem dX4_tearAt_4 : decode cX4_tearAt 4 = .ok (.iload_n 1, 1) := by decide +kernel
theorem dX4_tearAt_5 : decode cX4_tearAt 5 = .ok (.sipush 4095, 3) := by decide +kernel
theorem dX4_tearAt_8 : decode cX4_tearAt 8 = .ok (.iload_n 2, 1) := by decide +kernel
theorem dX4_tearAt_9 : decode cX4_tearAt 9 = .ok (.ishl, 1) := by decide +kernel
theorem dX4_tearAt_10 : decode cX4_tearAt 10 = .ok (.sipush 4095, 3) := by decide +kernel
theorem dX4_tearAt_13 : decode cX4_tearAt 13 = .ok (.iand, 1) := by decide +kernel
theorem dX4_tearAt_14 : decode cX4_tearAt 14 = .ok (.iastore, 1) := by decide +kernel
theorem dX4_tearAt_15 : decode cX4_tearAt 15 = .ok (.return_, 1) := by decide +kernel
set_option maxRecDepth 20000 in
theorem ggX4_tornAt_J6_bitCount_0f7a4 : GoodIn wsX4_tornAt wsJ6_bitCount_0f7a4 := goodIn_r _ [5, 6, 7, 8] rfl (by decide +kernel)
set_option maxRecDepth 20000 in
theorem gX4_tornAt_J6_bitCount_0f7a4 : GoodIn wsX4_tornAt (va_wsS RX4 30 yJ6_bitCount_0f7a4 wsJ6_bitCount_0f7a4) := goodIn_app (goodIn_of _ (by decide +kernel)) ggX4_tornAt_J6_bitCount_0f7a4
theorem dX4_tornAt_0 : decode cX4_tornAt 0 = .ok (.bipush 12, 2) := by decide +kernel
theorem dX4_tornAt_2 : decode cX4_tornAt 2 = .ok (.aload_n 0, 1) := by decide +kernel
theorem dX4_tornAt_3 : decode cX4_tornAt 3 = .ok (.getfield 27, 3) := by decide +kernel
theorem dX4_tornAt_6 : decode cX4_tornAt 6 = .ok (.iload_n 1, 1) := by decide +kernel
theorem dX4_tornAt_7 : decode cX4_tornAt 7 = .ok (.iaload, 1) := by decide +kernel
theorem dX4_tornAt_8 : decode cX4_tornAt 8 = .ok (.invokestatic 30, 3) := by decide +kernel
theorem dX4_tornAt_11 : decode cX4_tornAt 11 = .ok (.isub, 1) := by decide +kernel
theorem dX4_tornAt_12 : decode cX4_tornAt 12 = .ok (.ireturn, 1) := by decide +kernel
theorem dX4_bringBack_0 : decode cX4_bringBack 0 = .ok (.aload_n 0, 1) := by decide +kernel
theorem dX4_bringBack_1 : decode cX4_bringBack 1 = .ok (.getfield 27, 3) := by decide +kernel
theorem dX4_bringBack_4 : decode cX4_bringBack 4 = .ok (.iload_n 1, 1) := by decide +kernel
theorem dX4_bringBack_5 : decode cX4_bringBack 5 = .ok (.dup2, 1) := by decide +kernel
theorem dX4_bringBack_6 : decode cX4_bringBack 6 = .ok (.iaload, 1) := by decide +kernel
theorem dX4_bringBack_7 : decode cX4_bringBack 7 = .ok (.iconst 1, 1) := by decide +kernel
theorem dX4_bringBack_8 : decode cX4_bringBack 8 = .ok (.iload_n 2, 1) := by decide +kernel
theorem dX4_bringBack_9 : decode cX4_bringBack 9 = .ok (.ishl, 1) := by decide +kernel
theorem dX4_bringBack_10 : decode cX4_bringBack 10 = .ok (.iconst (-1), 1) := by decide +kernel
theorem dX4_bringBack_11 : decode cX4_bringBack 11 = .ok (.ixor, 1) := by decide +kernel
theorem dX4_bringBack_12 : decode cX4_bringBack 12 = .ok (.iand, 1) := by decide +kernel
theorem dX4_bringBack_13 : decode cX4_bringBack 13 = .ok (.iastore, 1) := by decide +kernel
theorem dX4_bringBack_14 : decode cX4_bringBack 14 = .ok (.return_, 1) := by decide +kernel
theorem dX4_isOpen_0 : decode cX4_isOpen 0 = .ok (.aload_n 0, 1) := by decide +kernel
theorem dX4_isOpen_1 : decode cX4_isOpen 1 = .ok (.getfield 27, 3) := by decide +kernel
theorem dX4_isOpen_4 : decode cX4_isOpen 4 = .ok (.iload_n 1, 1) := by decide +kernel
theorem dX4_isOpen_5 : decode cX4_isOpen 5 = .ok (.iaload, 1) := by decide +kernel
theorem dX4_isOpen_6 : decode cX4_isOpen 6 = .ok (.iload_n 2, 1) := by decide +kernel
theorem dX4_isOpen_7 : decode cX4_isOpen 7 = .ok (.ishr, 1) := by decide +kernel
theorem dX4_isOpen_8 : decode cX4_isOpen 8 = .ok (.iconst 1, 1) := by decide +kernel
theorem dX4_isOpen_9 : decode cX4_isOpen 9 = .ok (.iand, 1) := by decide +kernel
theorem dX4_isOpen_10 : decode cX4_isOpen 10 = .ok (.iconst 1, 1) := by decide +kernel
theorem dX4_isOpen_11 : decode cX4_isOpen 11 = .ok (.if_icmp .ne 7, 3) := by decide +kernel
theorem dX4_isOpen_14 : decode cX4_isOpen 14 = .ok (.iconst 1, 1) := by decide +kernel
theorem dX4_isOpen_15 : decode cX4_isOpen 15 = .ok (.goto 4, 3) := by decide +kernel
theorem dX4_isOpen_18 : decode cX4_isOpen 18 = .ok (.iconst 0, 1) := by decide +kernel
theorem dX4_isOpen_19 : decode cX4_isOpen 19 = .ok (.ireturn, 1) := by decide +kernel
theorem dX4_sizeOf_0 : decode cX4_sizeOf 0 = .ok (.aload_n 0, 1) := by decide +kernel
theorem dX4_sizeOf_1 : decode cX4_sizeOf 1 = .ok (.getfield 24, 3) := by decide +kernel
theorem dX4_sizeOf_4 : decode cX4_sizeOf 4 = .ok (.iload_n 1, 1) := by decide +kernel
theorem dX4_sizeOf_5 : decode cX4_sizeOf 5 = .ok (.iaload, 1) := by decide +kernel
theorem dX4_sizeOf_6 : decode cX4_sizeOf 6 = .ok (.ireturn, 1) := by decide +kernel
theorem dX4_workAt_0 : decode cX4_workAt 0 = .ok (.aload_n 0, 1) := by decide +kernel
theorem dX4_workAt_1 : decode cX4_workAt 1 = .ok (.getfield 21, 3) := by decide +kernel
theorem dX4_workAt_4 : decode cX4_workAt 4 = .ok (.iload_n 1, 1) := by decide +kernel
theorem dX4_workAt_5 : decode cX4_workAt 5 = .ok (.bipush 12, 2) := by decide +kernel
theorem dX4_workAt_7 : decode cX4_workAt 7 = .ok (.imul, 1) := by decide +kernel
theorem dX4_workAt_8 : decode cX4_workAt 8 = .ok (.iload_n 2, 1) := by decide +kernel
theorem dX4_workAt_9 : decode cX4_workAt 9 = .ok (.iadd, 1) := by decide +kernel
theorem dX4_workAt_10 : decode cX4_workAt 10 = .ok (.iaload, 1) := by decide +kernel
theorem dX4_workAt_11 : decode cX4_workAt 11 = .ok (.ireturn, 1) := by decide +kernel
theorem dX4_coinsOf_0 : decode cX4_coinsOf 0 = .ok (.aload_n 0, 1) := by decide +kernel
theorem dX4_coinsOf_1 : decode cX4_coinsOf 1 = .ok (.getfield 9, 3) := by decide +kernel
theorem dX4_coinsOf_4 : decode cX4_coinsOf 4 = .ok (.iload_n 1, 1) := by decide +kernel
theorem dX4_coinsOf_5 : decode cX4_coinsOf 5 = .ok (.bipush 12, 2) := by decide +kernel
theorem dX4_coinsOf_7 : decode cX4_coinsOf 7 = .ok (.imul, 1) := by decide +kernel
theorem dX4_coinsOf_8 : decode cX4_coinsOf 8 = .ok (.iload_n 2, 1) := by decide +kernel
theorem dX4_coinsOf_9 : decode cX4_coinsOf 9 = .ok (.iadd, 1) := by decide +kernel
theorem dX4_coinsOf_10 : decode cX4_coinsOf 10 = .ok (.iconst 3, 1) := by decide +kernel
theorem dX4_coinsOf_11 : decode cX4_coinsOf 11 = .ok (.imul, 1) := by decide +kernel
theorem dX4_coinsOf_12 : decode cX4_coinsOf 12 = .ok (.iload_n 3, 1) := by decide +kernel
theorem dX4_coinsOf_13 : decode cX4_coinsOf 13 = .ok (.iadd, 1) := by decide +kernel
theorem dX4_coinsOf_14 : decode cX4_coinsOf 14 = .ok (.iaload, 1) := by decide +kernel
theorem dX4_coinsOf_15 : decode cX4_coinsOf 15 = .ok (.ireturn, 1) := by decide +kernel
theorem dX4_wayOf_0 : decode cX4_wayOf 0 = .ok (.aload_n 0, 1) := by decide +kernel
theorem dX4_wayOf_1 : decode cX4_wayOf 1 = .ok (.getfield 15, 3) := by decide +kernel
theorem dX4_wayOf_4 : decode cX4_wayOf 4 = .ok (.iload_n 1, 1) := by decide +kernel
theorem dX4_wayOf_5 : decode cX4_wayOf 5 = .ok (.bipush 12, 2) := by decide +kernel
theorem dX4_wayOf_7 : decode cX4_wayOf 7 = .ok (.imul, 1) := by decide +kernel
theorem dX4_wayOf_8 : decode cX4_wayOf 8 = .ok (.iload_n 2, 1) := by decide +kernel
theorem dX4_wayOf_9 : decode cX4_wayOf 9 = .ok (.iadd, 1) := by decide +kernel
theorem dX4_wayOf_10 : decode cX4_wayOf 10 = .ok (.iaload, 1) := by decide +kernel
theorem dX4_wayOf_11 : decode cX4_wayOf 11 = .ok (.ireturn, 1) := by decide +kernel
theorem dX4_placeOf_0 : decode cX4_placeOf 0 = .ok (.iload_n 1, 1) := by decide +kernel
theorem dX4_placeOf_1 : decode cX4_placeOf 1 = .ok (.bipush 12, 2) := by decide +kernel
theorem dX4_placeOf_3 : decode cX4_placeOf 3 = .ok (.imul, 1) := by decide +kernel
theorem dX4_placeOf_4 : decode cX4_placeOf 4 = .ok (.iload_n 2, 1) := by decide +kernel
theorem dX4_placeOf_5 : decode cX4_placeOf 5 = .ok (.iadd, 1) := by decide +kernel
theorem dX4_placeOf_6 : decode cX4_placeOf 6 = .ok (.istore_n 3, 1) := by decide +kernel
theorem dX4_placeOf_7 : decode cX4_placeOf 7 = .ok (.aload_n 0, 1) := by decide +kernel
theorem dX4_placeOf_8 : decode cX4_placeOf 8 = .ok (.getfield 15, 3) := by decide +kernel
theorem dX4_placeOf_11 : decode cX4_placeOf 11 = .ok (.iload_n 3, 1) := by decide +kernel
theorem dX4_placeOf_12 : decode cX4_placeOf 12 = .ok (.iaload, 1) := by decide +kernel
theorem dX4_placeOf_13 : decode cX4_placeOf 13 = .ok (.ifCond .ne 7, 3) := by decide +kernel
theorem dX4_placeOf_16 : decode cX4_placeOf 16 = .ok (.iconst (-1), 1) := by decide +kernel
theorem dX4_placeOf_17 : decode cX4_placeOf 17 = .ok (.goto 9, 3) := by decide +kernel
theorem dX4_placeOf_20 : decode cX4_placeOf 20 = .ok (.aload_n 0, 1) := by decide +kernel
theorem dX4_placeOf_21 : decode cX4_placeOf 21 = .ok (.getfield 18, 3) := by decide +kernel
theorem dX4_placeOf_24 : decode cX4_placeOf 24 = .ok (.iload_n 3, 1) := by decide +kernel
theorem dX4_placeOf_25 : decode cX4_placeOf 25 = .ok (.iaload, 1) := by decide +kernel
theorem dX4_placeOf_26 : decode cX4_placeOf 26 = .ok (.ireturn, 1) := by decide +kernel
theorem dX5_init_0 : decode cX5_init 0 = .ok (.aload_n 0, 1) := by decide +kernel
theorem dX5_init_1 : decode cX5_init 1 = .ok (.invokespecial 3, 3) := by decide +kernel
theorem dX5_init_4 : decode cX5_init 4 = .ok (.aload_n 0, 1) := by decide +kernel
theorem dX5_init_5 : decode cX5_init 5 = .ok (.bipush 60, 2) := by decide +kernel
theorem dX5_init_7 : decode cX5_init 7 = .ok (.newarray .int, 2) := by decide +kernel
theorem dX5_init_9 : decode cX5_init 9 = .ok (.putfield 9, 3) := by decide +kernel
theorem dX5_init_12 : decode cX5_init 12 = .ok (.aload_n 0, 1) := by decide +kernel
theorem dX5_init_13 : decode cX5_init 13 = .ok (.bipush 60, 2) := by decide +kernel
theorem dX5_init_15 : decode cX5_init 15 = .ok (.newarray .int, 2) := by decide +kernel
theorem dX5_init_17 : decode cX5_init 17 = .ok (.putfield 15, 3) := by decide +kernel
theorem dX5_init_20 : decode cX5_init 20 = .ok (.aload_n 0, 1) := by decide +kernel
theorem dX5_init_21 : decode cX5_init 21 = .ok (.bipush 60, 2) := by decide +kernel
theorem dX5_init_23 : decode cX5_init 23 = .ok (.newarray .int, 2) := by decide +kernel
theorem dX5_init_25 : decode cX5_init 25 = .ok (.putfield 18, 3) := by decide +kernel
theorem dX5_init_28 : decode cX5_init 28 = .ok (.return_, 1) := by decide +kernel
theorem dX5_add_0 : decode cX5_add 0 = .ok (.aload_n 0, 1) := by decide +kernel
theorem dX5_add_1 : decode cX5_add 1 = .ok (.getfield 9, 3) := by decide +kernel
theorem dX5_add_4 : decode cX5_add 4 = .ok (.aload_n 0, 1) := by decide +kernel
theorem dX5_add_5 : decode cX5_add 5 = .ok (.getfield 21, 3) := by decide +kernel
theorem dX5_add_8 : decode cX5_add 8 = .ok (.iload_n 1, 1) := by decide +kernel
theorem dX5_add_9 : decode cX5_add 9 = .ok (.iastore, 1) := by decide +kernel
theorem dX5_add_10 : decode cX5_add 10 = .ok (.aload_n 0, 1) := by decide +kernel
theorem dX5_add_11 : decode cX5_add 11 = .ok (.getfield 15, 3) := by decide +kernel
theorem dX5_add_14 : decode cX5_add 14 = .ok (.aload_n 0, 1) := by decide +kernel
theorem dX5_add_15 : decode cX5_add 15 = .ok (.getfield 21, 3) := by decide +kernel
theorem dX5_add_18 : decode cX5_add 18 = .ok (.iload_n 2, 1) := by decide +kernel
theorem dX5_add_19 : decode cX5_add 19 = .ok (.iastore, 1) := by decide +kernel
theorem dX5_add_20 : decode cX5_add 20 = .ok (.aload_n 0, 1) := by decide +kernel
theorem dX5_add_21 : decode cX5_add 21 = .ok (.getfield 18, 3) := by decide +kernel
theorem dX5_add_24 : decode cX5_add 24 = .ok (.aload_n 0, 1) := by decide +kernel
theorem dX5_add_25 : decode cX5_add 25 = .ok (.getfield 21, 3) := by decide +kernel
theorem dX5_add_28 : decode cX5_add 28 = .ok (.iload_n 3, 1) := by decide +kernel
theorem dX5_add_29 : decode cX5_add 29 = .ok (.iastore, 1) := by decide +kernel
theorem dX5_add_30 : decode cX5_add 30 = .ok (.aload_n 0, 1) := by decide +kernel
theorem dX5_add_31 : decode cX5_add 31 = .ok (.dup, 1) := by decide +kernel
theorem dX5_add_32 : decode cX5_add 32 = .ok (.getfield 21, 3) := by decide +kernel
theorem dX5_add_35 : decode cX5_add 35 = .ok (.iconst 1, 1) := by decide +kernel
theorem dX5_add_36 : decode cX5_add 36 = .ok (.iadd, 1) := by decide +kernel
theorem dX5_add_37 : decode cX5_add 37 = .ok (.putfield 21, 3) := by decide +kernel
theorem dX5_add_40 : decode cX5_add 40 = .ok (.aload_n 0, 1) := by decide +kernel
theorem dX5_add_41 : decode cX5_add 41 = .ok (.dup, 1) := by decide +kernel
theorem dX5_add_42 : decode cX5_add 42 = .ok (.getfield 25, 3) := by decide +kernel
theorem dX5_add_45 : decode cX5_add 45 = .ok (.iload_n 2, 1) := by decide +kernel
theorem dX5_add_46 : decode cX5_add 46 = .ok (.i2l, 1) := by decide +kernel
theorem dX5_add_47 : decode cX5_add 47 = .ok (.ladd, 1) := by decide +kernel
theorem dX5_add_48 : decode cX5_add 48 = .ok (.putfield 25, 3) := by decide +kernel
theorem dX5_add_51 : decode cX5_add 51 = .ok (.return_, 1) := by decide +kernel
theorem dX6_init_0 : decode cX6_init 0 = .ok (.aload_n 0, 1) := by decide +kernel
theorem dX6_init_1 : decode cX6_init 1 = .ok (.invokespecial 3, 3) := by decide +kernel
theorem dX6_init_4 : decode cX6_init 4 = .ok (.aload_n 0, 1) := by decide +kernel
theorem dX6_init_5 : decode cX6_init 5 = .ok (.bipush 12, 2) := by decide +kernel
theorem dX6_init_7 : decode cX6_init 7 = .ok (.newarray .int, 2) := by decide +kernel
theorem dX6_init_9 : decode cX6_init 9 = .ok (.putfield 9, 3) := by decide +kernel
theorem dX6_init_12 : decode cX6_init 12 = .ok (.aload_n 0, 1) := by decide +kernel
theorem dX6_init_13 : decode cX6_init 13 = .ok (.bipush 72, 2) := by decide +kernel
theorem dX6_init_15 : decode cX6_init 15 = .ok (.newarray .int, 2) := by decide +kernel
theorem dX6_init_17 : decode cX6_init 17 = .ok (.putfield 15, 3) := by decide +kernel
theorem dX6_init_20 : decode cX6_init 20 = .ok (.aload_n 0, 1) := by decide +kernel
theorem dX6_init_21 : decode cX6_init 21 = .ok (.sipush 216, 3) := by decide +kernel
theorem dX6_init_24 : decode cX6_init 24 = .ok (.newarray .int, 2) := by decide +kernel
theorem dX6_init_26 : decode cX6_init 26 = .ok (.putfield 18, 3) := by decide +kernel
theorem dX6_init_29 : decode cX6_init 29 = .ok (.aload_n 0, 1) := by decide +kernel
theorem dX6_init_30 : decode cX6_init 30 = .ok (.sipush 216, 3) := by decide +kernel
theorem dX6_init_33 : decode cX6_init 33 = .ok (.newarray .int, 2) := by decide +kernel
theorem dX6_init_35 : decode cX6_init 35 = .ok (.putfield 21, 3) := by decide +kernel
