theorem dX0_init_0 : decode cX0_init 0 = .ok (.aload_n 0, 1) := by decide +kernel
theorem dX0_init_1 : decode cX0_init 1 = .ok (.invokespecial 3, 3) := by decide +kernel
theorem dX0_init_4 : decode cX0_init 4 = .ok (.aload_n 0, 1) := by decide +kernel
theorem dX0_init_5 : decode cX0_init 5 = .ok (.bipush 24, 2) := by decide +kernel
theorem dX0_init_7 : decode cX0_init 7 = .ok (.newarray .int, 2) := by decide +kernel
theorem dX0_init_9 : decode cX0_init 9 = .ok (.putfield 9, 3) := by decide +kernel
theorem dX0_init_12 : decode cX0_init 12 = .ok (.aload_n 0, 1) := by decide +kernel
theorem dX0_init_13 : decode cX0_init 13 = .ok (.bipush 24, 2) := by decide +kernel
theorem dX0_init_15 : decode cX0_init 15 = .ok (.newarray .int, 2) := by decide +kernel
theorem dX0_init_17 : decode cX0_init 17 = .ok (.putfield 15, 3) := by decide +kernel
theorem dX0_init_20 : decode cX0_init 20 = .ok (.aload_n 0, 1) := by decide +kernel
theorem dX0_init_21 : decode cX0_init 21 = .ok (.bipush 24, 2) := by decide +kernel
theorem dX0_init_23 : decode cX0_init 23 = .ok (.newarray .int, 2) := by decide +kernel
theorem dX0_init_25 : decode cX0_init 25 = .ok (.putfield 18, 3) := by decide +kernel
theorem dX0_init_28 : decode cX0_init 28 = .ok (.aload_n 0, 1) := by decide +kernel
theorem dX0_init_29 : decode cX0_init 29 = .ok (.bipush 24, 2) := by decide +kernel
theorem dX0_init_31 : decode cX0_init 31 = .ok (.newarray .int, 2) := by decide +kernel
theorem dX0_init_33 : decode cX0_init 33 = .ok (.putfield 21, 3) := by decide +kernel
theorem dX0_init_36 : decode cX0_init 36 = .ok (.aload_n 0, 1) := by decide +kernel
theorem dX0_init_37 : decode cX0_init 37 = .ok (.bipush 24, 2) := by decide +kernel
theorem dX0_init_39 : decode cX0_init 39 = .ok (.newarray .int, 2) := by decide +kernel
theorem dX0_init_41 : decode cX0_init 41 = .ok (.putfield 24, 3) := by decide +kernel
theorem dX0_init_44 : decode cX0_init 44 = .ok (.aload_n 0, 1) := by decide +kernel
theorem dX0_init_45 : decode cX0_init 45 = .ok (.bipush 24, 2) := by decide +kernel
theorem dX0_init_47 : decode cX0_init 47 = .ok (.newarray .int, 2) := by decide +kernel
theorem dX0_init_49 : decode cX0_init 49 = .ok (.putfield 27, 3) := by decide +kernel
theorem dX0_init_52 : decode cX0_init 52 = .ok (.aload_n 0, 1) := by decide +kernel
theorem dX0_init_53 : decode cX0_init 53 = .ok (.bipush 24, 2) := by decide +kernel
theorem dX0_init_55 : decode cX0_init 55 = .ok (.newarray .int, 2) := by decide +kernel
theorem dX0_init_57 : decode cX0_init 57 = .ok (.putfield 30, 3) := by decide +kernel
theorem dX0_init_60 : decode cX0_init 60 = .ok (.aload_n 0, 1) := by decide +kernel
theorem dX0_init_61 : decode cX0_init 61 = .ok (.bipush 24, 2) := by decide +kernel
theorem dX0_init_63 : decode cX0_init 63 = .ok (.newarray .int, 2) := by decide +kernel
theorem dX0_init_65 : decode cX0_init 65 = .ok (.putfield 33, 3) := by decide +kernel
theorem dX0_init_68 : decode cX0_init 68 = .ok (.return_, 1) := by decide +kernel
theorem dX0_add_0 : decode cX0_add 0 = .ok (.aload_n 0, 1) := by decide +kernel
theorem dX0_add_1 : decode cX0_add 1 = .ok (.getfield 36, 3) := by decide +kernel
theorem dX0_add_4 : decode cX0_add 4 = .ok (.istore 5, 2) := by decide +kernel
theorem dX0_add_6 : decode cX0_add 6 = .ok (.aload_n 0, 1) := by decide +kernel
theorem dX0_add_7 : decode cX0_add 7 = .ok (.getfield 9, 3) := by decide +kernel
theorem dX0_add_10 : decode cX0_add 10 = .ok (.iload 5, 2) := by decide +kernel
theorem dX0_add_12 : decode cX0_add 12 = .ok (.iload_n 1, 1) := by decide +kernel
theorem dX0_add_13 : decode cX0_add 13 = .ok (.iastore, 1) := by decide +kernel
theorem dX0_add_14 : decode cX0_add 14 = .ok (.aload_n 0, 1) := by decide +kernel
theorem dX0_add_15 : decode cX0_add 15 = .ok (.getfield 15, 3) := by decide +kernel
theorem dX0_add_18 : decode cX0_add 18 = .ok (.iload 5, 2) := by decide +kernel
theorem dX0_add_20 : decode cX0_add 20 = .ok (.iload_n 2, 1) := by decide +kernel
theorem dX0_add_21 : decode cX0_add 21 = .ok (.iastore, 1) := by decide +kernel
theorem dX0_add_22 : decode cX0_add 22 = .ok (.aload_n 0, 1) := by decide +kernel
theorem dX0_add_23 : decode cX0_add 23 = .ok (.getfield 18, 3) := by decide +kernel
theorem dX0_add_26 : decode cX0_add 26 = .ok (.iload 5, 2) := by decide +kernel
theorem dX0_add_28 : decode cX0_add 28 = .ok (.iload_n 3, 1) := by decide +kernel
theorem dX0_add_29 : decode cX0_add 29 = .ok (.iastore, 1) := by decide +kernel
theorem dX0_add_30 : decode cX0_add 30 = .ok (.aload_n 0, 1) := by decide +kernel
theorem dX0_add_31 : decode cX0_add 31 = .ok (.getfield 21, 3) := by decide +kernel
theorem dX0_add_34 : decode cX0_add 34 = .ok (.iload 5, 2) := by decide +kernel
theorem dX0_add_36 : decode cX0_add 36 = .ok (.iload 4, 2) := by decide +kernel
theorem dX0_add_38 : decode cX0_add 38 = .ok (.iastore, 1) := by decide +kernel
theorem dX0_add_39 : decode cX0_add 39 = .ok (.aload_n 0, 1) := by decide +kernel
theorem dX0_add_40 : decode cX0_add 40 = .ok (.dup, 1) := by decide +kernel
theorem dX0_add_41 : decode cX0_add 41 = .ok (.getfield 36, 3) := by decide +kernel
theorem dX0_add_44 : decode cX0_add 44 = .ok (.iconst 1, 1) := by decide +kernel
theorem dX0_add_45 : decode cX0_add 45 = .ok (.iadd, 1) := by decide +kernel
theorem dX0_add_46 : decode cX0_add 46 = .ok (.putfield 36, 3) := by decide +kernel
theorem dX0_add_49 : decode cX0_add 49 = .ok (.iload 5, 2) := by decide +kernel
theorem dX0_add_51 : decode cX0_add 51 = .ok (.ireturn, 1) := by decide +kernel
theorem dX0_agree_0 : decode cX0_agree 0 = .ok (.aload_n 0, 1) := by decide +kernel
theorem dX0_agree_1 : decode cX0_agree 1 = .ok (.getfield 24, 3) := by decide +kernel
theorem dX0_agree_4 : decode cX0_agree 4 = .ok (.iload_n 1, 1) := by decide +kernel
theorem dX0_agree_5 : decode cX0_agree 5 = .ok (.iload_n 2, 1) := by decide +kernel
theorem dX0_agree_6 : decode cX0_agree 6 = .ok (.iastore, 1) := by decide +kernel
theorem dX0_agree_7 : decode cX0_agree 7 = .ok (.aload_n 0, 1) := by decide +kernel
theorem dX0_agree_8 : decode cX0_agree 8 = .ok (.getfield 27, 3) := by decide +kernel
theorem dX0_agree_11 : decode cX0_agree 11 = .ok (.iload_n 1, 1) := by decide +kernel
theorem dX0_agree_12 : decode cX0_agree 12 = .ok (.iload_n 3, 1) := by decide +kernel
theorem dX0_agree_13 : decode cX0_agree 13 = .ok (.iastore, 1) := by decide +kernel
theorem dX0_agree_14 : decode cX0_agree 14 = .ok (.aload_n 0, 1) := by decide +kernel
theorem dX0_agree_15 : decode cX0_agree 15 = .ok (.getfield 30, 3) := by decide +kernel
theorem dX0_agree_18 : decode cX0_agree 18 = .ok (.iload_n 1, 1) := by decide +kernel
theorem dX0_agree_19 : decode cX0_agree 19 = .ok (.iload 4, 2) := by decide +kernel
theorem dX0_agree_21 : decode cX0_agree 21 = .ok (.iastore, 1) := by decide +kernel
theorem dX0_agree_22 : decode cX0_agree 22 = .ok (.aload_n 0, 1) := by decide +kernel
theorem dX0_agree_23 : decode cX0_agree 23 = .ok (.getfield 33, 3) := by decide +kernel
theorem dX0_agree_26 : decode cX0_agree 26 = .ok (.iload_n 1, 1) := by decide +kernel
theorem dX0_agree_27 : decode cX0_agree 27 = .ok (.iload 5, 2) := by decide +kernel
theorem dX0_agree_29 : decode cX0_agree 29 = .ok (.iastore, 1) := by decide +kernel
theorem dX0_agree_30 : decode cX0_agree 30 = .ok (.return_, 1) := by decide +kernel
theorem dX0_holdsFor_0 : decode cX0_holdsFor 0 = .ok (.aload_n 0, 1) := by decide +kernel
theorem dX0_holdsFor_1 : decode cX0_holdsFor 1 = .ok (.getfield 15, 3) := by decide +kernel
theorem dX0_holdsFor_4 : decode cX0_holdsFor 4 = .ok (.iload_n 1, 1) := by decide +kernel
theorem dX0_holdsFor_5 : decode cX0_holdsFor 5 = .ok (.iaload, 1) := by decide +kernel
theorem dX0_holdsFor_6 : decode cX0_holdsFor 6 = .ok (.iload_n 2, 1) := by decide +kernel
theorem dX0_holdsFor_7 : decode cX0_holdsFor 7 = .ok (.if_icmp .ne 32, 3) := by decide +kernel
theorem dX0_holdsFor_10 : decode cX0_holdsFor 10 = .ok (.aload_n 0, 1) := by decide +kernel
theorem dX0_holdsFor_11 : decode cX0_holdsFor 11 = .ok (.getfield 18, 3) := by decide +kernel
theorem dX0_holdsFor_14 : decode cX0_holdsFor 14 = .ok (.iload_n 1, 1) := by decide +kernel
theorem dX0_holdsFor_15 : decode cX0_holdsFor 15 = .ok (.iaload, 1) := by decide +kernel
theorem dX0_holdsFor_16 : decode cX0_holdsFor 16 = .ok (.iload_n 3, 1) := by decide +kernel
theorem dX0_holdsFor_17 : decode cX0_holdsFor 17 = .ok (.ishr, 1) := by decide +kernel
theorem dX0_holdsFor_18 : decode cX0_holdsFor 18 = .ok (.iconst 1, 1) := by decide +kernel
theorem dX0_holdsFor_19 : decode cX0_holdsFor 19 = .ok (.iand, 1) := by decide +kernel
theorem dX0_holdsFor_20 : decode cX0_holdsFor 20 = .ok (.iconst 1, 1) := by decide +kernel
theorem dX0_holdsFor_21 : decode cX0_holdsFor 21 = .ok (.if_icmp .ne 18, 3) := by decide +kernel
theorem dX0_holdsFor_24 : decode cX0_holdsFor 24 = .ok (.aload_n 0, 1) := by decide +kernel
theorem dX0_holdsFor_25 : decode cX0_holdsFor 25 = .ok (.getfield 21, 3) := by decide +kernel
theorem dX0_holdsFor_28 : decode cX0_holdsFor 28 = .ok (.iload_n 1, 1) := by decide +kernel
theorem dX0_holdsFor_29 : decode cX0_holdsFor 29 = .ok (.iaload, 1) := by decide +kernel
theorem dX0_holdsFor_30 : decode cX0_holdsFor 30 = .ok (.iload 4, 2) := by decide +kernel
theorem dX0_holdsFor_32 : decode cX0_holdsFor 32 = .ok (.if_icmp .gt 7, 3) := by decide +kernel
theorem dX0_holdsFor_35 : decode cX0_holdsFor 35 = .ok (.iconst 1, 1) := by decide +kernel
theorem dX0_holdsFor_36 : decode cX0_holdsFor 36 = .ok (.goto 4, 3) := by decide +kernel
theorem dX0_holdsFor_39 : decode cX0_holdsFor 39 = .ok (.iconst 0, 1) := by decide +kernel
theorem dX0_holdsFor_40 : decode cX0_holdsFor 40 = .ok (.ireturn, 1) := by decide +kernel
theorem dX0_isReserveOf_0 : decode cX0_isReserveOf 0 = .ok (.aload_n 0, 1) := by decide +kernel
theorem dX0_isReserveOf_1 : decode cX0_isReserveOf 1 = .ok (.getfield 9, 3) := by decide +kernel
theorem dX0_isReserveOf_4 : decode cX0_isReserveOf 4 = .ok (.iload_n 1, 1) := by decide +kernel
theorem dX0_isReserveOf_5 : decode cX0_isReserveOf 5 = .ok (.iaload, 1) := by decide +kernel
theorem dX0_isReserveOf_6 : decode cX0_isReserveOf 6 = .ok (.iconst 4, 1) := by decide +kernel
theorem dX0_isReserveOf_7 : decode cX0_isReserveOf 7 = .ok (.if_icmp .ne 17, 3) := by decide +kernel
theorem dX0_isReserveOf_10 : decode cX0_isReserveOf 10 = .ok (.aload_n 0, 1) := by decide +kernel
theorem dX0_isReserveOf_11 : decode cX0_isReserveOf 11 = .ok (.getfield 15, 3) := by decide +kernel
theorem dX0_isReserveOf_14 : decode cX0_isReserveOf 14 = .ok (.iload_n 1, 1) := by decide +kernel
theorem dX0_isReserveOf_15 : decode cX0_isReserveOf 15 = .ok (.iaload, 1) := by decide +kernel
theorem dX0_isReserveOf_16 : decode cX0_isReserveOf 16 = .ok (.iload_n 2, 1) := by decide +kernel
theorem dX0_isReserveOf_17 : decode cX0_isReserveOf 17 = .ok (.if_icmp .ne 7, 3) := by decide +kernel
theorem dX0_isReserveOf_20 : decode cX0_isReserveOf 20 = .ok (.iconst 1, 1) := by decide +kernel
theorem dX0_isReserveOf_21 : decode cX0_isReserveOf 21 = .ok (.goto 4, 3) := by decide +kernel
theorem dX0_isReserveOf_24 : decode cX0_isReserveOf 24 = .ok (.iconst 0, 1) := by decide +kernel
theorem dX0_isReserveOf_25 : decode cX0_isReserveOf 25 = .ok (.ireturn, 1) := by decide +kernel
theorem dX1_init_0 : decode cX1_init 0 = .ok (.aload_n 0, 1) := by decide +kernel
theorem dX1_init_1 : decode cX1_init 1 = .ok (.invokespecial 1, 3) := by decide +kernel
theorem dX1_init_4 : decode cX1_init 4 = .ok (.aload_n 0, 1) := by decide +kernel
theorem dX1_init_5 : decode cX1_init 5 = .ok (.aload_n 1, 1) := by decide +kernel
theorem dX1_init_6 : decode cX1_init 6 = .ok (.putfield 7, 3) := by decide +kernel
theorem dX1_init_9 : decode cX1_init 9 = .ok (.aload_n 0, 1) := by decide +kernel
theorem dX1_init_10 : decode cX1_init 10 = .ok (.aload_n 2, 1) := by decide +kernel
theorem dX1_init_11 : decode cX1_init 11 = .ok (.putfield 13, 3) := by decide +kernel
theorem dX1_init_14 : decode cX1_init 14 = .ok (.aload_n 0, 1) := by decide +kernel
theorem dX1_init_15 : decode cX1_init 15 = .ok (.aload_n 3, 1) := by decide +kernel
theorem dX1_init_16 : decode cX1_init 16 = .ok (.putfield 17, 3) := by decide +kernel
theorem dX1_init_19 : decode cX1_init 19 = .ok (.aload_n 0, 1) := by decide +kernel
theorem dX1_init_20 : decode cX1_init 20 = .ok (.aload 4, 2) := by decide +kernel
theorem dX1_init_22 : decode cX1_init 22 = .ok (.putfield 21, 3) := by decide +kernel
theorem dX1_init_25 : decode cX1_init 25 = .ok (.return_, 1) := by decide +kernel
set_option maxRecDepth 20000 in
theorem ggX2_init_X3_init : GoodIn wsX2_init wsX3_init := goodIn_r _ [27, 28, 2, 3, 29, 30, 31, 32, 33, 8, 34, 35, 36, 4, 37, 38, 59, 60, 61, 62, 63, 64, 65] (by decide +kernel) (by decide +kernel)
set_option maxRecDepth 20000 in
theorem gX2_init_X3_init : GoodIn wsX2_init (wsX3_init) := ggX2_init_X3_init
theorem dX2_init_0 : decode cX2_init 0 = .ok (.aload_n 0, 1) := by decide +kernel
theorem dX2_init_1 : decode cX2_init 1 = .ok (.invokespecial 3, 3) := by decide +kernel
theorem dX2_init_4 : decode cX2_init 4 = .ok (.aload_n 0, 1) := by decide +kernel
theorem dX2_init_5 : decode cX2_init 5 = .ok (.bipush 12, 2) := by decide +kernel
theorem dX2_init_7 : decode cX2_init 7 = .ok (.newarray .long, 2) := by decide +kernel
theorem dX2_init_9 : decode cX2_init 9 = .ok (.putfield 9, 3) := by decide +kernel
theorem dX2_init_12 : decode cX2_init 12 = .ok (.aload_n 0, 1) := by decide +kernel
theorem dX2_init_13 : decode cX2_init 13 = .ok (.bipush 12, 2) := by decide +kernel
theorem dX2_init_15 : decode cX2_init 15 = .ok (.newarray .long, 2) := by decide +kernel
theorem dX2_init_17 : decode cX2_init 17 = .ok (.putfield 15, 3) := by decide +kernel
theorem dX2_init_20 : decode cX2_init 20 = .ok (.aload_n 0, 1) := by decide +kernel
theorem dX2_init_21 : decode cX2_init 21 = .ok (.bipush 12, 2) := by decide +kernel
theorem dX2_init_23 : decode cX2_init 23 = .ok (.newarray .long, 2) := by decide +kernel
theorem dX2_init_25 : decode cX2_init 25 = .ok (.putfield 18, 3) := by decide +kernel
theorem dX2_init_28 : decode cX2_init 28 = .ok (.aload_n 0, 1) := by decide +kernel
theorem dX2_init_29 : decode cX2_init 29 = .ok (.sipush 480, 3) := by decide +kernel
theorem dX2_init_32 : decode cX2_init 32 = .ok (.newarray .int, 2) := by decide +kernel
theorem dX2_init_34 : decode cX2_init 34 = .ok (.putfield 21, 3) := by decide +kernel
theorem dX2_init_37 : decode cX2_init 37 = .ok (.aload_n 0, 1) := by decide +kernel
theorem dX2_init_38 : decode cX2_init 38 = .ok (.bipush 24, 2) := by decide +kernel
theorem dX2_init_40 : decode cX2_init 40 = .ok (.newarray .long, 2) := by decide +kernel
theorem dX2_init_42 : decode cX2_init 42 = .ok (.putfield 25, 3) := by decide +kernel
theorem dX2_init_45 : decode cX2_init 45 = .ok (.aload_n 0, 1) := by decide +kernel
theorem dX2_init_46 : decode cX2_init 46 = .ok (.bipush 24, 2) := by decide +kernel
theorem dX2_init_48 : decode cX2_init 48 = .ok (.newarray .long, 2) := by decide +kernel
theorem dX2_init_50 : decode cX2_init 50 = .ok (.putfield 28, 3) := by decide +kernel
theorem dX2_init_53 : decode cX2_init 53 = .ok (.aload_n 0, 1) := by decide +kernel
theorem dX2_init_54 : decode cX2_init 54 = .ok (.sipush 960, 3) := by decide +kernel
theorem dX2_init_57 : decode cX2_init 57 = .ok (.newarray .long, 2) := by decide +kernel
theorem dX2_init_59 : decode cX2_init 59 = .ok (.putfield 31, 3) := by decide +kernel
theorem dX2_init_62 : decode cX2_init 62 = .ok (.aload_n 0, 1) := by decide +kernel
theorem dX2_init_63 : decode cX2_init 63 = .ok (.aload_n 1, 1) := by decide +kernel
theorem dX2_init_64 : decode cX2_init 64 = .ok (.getfield 34, 3) := by decide +kernel
theorem dX2_init_67 : decode cX2_init 67 = .ok (.putfield 40, 3) := by decide +kernel
theorem dX2_init_70 : decode cX2_init 70 = .ok (.aload_n 0, 1) := by decide +kernel
theorem dX2_init_71 : decode cX2_init 71 = .ok (.aload_n 1, 1) := by decide +kernel
theorem dX2_init_72 : decode cX2_init 72 = .ok (.getfield 41, 3) := by decide +kernel
theorem dX2_init_75 : decode cX2_init 75 = .ok (.putfield 45, 3) := by decide +kernel
theorem dX2_init_78 : decode cX2_init 78 = .ok (.aload_n 0, 1) := by decide +kernel
theorem dX2_init_79 : decode cX2_init 79 = .ok (.aload_n 1, 1) := by decide +kernel
theorem dX2_init_80 : decode cX2_init 80 = .ok (.getfield 46, 3) := by decide +kernel
theorem dX2_init_83 : decode cX2_init 83 = .ok (.putfield 50, 3) := by decide +kernel
theorem dX2_init_86 : decode cX2_init 86 = .ok (.aload_n 0, 1) := by decide +kernel
theorem dX2_init_87 : decode cX2_init 87 = .ok (.aload_n 1, 1) := by decide +kernel
theorem dX2_init_88 : decode cX2_init 88 = .ok (.getfield 51, 3) := by decide +kernel
theorem dX2_init_91 : decode cX2_init 91 = .ok (.putfield 55, 3) := by decide +kernel
theorem dX2_init_94 : decode cX2_init 94 = .ok (.aload_n 0, 1) := by decide +kernel
theorem dX2_init_95 : decode cX2_init 95 = .ok (.new 56, 3) := by decide +kernel
theorem dX2_init_98 : decode cX2_init 98 = .ok (.dup, 1) := by decide +kernel
theorem dX2_init_99 : decode cX2_init 99 = .ok (.iload_n 2, 1) := by decide +kernel
theorem dX2_init_100 : decode cX2_init 100 = .ok (.invokespecial 58, 3) := by decide +kernel
theorem dX2_init_103 : decode cX2_init 103 = .ok (.putfield 61, 3) := by decide +kernel
theorem dX2_init_106 : decode cX2_init 106 = .ok (.return_, 1) := by decide +kernel
set_option maxRecDepth 20000 in
theorem ggX2_clear_J7_fill_d0a16 : GoodIn wsX2_clear wsJ7_fill_d0a16 := goodIn_r _ [14] (by decide +kernel) (by decide +kernel)
set_option maxRecDepth 20000 in
theorem gX2_clear_J7_fill_d0a16 : GoodIn wsX2_clear (va_wsS RX2 65 yJ7_fill_d0a16 wsJ7_fill_d0a16) := goodIn_app (goodIn_of _ (by decide +kernel)) ggX2_clear_J7_fill_d0a16
set_option maxRecDepth 20000 in
theorem ggX2_clear_J7_fill_53178 : GoodIn wsX2_clear wsJ7_fill_53178 := goodIn_r _ [17] (by decide +kernel) (by decide +kernel)
set_option maxRecDepth 20000 in
theorem gX2_clear_J7_fill_53178 : GoodIn wsX2_clear (va_wsS RX2 71 yJ7_fill_53178 wsJ7_fill_53178) := goodIn_app (goodIn_of _ (by decide +kernel)) ggX2_clear_J7_fill_53178
theorem dX2_clear_0 : decode cX2_clear 0 = .ok (.aload_n 0, 1) := by decide +kernel
theorem dX2_clear_1 : decode cX2_clear 1 = .ok (.getfield 9, 3) := by decide +kernel
theorem dX2_clear_4 : decode cX2_clear 4 = .ok (.lconst 0, 1) := by decide +kernel
theorem dX2_clear_5 : decode cX2_clear 5 = .ok (.invokestatic 65, 3) := by decide +kernel
theorem dX2_clear_8 : decode cX2_clear 8 = .ok (.aload_n 0, 1) := by decide +kernel
theorem dX2_clear_9 : decode cX2_clear 9 = .ok (.getfield 15, 3) := by decide +kernel
theorem dX2_clear_12 : decode cX2_clear 12 = .ok (.lconst 0, 1) := by decide +kernel
theorem dX2_clear_13 : decode cX2_clear 13 = .ok (.invokestatic 65, 3) := by decide +kernel
theorem dX2_clear_16 : decode cX2_clear 16 = .ok (.aload_n 0, 1) := by decide +kernel
theorem dX2_clear_17 : decode cX2_clear 17 = .ok (.getfield 18, 3) := by decide +kernel
theorem dX2_clear_20 : decode cX2_clear 20 = .ok (.lconst 0, 1) := by decide +kernel
theorem dX2_clear_21 : decode cX2_clear 21 = .ok (.invokestatic 65, 3) := by decide +kernel
theorem dX2_clear_24 : decode cX2_clear 24 = .ok (.aload_n 0, 1) := by decide +kernel
theorem dX2_clear_25 : decode cX2_clear 25 = .ok (.getfield 21, 3) := by decide +kernel
theorem dX2_clear_28 : decode cX2_clear 28 = .ok (.iconst 0, 1) := by decide +kernel
theorem dX2_clear_29 : decode cX2_clear 29 = .ok (.invokestatic 71, 3) := by decide +kernel
theorem dX2_clear_32 : decode cX2_clear 32 = .ok (.aload_n 0, 1) := by decide +kernel
theorem dX2_clear_33 : decode cX2_clear 33 = .ok (.getfield 25, 3) := by decide +kernel
theorem dX2_clear_36 : decode cX2_clear 36 = .ok (.lconst 0, 1) := by decide +kernel
theorem dX2_clear_37 : decode cX2_clear 37 = .ok (.invokestatic 65, 3) := by decide +kernel
theorem dX2_clear_40 : decode cX2_clear 40 = .ok (.aload_n 0, 1) := by decide +kernel
theorem dX2_clear_41 : decode cX2_clear 41 = .ok (.getfield 28, 3) := by decide +kernel
theorem dX2_clear_44 : decode cX2_clear 44 = .ok (.lconst 0, 1) := by decide +kernel
theorem dX2_clear_45 : decode cX2_clear 45 = .ok (.invokestatic 65, 3) := by decide +kernel
theorem dX2_clear_48 : decode cX2_clear 48 = .ok (.aload_n 0, 1) := by decide +kernel
theorem dX2_clear_49 : decode cX2_clear 49 = .ok (.getfield 31, 3) := by decide +kernel
theorem dX2_clear_52 : decode cX2_clear 52 = .ok (.lconst 0, 1) := by decide +kernel
theorem dX2_clear_53 : decode cX2_clear 53 = .ok (.invokestatic 65, 3) := by decide +kernel
theorem dX2_clear_56 : decode cX2_clear 56 = .ok (.aload_n 0, 1) := by decide +kernel
theorem dX2_clear_57 : decode cX2_clear 57 = .ok (.lconst 0, 1) := by decide +kernel
theorem dX2_clear_58 : decode cX2_clear 58 = .ok (.putfield 74, 3) := by decide +kernel
theorem dX2_clear_61 : decode cX2_clear 61 = .ok (.aload_n 0, 1) := by decide +kernel
theorem dX2_clear_62 : decode cX2_clear 62 = .ok (.iconst 0, 1) := by decide +kernel
theorem dX2_clear_63 : decode cX2_clear 63 = .ok (.putfield 78, 3) := by decide +kernel
theorem dX2_clear_66 : decode cX2_clear 66 = .ok (.aload_n 0, 1) := by decide +kernel
theorem dX2_clear_67 : decode cX2_clear 67 = .ok (.iconst 0, 1) := by decide +kernel
theorem dX2_clear_68 : decode cX2_clear 68 = .ok (.putfield 82, 3) := by decide +kernel
theorem dX2_clear_71 : decode cX2_clear 71 = .ok (.return_, 1) := by decide +kernel
set_option maxRecDepth 20000 in
theorem ggX2_reckonTo_X2_takeSentOf : GoodIn wsX2_reckonTo wsX2_takeSentOf := goodIn_r _ [10, 11, 12, 13, 14, 15, 16, 17, 18, 19, 20, 9, 21, 5, 22, 23, 24, 25, 26, 3, 27, 28, 29, 30, 31, 32, 33, 34, 35, 36, 154, 155, 156, 157, 158, 159, 160, 161, 162, 163, 164, 165, 166, 167, 168, 169, 170, 171, 172, 173, 174, 175, 176, 177, 178, 179, 180, 181, 182, 183] (by decide +kernel) (by decide +kernel)
set_option maxRecDepth 20000 in
theorem gX2_reckonTo_X2_takeSentOf : GoodIn wsX2_reckonTo (wsV RX2 91 RX2 yX2_takeSentOf wsX2_takeSentOf) := goodIn_app (goodIn_of _ (by decide +kernel)) ggX2_reckonTo_X2_takeSentOf
set_option maxRecDepth 20000 in
theorem ggX2_reckonTo_X2_closeTerm : GoodIn wsX2_reckonTo wsX2_closeTerm := goodIn_r _ [40, 41, 42, 43, 5, 44, 45, 46, 47, 48, 49, 50, 51, 52, 53, 54, 55, 56, 57, 58, 59, 60, 61, 62, 9, 63, 64, 65, 17, 66, 67, 68, 69, 70, 71, 72, 73, 74, 75, 76, 77, 78, 79, 80, 81, 82, 83, 84, 85, 86, 87, 88, 89, 90, 91, 92, 93, 22, 23, 94, 95, 96, 24, 97, 98, 99, 100, 101, 102, 103, 104, 105, 106, 107, 108, 109, 110, 111, 112, 113, 114, 115, 33, 116, 36, 117, 118, 119, 120, 121, 122, 123, 25, 26, 3, 27, 124, 125, 126, 127, 128, 129, 130, 131, 132, 133, 134, 135, 136, 137, 138, 139, 140, 141, 142, 28, 143, 144, 145, 146, 147, 148, 149, 150, 151, 152, 153, 154, 155, 156, 157, 158, 159, 160, 161, 162, 163, 164, 165, 166, 167, 168, 169, 184, 185, 186, 187, 188, 189, 190, 191, 192, 193, 194, 195, 196, 197, 198, 199, 200, 175, 176, 177, 178, 179, 180, 181, 182, 183] (by decide +kernel) (by decide +kernel)
set_option maxRecDepth 20000 in
theorem gX2_reckonTo_X2_closeTerm : GoodIn wsX2_reckonTo (wsV RX2 94 RX2 yX2_closeTerm wsX2_closeTerm) := goodIn_app (goodIn_of _ (by decide +kernel)) ggX2_reckonTo_X2_closeTerm
theorem dX2_reckonTo_0 : decode cX2_reckonTo 0 = .ok (.iload_n 1, 1) := by decide +kernel
theorem dX2_reckonTo_1 : decode cX2_reckonTo 1 = .ok (.bipush 40, 2) := by decide +kernel
theorem dX2_reckonTo_3 : decode cX2_reckonTo 3 = .ok (.invokestatic 85, 3) := by decide +kernel
theorem dX2_reckonTo_6 : decode cX2_reckonTo 6 = .ok (.istore_n 2, 1) := by decide +kernel
theorem dX2_reckonTo_7 : decode cX2_reckonTo 7 = .ok (.aload_n 0, 1) := by decide +kernel
theorem dX2_reckonTo_8 : decode cX2_reckonTo 8 = .ok (.getfield 78, 3) := by decide +kernel
theorem dX2_reckonTo_11 : decode cX2_reckonTo 11 = .ok (.istore_n 3, 1) := by decide +kernel
theorem dX2_reckonTo_12 : decode cX2_reckonTo 12 = .ok (.iload_n 3, 1) := by decide +kernel
theorem dX2_reckonTo_13 : decode cX2_reckonTo 13 = .ok (.iload_n 2, 1) := by decide +kernel
theorem dX2_reckonTo_14 : decode cX2_reckonTo 14 = .ok (.if_icmp .ge 18, 3) := by decide +kernel
theorem dX2_reckonTo_17 : decode cX2_reckonTo 17 = .ok (.aload_n 0, 1) := by decide +kernel
theorem dX2_reckonTo_18 : decode cX2_reckonTo 18 = .ok (.iload_n 3, 1) := by decide +kernel
theorem dX2_reckonTo_19 : decode cX2_reckonTo 19 = .ok (.invokevirtual 91, 3) := by decide +kernel
theorem dX2_reckonTo_22 : decode cX2_reckonTo 22 = .ok (.aload_n 0, 1) := by decide +kernel
theorem dX2_reckonTo_23 : decode cX2_reckonTo 23 = .ok (.invokevirtual 94, 3) := by decide +kernel
theorem dX2_reckonTo_26 : decode cX2_reckonTo 26 = .ok (.iinc 3 1, 3) := by decide +kernel
theorem dX2_reckonTo_29 : decode cX2_reckonTo 29 = .ok (.goto (-17), 3) := by decide +kernel
theorem dX2_reckonTo_32 : decode cX2_reckonTo 32 = .ok (.aload_n 0, 1) := by decide +kernel
theorem dX2_reckonTo_33 : decode cX2_reckonTo 33 = .ok (.iload_n 1, 1) := by decide +kernel
theorem dX2_reckonTo_34 : decode cX2_reckonTo 34 = .ok (.invokevirtual 91, 3) := by decide +kernel
theorem dX2_reckonTo_37 : decode cX2_reckonTo 37 = .ok (.return_, 1) := by decide +kernel
set_option maxRecDepth 20000 in
theorem ggX2_becomeLike_X2_worth : GoodIn wsX2_becomeLike wsX2_worth := goodIn_r _ [16, 17, 1, 2, 18, 19, 20, 15, 21, 22, 23, 24, 25, 26, 27, 28, 29, 30, 31, 32, 33, 34, 35, 36, 37, 38, 39, 40, 41, 42, 43] (by decide +kernel) (by decide +kernel)
set_option maxRecDepth 20000 in
theorem gX2_becomeLike_X2_worth : GoodIn wsX2_becomeLike (wsV RX2 97 RX2 yX2_worth wsX2_worth) := goodIn_app (goodIn_of _ (by decide +kernel)) ggX2_becomeLike_X2_worth
theorem dX2_becomeLike_0 : decode cX2_becomeLike 0 = .ok (.iconst 0, 1) := by decide +kernel
theorem dX2_becomeLike_1 : decode cX2_becomeLike 1 = .ok (.istore_n 2, 1) := by decide +kernel
theorem dX2_becomeLike_2 : decode cX2_becomeLike 2 = .ok (.iload_n 2, 1) := by decide +kernel
theorem dX2_becomeLike_3 : decode cX2_becomeLike 3 = .ok (.bipush 12, 2) := by decide +kernel
theorem dX2_becomeLike_5 : decode cX2_becomeLike 5 = .ok (.if_icmp .ge 69, 3) := by decide +kernel
theorem dX2_becomeLike_8 : decode cX2_becomeLike 8 = .ok (.aload_n 1, 1) := by decide +kernel
theorem dX2_becomeLike_9 : decode cX2_becomeLike 9 = .ok (.iload_n 2, 1) := by decide +kernel
theorem dX2_becomeLike_10 : decode cX2_becomeLike 10 = .ok (.invokevirtual 97, 3) := by decide +kernel
theorem dX2_becomeLike_13 : decode cX2_becomeLike 13 = .ok (.aload_n 0, 1) := by decide +kernel
theorem dX2_becomeLike_14 : decode cX2_becomeLike 14 = .ok (.iload_n 2, 1) := by decide +kernel
theorem dX2_becomeLike_15 : decode cX2_becomeLike 15 = .ok (.invokevirtual 97, 3) := by decide +kernel
theorem dX2_becomeLike_18 : decode cX2_becomeLike 18 = .ok (.lsub, 1) := by decide +kernel
theorem dX2_becomeLike_19 : decode cX2_becomeLike 19 = .ok (.lstore_n 3, 1) := by decide +kernel
theorem dX2_becomeLike_20 : decode cX2_becomeLike 20 = .ok (.aload_n 0, 1) := by decide +kernel
theorem dX2_becomeLike_21 : decode cX2_becomeLike 21 = .ok (.getfield 9, 3) := by decide +kernel
theorem dX2_becomeLike_24 : decode cX2_becomeLike 24 = .ok (.iload_n 2, 1) := by decide +kernel
theorem dX2_becomeLike_25 : decode cX2_becomeLike 25 = .ok (.dup2, 1) := by decide +kernel
theorem dX2_becomeLike_26 : decode cX2_becomeLike 26 = .ok (.laload, 1) := by decide +kernel
theorem dX2_becomeLike_27 : decode cX2_becomeLike 27 = .ok (.lload_n 3, 1) := by decide +kernel
theorem dX2_becomeLike_28 : decode cX2_becomeLike 28 = .ok (.aload_n 1, 1) := by decide +kernel
theorem dX2_becomeLike_29 : decode cX2_becomeLike 29 = .ok (.getfield 15, 3) := by decide +kernel
theorem dX2_becomeLike_32 : decode cX2_becomeLike 32 = .ok (.iload_n 2, 1) := by decide +kernel
theorem dX2_becomeLike_33 : decode cX2_becomeLike 33 = .ok (.laload, 1) := by decide +kernel
theorem dX2_becomeLike_34 : decode cX2_becomeLike 34 = .ok (.ladd, 1) := by decide +kernel
theorem dX2_becomeLike_35 : decode cX2_becomeLike 35 = .ok (.aload_n 0, 1) := by decide +kernel
theorem dX2_becomeLike_36 : decode cX2_becomeLike 36 = .ok (.getfield 15, 3) := by decide +kernel
theorem dX2_becomeLike_39 : decode cX2_becomeLike 39 = .ok (.iload_n 2, 1) := by decide +kernel
theorem dX2_becomeLike_40 : decode cX2_becomeLike 40 = .ok (.laload, 1) := by decide +kernel
theorem dX2_becomeLike_41 : decode cX2_becomeLike 41 = .ok (.lsub, 1) := by decide +kernel
theorem dX2_becomeLike_42 : decode cX2_becomeLike 42 = .ok (.ladd, 1) := by decide +kernel
theorem dX2_becomeLike_43 : decode cX2_becomeLike 43 = .ok (.lastore, 1) := by decide +kernel
theorem dX2_becomeLike_44 : decode cX2_becomeLike 44 = .ok (.aload_n 0, 1) := by decide +kernel
theorem dX2_becomeLike_45 : decode cX2_becomeLike 45 = .ok (.getfield 15, 3) := by decide +kernel
theorem dX2_becomeLike_48 : decode cX2_becomeLike 48 = .ok (.iload_n 2, 1) := by decide +kernel
theorem dX2_becomeLike_49 : decode cX2_becomeLike 49 = .ok (.aload_n 1, 1) := by decide +kernel
theorem dX2_becomeLike_50 : decode cX2_becomeLike 50 = .ok (.getfield 15, 3) := by decide +kernel
theorem dX2_becomeLike_53 : decode cX2_becomeLike 53 = .ok (.iload_n 2, 1) := by decide +kernel
theorem dX2_becomeLike_54 : decode cX2_becomeLike 54 = .ok (.laload, 1) := by decide +kernel
theorem dX2_becomeLike_55 : decode cX2_becomeLike 55 = .ok (.lastore, 1) := by decide +kernel
theorem dX2_becomeLike_56 : decode cX2_becomeLike 56 = .ok (.aload_n 0, 1) := by decide +kernel
theorem dX2_becomeLike_57 : decode cX2_becomeLike 57 = .ok (.getfield 18, 3) := by decide +kernel
theorem dX2_becomeLike_60 : decode cX2_becomeLike 60 = .ok (.iload_n 2, 1) := by decide +kernel
theorem dX2_becomeLike_61 : decode cX2_becomeLike 61 = .ok (.aload_n 1, 1) := by decide +kernel
theorem dX2_becomeLike_62 : decode cX2_becomeLike 62 = .ok (.getfield 18, 3) := by decide +kernel
theorem dX2_becomeLike_65 : decode cX2_becomeLike 65 = .ok (.iload_n 2, 1) := by decide +kernel
theorem dX2_becomeLike_66 : decode cX2_becomeLike 66 = .ok (.laload, 1) := by decide +kernel
theorem dX2_becomeLike_67 : decode cX2_becomeLike 67 = .ok (.lastore, 1) := by decide +kernel
theorem dX2_becomeLike_68 : decode cX2_becomeLike 68 = .ok (.iinc 2 1, 3) := by decide +kernel
theorem dX2_becomeLike_71 : decode cX2_becomeLike 71 = .ok (.goto (-69), 3) := by decide +kernel
theorem dX2_becomeLike_74 : decode cX2_becomeLike 74 = .ok (.aload_n 1, 1) := by decide +kernel
theorem dX2_becomeLike_75 : decode cX2_becomeLike 75 = .ok (.getfield 25, 3) := by decide +kernel
theorem dX2_becomeLike_78 : decode cX2_becomeLike 78 = .ok (.iconst 0, 1) := by decide +kernel
theorem dX2_becomeLike_79 : decode cX2_becomeLike 79 = .ok (.aload_n 0, 1) := by decide +kernel
theorem dX2_becomeLike_80 : decode cX2_becomeLike 80 = .ok (.getfield 25, 3) := by decide +kernel
theorem dX2_becomeLike_83 : decode cX2_becomeLike 83 = .ok (.iconst 0, 1) := by decide +kernel
theorem dX2_becomeLike_84 : decode cX2_becomeLike 84 = .ok (.bipush 24, 2) := by decide +kernel
theorem dX2_becomeLike_86 : decode cX2_becomeLike 86 = .ok (.invokestatic 101, 3) := by decide +kernel
theorem dX2_becomeLike_89 : decode cX2_becomeLike 89 = .ok (.aload_n 1, 1) := by decide +kernel
theorem dX2_becomeLike_90 : decode cX2_becomeLike 90 = .ok (.getfield 28, 3) := by decide +kernel
theorem dX2_becomeLike_93 : decode cX2_becomeLike 93 = .ok (.iconst 0, 1) := by decide +kernel
theorem dX2_becomeLike_94 : decode cX2_becomeLike 94 = .ok (.aload_n 0, 1) := by decide +kernel
theorem dX2_becomeLike_95 : decode cX2_becomeLike 95 = .ok (.getfield 28, 3) := by decide +kernel
theorem dX2_becomeLike_98 : decode cX2_becomeLike 98 = .ok (.iconst 0, 1) := by decide +kernel
theorem dX2_becomeLike_99 : decode cX2_becomeLike 99 = .ok (.bipush 24, 2) := by decide +kernel
theorem dX2_becomeLike_101 : decode cX2_becomeLike 101 = .ok (.invokestatic 101, 3) := by decide +kernel
theorem dX2_becomeLike_104 : decode cX2_becomeLike 104 = .ok (.aload_n 1, 1) := by decide +kernel
theorem dX2_becomeLike_105 : decode cX2_becomeLike 105 = .ok (.getfield 31, 3) := by decide +kernel
theorem dX2_becomeLike_108 : decode cX2_becomeLike 108 = .ok (.iconst 0, 1) := by decide +kernel
theorem dX2_becomeLike_109 : decode cX2_becomeLike 109 = .ok (.aload_n 0, 1) := by decide +kernel
theorem dX2_becomeLike_110 : decode cX2_becomeLike 110 = .ok (.getfield 31, 3) := by decide +kernel
theorem dX2_becomeLike_113 : decode cX2_becomeLike 113 = .ok (.iconst 0, 1) := by decide +kernel
theorem dX2_becomeLike_114 : decode cX2_becomeLike 114 = .ok (.sipush 960, 3) := by decide +kernel
theorem dX2_becomeLike_117 : decode cX2_becomeLike 117 = .ok (.invokestatic 101, 3) := by decide +kernel
theorem dX2_becomeLike_120 : decode cX2_becomeLike 120 = .ok (.aload_n 0, 1) := by decide +kernel
theorem dX2_becomeLike_121 : decode cX2_becomeLike 121 = .ok (.aload_n 1, 1) := by decide +kernel
theorem dX2_becomeLike_122 : decode cX2_becomeLike 122 = .ok (.getfield 74, 3) := by decide +kernel
theorem dX2_becomeLike_125 : decode cX2_becomeLike 125 = .ok (.putfield 74, 3) := by decide +kernel
theorem dX2_becomeLike_128 : decode cX2_becomeLike 128 = .ok (.return_, 1) := by decide +kernel
set_option maxRecDepth 20000 in
theorem ggX2_worth_X2_allDues : GoodIn wsX2_worth wsX2_allDues := goodIn_r _ [8, 9, 10, 11, 12, 7, 13, 14, 15, 16, 17, 18, 19, 20, 21, 22, 23, 24, 25, 26, 27, 28, 29, 30] (by decide +kernel) (by decide +kernel)
set_option maxRecDepth 20000 in
theorem gX2_worth_X2_allDues : GoodIn wsX2_worth (wsV RX2 107 RX2 yX2_allDues wsX2_allDues) := goodIn_app (goodIn_of _ (by decide +kernel)) ggX2_worth_X2_allDues
theorem dX2_worth_0 : decode cX2_worth 0 = .ok (.aload_n 0, 1) := by decide +kernel
theorem dX2_worth_1 : decode cX2_worth 1 = .ok (.iload_n 1, 1) := by decide +kernel
theorem dX2_worth_2 : decode cX2_worth 2 = .ok (.invokevirtual 107, 3) := by decide +kernel
theorem dX2_worth_5 : decode cX2_worth 5 = .ok (.ldc2_w 110, 3) := by decide +kernel
theorem dX2_worth_8 : decode cX2_worth 8 = .ok (.lmul, 1) := by decide +kernel
theorem dX2_worth_9 : decode cX2_worth 9 = .ok (.aload_n 0, 1) := by decide +kernel
theorem dX2_worth_10 : decode cX2_worth 10 = .ok (.getfield 9, 3) := by decide +kernel
theorem dX2_worth_13 : decode cX2_worth 13 = .ok (.iload_n 1, 1) := by decide +kernel
theorem dX2_worth_14 : decode cX2_worth 14 = .ok (.laload, 1) := by decide +kernel
theorem dX2_worth_15 : decode cX2_worth 15 = .ok (.ladd, 1) := by decide +kernel
theorem dX2_worth_16 : decode cX2_worth 16 = .ok (.aload_n 0, 1) := by decide +kernel
theorem dX2_worth_17 : decode cX2_worth 17 = .ok (.getfield 15, 3) := by decide +kernel
theorem dX2_worth_20 : decode cX2_worth 20 = .ok (.iload_n 1, 1) := by decide +kernel
theorem dX2_worth_21 : decode cX2_worth 21 = .ok (.laload, 1) := by decide +kernel
theorem dX2_worth_22 : decode cX2_worth 22 = .ok (.lsub, 1) := by decide +kernel
theorem dX2_worth_23 : decode cX2_worth 23 = .ok (.lreturn, 1) := by decide +kernel
set_option maxRecDepth 20000 in
theorem ggX2_allDues_X2_duesOf : GoodIn wsX2_allDues wsX2_duesOf := goodIn_r _ [6, 7, 8, 9, 10, 11, 12, 13, 14, 15, 16, 17, 18, 19, 20, 21, 22, 23] (by decide +kernel) (by decide +kernel)
set_option maxRecDepth 20000 in
theorem gX2_allDues_X2_duesOf : GoodIn wsX2_allDues (wsV RX2 112 RX2 yX2_duesOf wsX2_duesOf) := goodIn_app (goodIn_of _ (by decide +kernel)) ggX2_allDues_X2_duesOf
theorem dX2_allDues_0 : decode cX2_allDues 0 = .ok (.aload_n 0, 1) := by decide +kernel
theorem dX2_allDues_1 : decode cX2_allDues 1 = .ok (.iload_n 1, 1) := by decide +kernel
theorem dX2_allDues_2 : decode cX2_allDues 2 = .ok (.iconst 0, 1) := by decide +kernel
theorem dX2_allDues_3 : decode cX2_allDues 3 = .ok (.aload_n 0, 1) := by decide +kernel
theorem dX2_allDues_4 : decode cX2_allDues 4 = .ok (.getfield 78, 3) := by decide +kernel
theorem dX2_allDues_7 : decode cX2_allDues 7 = .ok (.invokevirtual 112, 3) := by decide +kernel
theorem dX2_allDues_10 : decode cX2_allDues 10 = .ok (.lreturn, 1) := by decide +kernel
theorem dX2_allFilled_0 : decode cX2_allFilled 0 = .ok (.lconst 0, 1) := by decide +kernel
theorem dX2_allFilled_1 : decode cX2_allFilled 1 = .ok (.lstore_n 1, 1) := by decide +kernel
theorem dX2_allFilled_2 : decode cX2_allFilled 2 = .ok (.iconst 0, 1) := by decide +kernel
theorem dX2_allFilled_3 : decode cX2_allFilled 3 = .ok (.istore_n 3, 1) := by decide +kernel
theorem dX2_allFilled_4 : decode cX2_allFilled 4 = .ok (.iload_n 3, 1) := by decide +kernel
theorem dX2_allFilled_5 : decode cX2_allFilled 5 = .ok (.bipush 12, 2) := by decide +kernel
theorem dX2_allFilled_7 : decode cX2_allFilled 7 = .ok (.if_icmp .ge 18, 3) := by decide +kernel
theorem dX2_allFilled_10 : decode cX2_allFilled 10 = .ok (.lload_n 1, 1) := by decide +kernel
theorem dX2_allFilled_11 : decode cX2_allFilled 11 = .ok (.aload_n 0, 1) := by decide +kernel
theorem dX2_allFilled_12 : decode cX2_allFilled 12 = .ok (.getfield 18, 3) := by decide +kernel
theorem dX2_allFilled_15 : decode cX2_allFilled 15 = .ok (.iload_n 3, 1) := by decide +kernel
theorem dX2_allFilled_16 : decode cX2_allFilled 16 = .ok (.laload, 1) := by decide +kernel
theorem dX2_allFilled_17 : decode cX2_allFilled 17 = .ok (.ladd, 1) := by decide +kernel
theorem dX2_allFilled_18 : decode cX2_allFilled 18 = .ok (.lstore_n 1, 1) := by decide +kernel
theorem dX2_allFilled_19 : decode cX2_allFilled 19 = .ok (.iinc 3 1, 3) := by decide +kernel
theorem dX2_allFilled_22 : decode cX2_allFilled 22 = .ok (.goto (-18), 3) := by decide +kernel
theorem dX2_allFilled_25 : decode cX2_allFilled 25 = .ok (.lload_n 1, 1) := by decide +kernel
theorem dX2_allFilled_26 : decode cX2_allFilled 26 = .ok (.lreturn, 1) := by decide +kernel
theorem dX2_stillIn_0 : decode cX2_stillIn 0 = .ok (.aload_n 0, 1) := by decide +kernel
theorem dX2_stillIn_1 : decode cX2_stillIn 1 = .ok (.getfield 45, 3) := by decide +kernel
theorem dX2_stillIn_4 : decode cX2_stillIn 4 = .ok (.getfield 116, 3) := by decide +kernel
theorem dX2_stillIn_7 : decode cX2_stillIn 7 = .ok (.iload_n 1, 1) := by decide +kernel
theorem dX2_stillIn_8 : decode cX2_stillIn 8 = .ok (.iaload, 1) := by decide +kernel
theorem dX2_stillIn_9 : decode cX2_stillIn 9 = .ok (.iconst 1, 1) := by decide +kernel
theorem dX2_stillIn_10 : decode cX2_stillIn 10 = .ok (.if_icmp .ne 25, 3) := by decide +kernel
theorem dX2_stillIn_13 : decode cX2_stillIn 13 = .ok (.aload_n 0, 1) := by decide +kernel
theorem dX2_stillIn_14 : decode cX2_stillIn 14 = .ok (.getfield 45, 3) := by decide +kernel
theorem dX2_stillIn_17 : decode cX2_stillIn 17 = .ok (.getfield 121, 3) := by decide +kernel
theorem dX2_stillIn_20 : decode cX2_stillIn 20 = .ok (.iload_n 1, 1) := by decide +kernel
theorem dX2_stillIn_21 : decode cX2_stillIn 21 = .ok (.iaload, 1) := by decide +kernel
theorem dX2_stillIn_22 : decode cX2_stillIn 22 = .ok (.i2l, 1) := by decide +kernel
theorem dX2_stillIn_23 : decode cX2_stillIn 23 = .ok (.ldc2_w 110, 3) := by decide +kernel
theorem dX2_stillIn_26 : decode cX2_stillIn 26 = .ok (.lmul, 1) := by decide +kernel
theorem dX2_stillIn_27 : decode cX2_stillIn 27 = .ok (.aload_n 0, 1) := by decide +kernel
theorem dX2_stillIn_28 : decode cX2_stillIn 28 = .ok (.getfield 25, 3) := by decide +kernel
theorem dX2_stillIn_31 : decode cX2_stillIn 31 = .ok (.iload_n 1, 1) := by decide +kernel
theorem dX2_stillIn_32 : decode cX2_stillIn 32 = .ok (.laload, 1) := by decide +kernel
theorem dX2_stillIn_33 : decode cX2_stillIn 33 = .ok (.lsub, 1) := by decide +kernel
theorem dX2_stillIn_34 : decode cX2_stillIn 34 = .ok (.lreturn, 1) := by decide +kernel
theorem dX2_stillIn_35 : decode cX2_stillIn 35 = .ok (.lconst 0, 1) := by decide +kernel
theorem dX2_stillIn_36 : decode cX2_stillIn 36 = .ok (.lstore_n 2, 1) := by decide +kernel
theorem dX2_stillIn_37 : decode cX2_stillIn 37 = .ok (.iconst 0, 1) := by decide +kernel
theorem dX2_stillIn_38 : decode cX2_stillIn 38 = .ok (.istore 4, 2) := by decide +kernel
theorem dX2_stillIn_40 : decode cX2_stillIn 40 = .ok (.iload 4, 2) := by decide +kernel
theorem dX2_stillIn_42 : decode cX2_stillIn 42 = .ok (.bipush 40, 2) := by decide +kernel
theorem dX2_stillIn_44 : decode cX2_stillIn 44 = .ok (.if_icmp .ge 24, 3) := by decide +kernel
theorem dX2_stillIn_47 : decode cX2_stillIn 47 = .ok (.lload_n 2, 1) := by decide +kernel
theorem dX2_stillIn_48 : decode cX2_stillIn 48 = .ok (.aload_n 0, 1) := by decide +kernel
theorem dX2_stillIn_49 : decode cX2_stillIn 49 = .ok (.getfield 31, 3) := by decide +kernel
theorem dX2_stillIn_52 : decode cX2_stillIn 52 = .ok (.iload_n 1, 1) := by decide +kernel
theorem dX2_stillIn_53 : decode cX2_stillIn 53 = .ok (.bipush 40, 2) := by decide +kernel
theorem dX2_stillIn_55 : decode cX2_stillIn 55 = .ok (.imul, 1) := by decide +kernel
theorem dX2_stillIn_56 : decode cX2_stillIn 56 = .ok (.iload 4, 2) := by decide +kernel
theorem dX2_stillIn_58 : decode cX2_stillIn 58 = .ok (.iadd, 1) := by decide +kernel
theorem dX2_stillIn_59 : decode cX2_stillIn 59 = .ok (.laload, 1) := by decide +kernel
theorem dX2_stillIn_60 : decode cX2_stillIn 60 = .ok (.ladd, 1) := by decide +kernel
theorem dX2_stillIn_61 : decode cX2_stillIn 61 = .ok (.lstore_n 2, 1) := by decide +kernel
theorem dX2_stillIn_62 : decode cX2_stillIn 62 = .ok (.iinc 4 1, 3) := by decide +kernel
theorem dX2_stillIn_65 : decode cX2_stillIn 65 = .ok (.goto (-25), 3) := by decide +kernel
theorem dX2_stillIn_68 : decode cX2_stillIn 68 = .ok (.lload_n 2, 1) := by decide +kernel
theorem dX2_stillIn_69 : decode cX2_stillIn 69 = .ok (.lreturn, 1) := by decide +kernel
theorem dX2_duesOf_0 : decode cX2_duesOf 0 = .ok (.lconst 0, 1) := by decide +kernel
theorem dX2_duesOf_1 : decode cX2_duesOf 1 = .ok (.lstore 4, 2) := by decide +kernel
theorem dX2_duesOf_3 : decode cX2_duesOf 3 = .ok (.iload_n 2, 1) := by decide +kernel
theorem dX2_duesOf_4 : decode cX2_duesOf 4 = .ok (.istore 6, 2) := by decide +kernel
theorem dX2_duesOf_6 : decode cX2_duesOf 6 = .ok (.iload 6, 2) := by decide +kernel
theorem dX2_duesOf_8 : decode cX2_duesOf 8 = .ok (.iload_n 3, 1) := by decide +kernel
theorem dX2_duesOf_9 : decode cX2_duesOf 9 = .ok (.if_icmp .ge 27, 3) := by decide +kernel
theorem dX2_duesOf_12 : decode cX2_duesOf 12 = .ok (.lload 4, 2) := by decide +kernel
theorem dX2_duesOf_14 : decode cX2_duesOf 14 = .ok (.aload_n 0, 1) := by decide +kernel
theorem dX2_duesOf_15 : decode cX2_duesOf 15 = .ok (.getfield 21, 3) := by decide +kernel
theorem dX2_duesOf_18 : decode cX2_duesOf 18 = .ok (.iload_n 1, 1) := by decide +kernel
theorem dX2_duesOf_19 : decode cX2_duesOf 19 = .ok (.bipush 40, 2) := by decide +kernel
theorem dX2_duesOf_21 : decode cX2_duesOf 21 = .ok (.imul, 1) := by decide +kernel
theorem dX2_duesOf_22 : decode cX2_duesOf 22 = .ok (.iload 6, 2) := by decide +kernel
theorem dX2_duesOf_24 : decode cX2_duesOf 24 = .ok (.iadd, 1) := by decide +kernel
theorem dX2_duesOf_25 : decode cX2_duesOf 25 = .ok (.iaload, 1) := by decide +kernel
theorem dX2_duesOf_26 : decode cX2_duesOf 26 = .ok (.i2l, 1) := by decide +kernel
theorem dX2_duesOf_27 : decode cX2_duesOf 27 = .ok (.ladd, 1) := by decide +kernel
theorem dX2_duesOf_28 : decode cX2_duesOf 28 = .ok (.lstore 4, 2) := by decide +kernel
theorem dX2_duesOf_30 : decode cX2_duesOf 30 = .ok (.iinc 6 1, 3) := by decide +kernel
theorem dX2_duesOf_33 : decode cX2_duesOf 33 = .ok (.goto (-27), 3) := by decide +kernel
theorem dX2_duesOf_36 : decode cX2_duesOf 36 = .ok (.lload 4, 2) := by decide +kernel
theorem dX2_duesOf_38 : decode cX2_duesOf 38 = .ok (.lreturn, 1) := by decide +kernel
set_option maxRecDepth 20000 in
theorem ggX2_takeSentOf_X2_takeSent : GoodIn wsX2_takeSentOf wsX2_takeSent := goodIn_r _ [12, 13, 14, 15, 16, 17, 18, 19, 20, 21, 22, 23, 24, 25, 26, 27, 28, 29, 30, 31, 32, 33, 34, 35, 36, 37, 38, 39, 40, 41, 42, 43, 44, 45, 51, 52, 53, 54, 55, 56, 57, 58, 59] (by decide +kernel) (by decide +kernel)
set_option maxRecDepth 20000 in
theorem gX2_takeSentOf_X2_takeSent : GoodIn wsX2_takeSentOf (wsV RX2 138 RX2 yX2_takeSent wsX2_takeSent) := goodIn_app (goodIn_of _ (by decide +kernel)) ggX2_takeSentOf_X2_takeSent
theorem dX2_takeSentOf_0 : decode cX2_takeSentOf 0 = .ok (.aload_n 0, 1) := by decide +kernel
theorem dX2_takeSentOf_1 : decode cX2_takeSentOf 1 = .ok (.getfield 82, 3) := by decide +kernel
theorem dX2_takeSentOf_4 : decode cX2_takeSentOf 4 = .ok (.aload_n 0, 1) := by decide +kernel
theorem dX2_takeSentOf_5 : decode cX2_takeSentOf 5 = .ok (.getfield 55, 3) := by decide +kernel
theorem dX2_takeSentOf_8 : decode cX2_takeSentOf 8 = .ok (.getfield 124, 3) := by decide +kernel
theorem dX2_takeSentOf_11 : decode cX2_takeSentOf 11 = .ok (.if_icmp .ge 65, 3) := by decide +kernel
theorem dX2_takeSentOf_14 : decode cX2_takeSentOf 14 = .ok (.aload_n 0, 1) := by decide +kernel
theorem dX2_takeSentOf_15 : decode cX2_takeSentOf 15 = .ok (.getfield 55, 3) := by decide +kernel
theorem dX2_takeSentOf_18 : decode cX2_takeSentOf 18 = .ok (.getfield 129, 3) := by decide +kernel
theorem dX2_takeSentOf_21 : decode cX2_takeSentOf 21 = .ok (.aload_n 0, 1) := by decide +kernel
theorem dX2_takeSentOf_22 : decode cX2_takeSentOf 22 = .ok (.getfield 82, 3) := by decide +kernel
theorem dX2_takeSentOf_25 : decode cX2_takeSentOf 25 = .ok (.iaload, 1) := by decide +kernel
theorem dX2_takeSentOf_26 : decode cX2_takeSentOf 26 = .ok (.iload_n 1, 1) := by decide +kernel
theorem dX2_takeSentOf_27 : decode cX2_takeSentOf 27 = .ok (.if_icmp .ne 49, 3) := by decide +kernel
theorem dX2_takeSentOf_30 : decode cX2_takeSentOf 30 = .ok (.aload_n 0, 1) := by decide +kernel
theorem dX2_takeSentOf_31 : decode cX2_takeSentOf 31 = .ok (.aload_n 0, 1) := by decide +kernel
theorem dX2_takeSentOf_32 : decode cX2_takeSentOf 32 = .ok (.getfield 55, 3) := by decide +kernel
theorem dX2_takeSentOf_35 : decode cX2_takeSentOf 35 = .ok (.getfield 132, 3) := by decide +kernel
theorem dX2_takeSentOf_38 : decode cX2_takeSentOf 38 = .ok (.aload_n 0, 1) := by decide +kernel
theorem dX2_takeSentOf_39 : decode cX2_takeSentOf 39 = .ok (.getfield 82, 3) := by decide +kernel
theorem dX2_takeSentOf_42 : decode cX2_takeSentOf 42 = .ok (.iaload, 1) := by decide +kernel
theorem dX2_takeSentOf_43 : decode cX2_takeSentOf 43 = .ok (.aload_n 0, 1) := by decide +kernel
theorem dX2_takeSentOf_44 : decode cX2_takeSentOf 44 = .ok (.getfield 55, 3) := by decide +kernel
theorem dX2_takeSentOf_47 : decode cX2_takeSentOf 47 = .ok (.getfield 135, 3) := by decide +kernel
theorem dX2_takeSentOf_50 : decode cX2_takeSentOf 50 = .ok (.aload_n 0, 1) := by decide +kernel
theorem dX2_takeSentOf_51 : decode cX2_takeSentOf 51 = .ok (.getfield 82, 3) := by decide +kernel
theorem dX2_takeSentOf_54 : decode cX2_takeSentOf 54 = .ok (.iaload, 1) := by decide +kernel
theorem dX2_takeSentOf_55 : decode cX2_takeSentOf 55 = .ok (.i2l, 1) := by decide +kernel
theorem dX2_takeSentOf_56 : decode cX2_takeSentOf 56 = .ok (.ldc2_w 110, 3) := by decide +kernel
theorem dX2_takeSentOf_59 : decode cX2_takeSentOf 59 = .ok (.lmul, 1) := by decide +kernel
theorem dX2_takeSentOf_60 : decode cX2_takeSentOf 60 = .ok (.invokevirtual 138, 3) := by decide +kernel
theorem dX2_takeSentOf_63 : decode cX2_takeSentOf 63 = .ok (.aload_n 0, 1) := by decide +kernel
theorem dX2_takeSentOf_64 : decode cX2_takeSentOf 64 = .ok (.dup, 1) := by decide +kernel
theorem dX2_takeSentOf_65 : decode cX2_takeSentOf 65 = .ok (.getfield 82, 3) := by decide +kernel
theorem dX2_takeSentOf_68 : decode cX2_takeSentOf 68 = .ok (.iconst 1, 1) := by decide +kernel
theorem dX2_takeSentOf_69 : decode cX2_takeSentOf 69 = .ok (.iadd, 1) := by decide +kernel
theorem dX2_takeSentOf_70 : decode cX2_takeSentOf 70 = .ok (.putfield 82, 3) := by decide +kernel
theorem dX2_takeSentOf_73 : decode cX2_takeSentOf 73 = .ok (.goto (-73), 3) := by decide +kernel
theorem dX2_takeSentOf_76 : decode cX2_takeSentOf 76 = .ok (.return_, 1) := by decide +kernel
set_option maxRecDepth 20000 in
theorem ggX2_takeSent_X0_isReserveOf : GoodIn wsX2_takeSent wsX0_isReserveOf := goodIn_r _ [15, 16, 17, 34, 35, 36, 37, 38, 39, 40, 41, 42] (by decide +kernel) (by decide +kernel)
set_option maxRecDepth 20000 in
theorem gX2_takeSent_X0_isReserveOf : GoodIn wsX2_takeSent (wsV RX2 143 RX0 yX0_isReserveOf wsX0_isReserveOf) := goodIn_app (goodIn_of _ (by decide +kernel)) ggX2_takeSent_X0_isReserveOf
theorem dX2_takeSent_0 : decode cX2_takeSent 0 = .ok (.lload_n 2, 1) := by decide +kernel
theorem dX2_takeSent_1 : decode cX2_takeSent 1 = .ok (.lstore 4, 2) := by decide +kernel
theorem dX2_takeSent_3 : decode cX2_takeSent 3 = .ok (.iconst 0, 1) := by decide +kernel
theorem dX2_takeSent_4 : decode cX2_takeSent 4 = .ok (.istore 6, 2) := by decide +kernel
theorem dX2_takeSent_6 : decode cX2_takeSent 6 = .ok (.iload 6, 2) := by decide +kernel
theorem dX2_takeSent_8 : decode cX2_takeSent 8 = .ok (.aload_n 0, 1) := by decide +kernel
theorem dX2_takeSent_9 : decode cX2_takeSent 9 = .ok (.getfield 78, 3) := by decide +kernel
theorem dX2_takeSent_12 : decode cX2_takeSent 12 = .ok (.if_icmp .ge 95, 3) := by decide +kernel
theorem dX2_takeSent_15 : decode cX2_takeSent 15 = .ok (.lload 4, 2) := by decide +kernel
theorem dX2_takeSent_17 : decode cX2_takeSent 17 = .ok (.lconst 0, 1) := by decide +kernel
theorem dX2_takeSent_18 : decode cX2_takeSent 18 = .ok (.lcmp, 1) := by decide +kernel
theorem dX2_takeSent_19 : decode cX2_takeSent 19 = .ok (.ifCond .le 88, 3) := by decide +kernel
theorem dX2_takeSent_22 : decode cX2_takeSent 22 = .ok (.iconst 0, 1) := by decide +kernel
theorem dX2_takeSent_23 : decode cX2_takeSent 23 = .ok (.istore 7, 2) := by decide +kernel
theorem dX2_takeSent_25 : decode cX2_takeSent 25 = .ok (.iload 7, 2) := by decide +kernel
theorem dX2_takeSent_27 : decode cX2_takeSent 27 = .ok (.aload_n 0, 1) := by decide +kernel
theorem dX2_takeSent_28 : decode cX2_takeSent 28 = .ok (.getfield 45, 3) := by decide +kernel
theorem dX2_takeSent_31 : decode cX2_takeSent 31 = .ok (.getfield 142, 3) := by decide +kernel
theorem dX2_takeSent_34 : decode cX2_takeSent 34 = .ok (.if_icmp .ge 67, 3) := by decide +kernel
theorem dX2_takeSent_37 : decode cX2_takeSent 37 = .ok (.aload_n 0, 1) := by decide +kernel
theorem dX2_takeSent_38 : decode cX2_takeSent 38 = .ok (.getfield 45, 3) := by decide +kernel
theorem dX2_takeSent_41 : decode cX2_takeSent 41 = .ok (.iload 7, 2) := by decide +kernel
theorem dX2_takeSent_43 : decode cX2_takeSent 43 = .ok (.iload_n 1, 1) := by decide +kernel
theorem dX2_takeSent_44 : decode cX2_takeSent 44 = .ok (.invokevirtual 143, 3) := by decide +kernel
theorem dX2_takeSent_47 : decode cX2_takeSent 47 = .ok (.ifCond .eq 48, 3) := by decide +kernel
theorem dX2_takeSent_50 : decode cX2_takeSent 50 = .ok (.lload 4, 2) := by decide +kernel
theorem dX2_takeSent_52 : decode cX2_takeSent 52 = .ok (.aload_n 0, 1) := by decide +kernel
theorem dX2_takeSent_53 : decode cX2_takeSent 53 = .ok (.getfield 31, 3) := by decide +kernel
theorem dX2_takeSent_56 : decode cX2_takeSent 56 = .ok (.iload 7, 2) := by decide +kernel
theorem dX2_takeSent_58 : decode cX2_takeSent 58 = .ok (.bipush 40, 2) := by decide +kernel
theorem dX2_takeSent_60 : decode cX2_takeSent 60 = .ok (.imul, 1) := by decide +kernel
theorem dX2_takeSent_61 : decode cX2_takeSent 61 = .ok (.iload 6, 2) := by decide +kernel
theorem dX2_takeSent_63 : decode cX2_takeSent 63 = .ok (.iadd, 1) := by decide +kernel
theorem dX2_takeSent_64 : decode cX2_takeSent 64 = .ok (.laload, 1) := by decide +kernel
theorem dX2_takeSent_65 : decode cX2_takeSent 65 = .ok (.invokestatic 147, 3) := by decide +kernel
theorem dX2_takeSent_68 : decode cX2_takeSent 68 = .ok (.lstore 8, 2) := by decide +kernel
theorem dX2_takeSent_70 : decode cX2_takeSent 70 = .ok (.aload_n 0, 1) := by decide +kernel
theorem dX2_takeSent_71 : decode cX2_takeSent 71 = .ok (.getfield 31, 3) := by decide +kernel
theorem dX2_takeSent_74 : decode cX2_takeSent 74 = .ok (.iload 7, 2) := by decide +kernel
theorem dX2_takeSent_76 : decode cX2_takeSent 76 = .ok (.bipush 40, 2) := by decide +kernel
theorem dX2_takeSent_78 : decode cX2_takeSent 78 = .ok (.imul, 1) := by decide +kernel
theorem dX2_takeSent_79 : decode cX2_takeSent 79 = .ok (.iload 6, 2) := by decide +kernel
theorem dX2_takeSent_81 : decode cX2_takeSent 81 = .ok (.iadd, 1) := by decide +kernel
theorem dX2_takeSent_82 : decode cX2_takeSent 82 = .ok (.dup2, 1) := by decide +kernel
theorem dX2_takeSent_83 : decode cX2_takeSent 83 = .ok (.laload, 1) := by decide +kernel
theorem dX2_takeSent_84 : decode cX2_takeSent 84 = .ok (.lload 8, 2) := by decide +kernel
theorem dX2_takeSent_86 : decode cX2_takeSent 86 = .ok (.lsub, 1) := by decide +kernel
theorem dX2_takeSent_87 : decode cX2_takeSent 87 = .ok (.lastore, 1) := by decide +kernel
theorem dX2_takeSent_88 : decode cX2_takeSent 88 = .ok (.lload 4, 2) := by decide +kernel
theorem dX2_takeSent_90 : decode cX2_takeSent 90 = .ok (.lload 8, 2) := by decide +kernel
theorem dX2_takeSent_92 : decode cX2_takeSent 92 = .ok (.lsub, 1) := by decide +kernel
theorem dX2_takeSent_93 : decode cX2_takeSent 93 = .ok (.lstore 4, 2) := by decide +kernel
theorem dX2_takeSent_95 : decode cX2_takeSent 95 = .ok (.iinc 7 1, 3) := by decide +kernel
theorem dX2_takeSent_98 : decode cX2_takeSent 98 = .ok (.goto (-73), 3) := by decide +kernel
theorem dX2_takeSent_101 : decode cX2_takeSent 101 = .ok (.iinc 6 1, 3) := by decide +kernel
theorem dX2_takeSent_104 : decode cX2_takeSent 104 = .ok (.goto (-98), 3) := by decide +kernel
theorem dX2_takeSent_107 : decode cX2_takeSent 107 = .ok (.aload_n 0, 1) := by decide +kernel
theorem dX2_takeSent_108 : decode cX2_takeSent 108 = .ok (.getfield 15, 3) := by decide +kernel
theorem dX2_takeSent_111 : decode cX2_takeSent 111 = .ok (.iload_n 1, 1) := by decide +kernel
theorem dX2_takeSent_112 : decode cX2_takeSent 112 = .ok (.dup2, 1) := by decide +kernel
theorem dX2_takeSent_113 : decode cX2_takeSent 113 = .ok (.laload, 1) := by decide +kernel
theorem dX2_takeSent_114 : decode cX2_takeSent 114 = .ok (.lload 4, 2) := by decide +kernel
theorem dX2_takeSent_116 : decode cX2_takeSent 116 = .ok (.ladd, 1) := by decide +kernel
theorem dX2_takeSent_117 : decode cX2_takeSent 117 = .ok (.lastore, 1) := by decide +kernel
theorem dX2_takeSent_118 : decode cX2_takeSent 118 = .ok (.aload_n 0, 1) := by decide +kernel
theorem dX2_takeSent_119 : decode cX2_takeSent 119 = .ok (.lload 4, 2) := by decide +kernel
theorem dX2_takeSent_121 : decode cX2_takeSent 121 = .ok (.putfield 150, 3) := by decide +kernel
theorem dX2_takeSent_124 : decode cX2_takeSent 124 = .ok (.return_, 1) := by decide +kernel
set_option maxRecDepth 20000 in
theorem ggX2_closeTerm_X4_sizeOf : GoodIn wsX2_closeTerm wsX4_sizeOf := goodIn_r _ [9, 10, 150, 151, 152, 153, 154, 155] (by decide +kernel) (by decide +kernel)
set_option maxRecDepth 20000 in
theorem gX2_closeTerm_X4_sizeOf : GoodIn wsX2_closeTerm (wsV RX2 154 RX4 yX4_sizeOf wsX4_sizeOf) := goodIn_app (goodIn_of _ (by decide +kernel)) ggX2_closeTerm_X4_sizeOf
set_option maxRecDepth 20000 in
theorem ggX2_closeTerm_X4_workAt : GoodIn wsX2_closeTerm wsX4_workAt := goodIn_r _ [14, 15, 150, 151, 152, 153, 154, 155] (by decide +kernel) (by decide +kernel)
set_option maxRecDepth 20000 in
theorem gX2_closeTerm_X4_workAt : GoodIn wsX2_closeTerm (wsV RX2 160 RX4 yX4_workAt wsX4_workAt) := goodIn_app (goodIn_of _ (by decide +kernel)) ggX2_closeTerm_X4_workAt
set_option maxRecDepth 20000 in
theorem ggX2_closeTerm_X4_isOpen : GoodIn wsX2_closeTerm wsX4_isOpen := goodIn_r _ [19, 20, 150, 151, 152, 153, 154, 155] (by decide +kernel) (by decide +kernel)
set_option maxRecDepth 20000 in
theorem gX2_closeTerm_X4_isOpen : GoodIn wsX2_closeTerm (wsV RX2 163 RX4 yX4_isOpen wsX4_isOpen) := goodIn_app (goodIn_of _ (by decide +kernel)) ggX2_closeTerm_X4_isOpen
set_option maxRecDepth 20000 in
theorem ggX2_closeTerm_X2_bringIn : GoodIn wsX2_closeTerm wsX2_bringIn := goodIn_r _ [25, 3, 4, 26, 27, 28, 29, 30, 31, 32, 33, 34, 8, 35, 36, 37, 38, 39, 40, 41, 42, 43, 44, 24, 45, 46, 47, 48, 49, 50, 51, 52, 53, 54, 55, 56, 1, 57, 58, 59, 60, 61, 62, 63, 64, 65, 66, 67, 68, 69, 70, 71, 72, 73, 74, 75, 76, 77, 78, 79, 80, 81, 82, 83, 84, 85, 86, 87, 88, 89, 90, 91, 92, 93, 94, 95, 96, 97, 98, 99, 100, 101, 102, 103, 104, 105, 127, 128, 129, 130, 131, 132, 133, 134, 135, 136, 137, 138, 139, 140, 141, 142, 156, 157, 158, 159, 150, 151, 152, 153, 154, 155, 160, 161, 162, 163, 164, 165, 166, 167, 168, 143, 144, 145, 146, 147, 148, 149] (by decide +kernel) (by decide +kernel)
set_option maxRecDepth 20000 in
theorem gX2_closeTerm_X2_bringIn : GoodIn wsX2_closeTerm (wsV RX2 166 RX2 yX2_bringIn wsX2_bringIn) := goodIn_app (goodIn_of _ (by decide +kernel)) ggX2_closeTerm_X2_bringIn
set_option maxRecDepth 20000 in
theorem ggX2_closeTerm_X2_emptyOldBags : GoodIn wsX2_closeTerm wsX2_emptyOldBags := goodIn_r _ [109, 57, 58, 59, 4, 96, 64, 110, 62, 127, 128, 129, 130, 131, 132, 133, 134, 135, 136, 137, 138, 139, 140, 141, 142, 160, 161, 162, 163, 164, 165, 166, 167, 168] (by decide +kernel) (by decide +kernel)
set_option maxRecDepth 20000 in
theorem gX2_closeTerm_X2_emptyOldBags : GoodIn wsX2_closeTerm (wsV RX2 169 RX2 yX2_emptyOldBags wsX2_emptyOldBags) := goodIn_app (goodIn_of _ (by decide +kernel)) ggX2_closeTerm_X2_emptyOldBags
set_option maxRecDepth 20000 in
theorem ggX2_closeTerm_X2_payHands : GoodIn wsX2_closeTerm wsX2_payHands := goodIn_r _ [114, 115, 64, 92, 93, 94, 95, 28, 97, 98, 99, 116, 4, 127, 128, 129, 130, 131, 132, 133, 134, 135, 136, 137, 138, 139, 140, 141, 142] (by decide +kernel) (by decide +kernel)
set_option maxRecDepth 20000 in
theorem gX2_closeTerm_X2_payHands : GoodIn wsX2_closeTerm (wsV RX2 172 RX2 yX2_payHands wsX2_payHands) := goodIn_app (goodIn_of _ (by decide +kernel)) ggX2_closeTerm_X2_payHands
set_option maxRecDepth 20000 in
theorem ggX2_closeTerm_X2_fillFloors : GoodIn wsX2_closeTerm wsX2_fillFloors := goodIn_r _ [120, 57, 58, 59, 121, 110, 4, 91, 97, 98, 94, 99, 116, 122, 42, 43, 44, 24, 45, 123, 124, 125, 126, 127, 128, 129, 130, 131, 132, 133, 134, 135, 136, 137, 138, 139, 140, 141, 142, 160, 161, 162, 163, 164, 165, 166, 167, 168] (by decide +kernel) (by decide +kernel)
set_option maxRecDepth 20000 in
theorem gX2_closeTerm_X2_fillFloors : GoodIn wsX2_closeTerm (wsV RX2 175 RX2 yX2_fillFloors wsX2_fillFloors) := goodIn_app (goodIn_of _ (by decide +kernel)) ggX2_closeTerm_X2_fillFloors
theorem dX2_closeTerm_0 : decode cX2_closeTerm 0 = .ok (.aload_n 0, 1) := by decide +kernel
theorem dX2_closeTerm_1 : decode cX2_closeTerm 1 = .ok (.getfield 61, 3) := by decide +kernel
theorem dX2_closeTerm_4 : decode cX2_closeTerm 4 = .ok (.iconst 0, 1) := by decide +kernel
theorem dX2_closeTerm_5 : decode cX2_closeTerm 5 = .ok (.putfield 153, 3) := by decide +kernel
theorem dX2_closeTerm_8 : decode cX2_closeTerm 8 = .ok (.iconst 0, 1) := by decide +kernel
theorem dX2_closeTerm_9 : decode cX2_closeTerm 9 = .ok (.istore_n 1, 1) := by decide +kernel
theorem dX2_closeTerm_10 : decode cX2_closeTerm 10 = .ok (.iload_n 1, 1) := by decide +kernel
theorem dX2_closeTerm_11 : decode cX2_closeTerm 11 = .ok (.aload_n 0, 1) := by decide +kernel
theorem dX2_closeTerm_12 : decode cX2_closeTerm 12 = .ok (.getfield 50, 3) := by decide +kernel
theorem dX2_closeTerm_15 : decode cX2_closeTerm 15 = .ok (.aload_n 0, 1) := by decide +kernel
theorem dX2_closeTerm_16 : decode cX2_closeTerm 16 = .ok (.getfield 78, 3) := by decide +kernel
theorem dX2_closeTerm_19 : decode cX2_closeTerm 19 = .ok (.invokevirtual 154, 3) := by decide +kernel
theorem dX2_closeTerm_22 : decode cX2_closeTerm 22 = .ok (.if_icmp .ge 42, 3) := by decide +kernel
theorem dX2_closeTerm_25 : decode cX2_closeTerm 25 = .ok (.aload_n 0, 1) := by decide +kernel
theorem dX2_closeTerm_26 : decode cX2_closeTerm 26 = .ok (.getfield 50, 3) := by decide +kernel
theorem dX2_closeTerm_29 : decode cX2_closeTerm 29 = .ok (.aload_n 0, 1) := by decide +kernel
theorem dX2_closeTerm_30 : decode cX2_closeTerm 30 = .ok (.getfield 78, 3) := by decide +kernel
theorem dX2_closeTerm_33 : decode cX2_closeTerm 33 = .ok (.iload_n 1, 1) := by decide +kernel
theorem dX2_closeTerm_34 : decode cX2_closeTerm 34 = .ok (.invokevirtual 160, 3) := by decide +kernel
theorem dX2_closeTerm_37 : decode cX2_closeTerm 37 = .ok (.istore_n 2, 1) := by decide +kernel
theorem dX2_closeTerm_38 : decode cX2_closeTerm 38 = .ok (.aload_n 0, 1) := by decide +kernel
theorem dX2_closeTerm_39 : decode cX2_closeTerm 39 = .ok (.getfield 50, 3) := by decide +kernel
theorem dX2_closeTerm_42 : decode cX2_closeTerm 42 = .ok (.aload_n 0, 1) := by decide +kernel
theorem dX2_closeTerm_43 : decode cX2_closeTerm 43 = .ok (.getfield 78, 3) := by decide +kernel
theorem dX2_closeTerm_46 : decode cX2_closeTerm 46 = .ok (.iload_n 2, 1) := by decide +kernel
theorem dX2_closeTerm_47 : decode cX2_closeTerm 47 = .ok (.invokevirtual 163, 3) := by decide +kernel
theorem dX2_closeTerm_50 : decode cX2_closeTerm 50 = .ok (.ifCond .ne 8, 3) := by decide +kernel
theorem dX2_closeTerm_53 : decode cX2_closeTerm 53 = .ok (.aload_n 0, 1) := by decide +kernel
theorem dX2_closeTerm_54 : decode cX2_closeTerm 54 = .ok (.iload_n 2, 1) := by decide +kernel
theorem dX2_closeTerm_55 : decode cX2_closeTerm 55 = .ok (.invokevirtual 166, 3) := by decide +kernel
theorem dX2_closeTerm_58 : decode cX2_closeTerm 58 = .ok (.iinc 1 1, 3) := by decide +kernel
theorem dX2_closeTerm_61 : decode cX2_closeTerm 61 = .ok (.goto (-51), 3) := by decide +kernel
theorem dX2_closeTerm_64 : decode cX2_closeTerm 64 = .ok (.aload_n 0, 1) := by decide +kernel
theorem dX2_closeTerm_65 : decode cX2_closeTerm 65 = .ok (.invokevirtual 169, 3) := by decide +kernel
theorem dX2_closeTerm_68 : decode cX2_closeTerm 68 = .ok (.aload_n 0, 1) := by decide +kernel
theorem dX2_closeTerm_69 : decode cX2_closeTerm 69 = .ok (.invokevirtual 172, 3) := by decide +kernel
theorem dX2_closeTerm_72 : decode cX2_closeTerm 72 = .ok (.aload_n 0, 1) := by decide +kernel
theorem dX2_closeTerm_73 : decode cX2_closeTerm 73 = .ok (.getfield 78, 3) := by decide +kernel
theorem dX2_closeTerm_76 : decode cX2_closeTerm 76 = .ok (.iconst 4, 1) := by decide +kernel
theorem dX2_closeTerm_77 : decode cX2_closeTerm 77 = .ok (.irem, 1) := by decide +kernel
theorem dX2_closeTerm_78 : decode cX2_closeTerm 78 = .ok (.iconst 3, 1) := by decide +kernel
theorem dX2_closeTerm_79 : decode cX2_closeTerm 79 = .ok (.if_icmp .ne 7, 3) := by decide +kernel
theorem dX2_closeTerm_82 : decode cX2_closeTerm 82 = .ok (.aload_n 0, 1) := by decide +kernel
theorem dX2_closeTerm_83 : decode cX2_closeTerm 83 = .ok (.invokevirtual 175, 3) := by decide +kernel
theorem dX2_closeTerm_86 : decode cX2_closeTerm 86 = .ok (.aload_n 0, 1) := by decide +kernel
theorem dX2_closeTerm_87 : decode cX2_closeTerm 87 = .ok (.dup, 1) := by decide +kernel
theorem dX2_closeTerm_88 : decode cX2_closeTerm 88 = .ok (.getfield 78, 3) := by decide +kernel
theorem dX2_closeTerm_91 : decode cX2_closeTerm 91 = .ok (.iconst 1, 1) := by decide +kernel
theorem dX2_closeTerm_92 : decode cX2_closeTerm 92 = .ok (.iadd, 1) := by decide +kernel
theorem dX2_closeTerm_93 : decode cX2_closeTerm 93 = .ok (.putfield 78, 3) := by decide +kernel
theorem dX2_closeTerm_96 : decode cX2_closeTerm 96 = .ok (.return_, 1) := by decide +kernel
theorem dX2_lastDay_0 : decode cX2_lastDay 0 = .ok (.aload_n 0, 1) := by decide +kernel
theorem dX2_lastDay_1 : decode cX2_lastDay 1 = .ok (.getfield 78, 3) := by decide +kernel
theorem dX2_lastDay_4 : decode cX2_lastDay 4 = .ok (.bipush 90, 2) := by decide +kernel
theorem dX2_lastDay_6 : decode cX2_lastDay 6 = .ok (.imul, 1) := by decide +kernel
theorem dX2_lastDay_7 : decode cX2_lastDay 7 = .ok (.bipush 90, 2) := by decide +kernel
theorem dX2_lastDay_9 : decode cX2_lastDay 9 = .ok (.iadd, 1) := by decide +kernel
theorem dX2_lastDay_10 : decode cX2_lastDay 10 = .ok (.iconst 1, 1) := by decide +kernel
theorem dX2_lastDay_11 : decode cX2_lastDay 11 = .ok (.isub, 1) := by decide +kernel
theorem dX2_lastDay_12 : decode cX2_lastDay 12 = .ok (.ireturn, 1) := by decide +kernel
set_option maxRecDepth 20000 in
theorem ggX2_bringIn_X4_wayOf : GoodIn wsX2_bringIn wsX4_wayOf := goodIn_r _ [13, 14, 106, 107, 108, 109, 110, 111] (by decide +kernel) (by decide +kernel)
set_option maxRecDepth 20000 in
theorem gX2_bringIn_X4_wayOf : GoodIn wsX2_bringIn (wsV RX2 178 RX4 yX4_wayOf wsX4_wayOf) := goodIn_app (goodIn_of _ (by decide +kernel)) ggX2_bringIn_X4_wayOf
set_option maxRecDepth 20000 in
theorem ggX2_bringIn_X4_coinsOf : GoodIn wsX2_bringIn wsX4_coinsOf := goodIn_r _ [18, 19, 106, 107, 108, 109, 110, 111] (by decide +kernel) (by decide +kernel)
set_option maxRecDepth 20000 in
theorem gX2_bringIn_X4_coinsOf : GoodIn wsX2_bringIn (wsV RX2 181 RX4 yX4_coinsOf wsX4_coinsOf) := goodIn_app (goodIn_of _ (by decide +kernel)) ggX2_bringIn_X4_coinsOf
set_option maxRecDepth 20000 in
theorem ggX2_bringIn_X2_lastDay : GoodIn wsX2_bringIn wsX2_lastDay := goodIn_r _ [24, 2, 86, 87, 88, 89, 90, 91, 92, 93, 94, 95, 96, 97, 98, 99, 100, 101] (by decide +kernel) (by decide +kernel)
set_option maxRecDepth 20000 in
theorem gX2_bringIn_X2_lastDay : GoodIn wsX2_bringIn (wsV RX2 185 RX2 yX2_lastDay wsX2_lastDay) := goodIn_app (goodIn_of _ (by decide +kernel)) ggX2_bringIn_X2_lastDay
set_option maxRecDepth 20000 in
theorem ggX2_bringIn_X6_setAt : GoodIn wsX2_bringIn wsX6_setAt := goodIn_r _ [29, 30, 31, 102, 103, 104, 105] (by decide +kernel) (by decide +kernel)
set_option maxRecDepth 20000 in
theorem gX2_bringIn_X6_setAt : GoodIn wsX2_bringIn (wsV RX2 189 RX6 yX6_setAt wsX6_setAt) := goodIn_app (goodIn_of _ (by decide +kernel)) ggX2_bringIn_X6_setAt
set_option maxRecDepth 20000 in
theorem ggX2_bringIn_X2_runLine : GoodIn wsX2_bringIn wsX2_runLine := goodIn_r _ [35, 36, 37, 38, 39, 40, 41, 42, 2, 43, 44, 45, 46, 47, 48, 49, 50, 51, 52, 53, 54, 55, 56, 57, 58, 20, 21, 22, 23, 24, 59, 60, 61, 62, 63, 64, 65, 66, 67, 68, 69, 70, 71, 7, 5, 72, 73, 74, 75, 76, 77, 78, 79, 80, 32, 33, 34, 81, 82, 83, 84, 85, 86, 87, 88, 89, 90, 91, 92, 93, 94, 95, 96, 97, 98, 99, 100, 101, 112, 113, 114, 115, 116, 117, 118, 119, 120, 121, 122, 123, 124, 125, 126, 127] (by decide +kernel) (by decide +kernel)
set_option maxRecDepth 20000 in
theorem gX2_bringIn_X2_runLine : GoodIn wsX2_bringIn (wsV RX2 200 RX2 yX2_runLine wsX2_runLine) := goodIn_app (goodIn_of _ (by decide +kernel)) ggX2_bringIn_X2_runLine
theorem dX2_bringIn_0 : decode cX2_bringIn 0 = .ok (.aload_n 0, 1) := by decide +kernel
theorem dX2_bringIn_1 : decode cX2_bringIn 1 = .ok (.getfield 50, 3) := by decide +kernel
theorem dX2_bringIn_4 : decode cX2_bringIn 4 = .ok (.aload_n 0, 1) := by decide +kernel
theorem dX2_bringIn_5 : decode cX2_bringIn 5 = .ok (.getfield 78, 3) := by decide +kernel
theorem dX2_bringIn_8 : decode cX2_bringIn 8 = .ok (.iload_n 1, 1) := by decide +kernel
theorem dX2_bringIn_9 : decode cX2_bringIn 9 = .ok (.invokevirtual 178, 3) := by decide +kernel
theorem dX2_bringIn_12 : decode cX2_bringIn 12 = .ok (.iconst 2, 1) := by decide +kernel
theorem dX2_bringIn_13 : decode cX2_bringIn 13 = .ok (.if_icmp .ne 7, 3) := by decide +kernel
theorem dX2_bringIn_16 : decode cX2_bringIn 16 = .ok (.iconst 3, 1) := by decide +kernel
theorem dX2_bringIn_17 : decode cX2_bringIn 17 = .ok (.goto 4, 3) := by decide +kernel
theorem dX2_bringIn_20 : decode cX2_bringIn 20 = .ok (.iconst 1, 1) := by decide +kernel
theorem dX2_bringIn_21 : decode cX2_bringIn 21 = .ok (.istore_n 2, 1) := by decide +kernel
theorem dX2_bringIn_22 : decode cX2_bringIn 22 = .ok (.iconst 0, 1) := by decide +kernel
theorem dX2_bringIn_23 : decode cX2_bringIn 23 = .ok (.istore_n 3, 1) := by decide +kernel
theorem dX2_bringIn_24 : decode cX2_bringIn 24 = .ok (.iload_n 3, 1) := by decide +kernel
theorem dX2_bringIn_25 : decode cX2_bringIn 25 = .ok (.iload_n 2, 1) := by decide +kernel
theorem dX2_bringIn_26 : decode cX2_bringIn 26 = .ok (.if_icmp .ge 132, 3) := by decide +kernel
theorem dX2_bringIn_29 : decode cX2_bringIn 29 = .ok (.aload_n 0, 1) := by decide +kernel
theorem dX2_bringIn_30 : decode cX2_bringIn 30 = .ok (.getfield 50, 3) := by decide +kernel
theorem dX2_bringIn_33 : decode cX2_bringIn 33 = .ok (.aload_n 0, 1) := by decide +kernel
theorem dX2_bringIn_34 : decode cX2_bringIn 34 = .ok (.getfield 78, 3) := by decide +kernel
theorem dX2_bringIn_37 : decode cX2_bringIn 37 = .ok (.iload_n 1, 1) := by decide +kernel
theorem dX2_bringIn_38 : decode cX2_bringIn 38 = .ok (.iload_n 3, 1) := by decide +kernel
theorem dX2_bringIn_39 : decode cX2_bringIn 39 = .ok (.invokevirtual 181, 3) := by decide +kernel
theorem dX2_bringIn_42 : decode cX2_bringIn 42 = .ok (.i2l, 1) := by decide +kernel
theorem dX2_bringIn_43 : decode cX2_bringIn 43 = .ok (.lstore 4, 2) := by decide +kernel
theorem dX2_bringIn_45 : decode cX2_bringIn 45 = .ok (.aload_n 0, 1) := by decide +kernel
theorem dX2_bringIn_46 : decode cX2_bringIn 46 = .ok (.getfield 40, 3) := by decide +kernel
theorem dX2_bringIn_49 : decode cX2_bringIn 49 = .ok (.iload_n 1, 1) := by decide +kernel
theorem dX2_bringIn_50 : decode cX2_bringIn 50 = .ok (.aload_n 0, 1) := by decide +kernel
theorem dX2_bringIn_51 : decode cX2_bringIn 51 = .ok (.invokevirtual 185, 3) := by decide +kernel
theorem dX2_bringIn_54 : decode cX2_bringIn 54 = .ok (.iload_n 2, 1) := by decide +kernel
theorem dX2_bringIn_55 : decode cX2_bringIn 55 = .ok (.iconst 1, 1) := by decide +kernel
theorem dX2_bringIn_56 : decode cX2_bringIn 56 = .ok (.isub, 1) := by decide +kernel
theorem dX2_bringIn_57 : decode cX2_bringIn 57 = .ok (.iload_n 3, 1) := by decide +kernel
theorem dX2_bringIn_58 : decode cX2_bringIn 58 = .ok (.isub, 1) := by decide +kernel
theorem dX2_bringIn_59 : decode cX2_bringIn 59 = .ok (.bipush 30, 2) := by decide +kernel
theorem dX2_bringIn_61 : decode cX2_bringIn 61 = .ok (.imul, 1) := by decide +kernel
theorem dX2_bringIn_62 : decode cX2_bringIn 62 = .ok (.isub, 1) := by decide +kernel
theorem dX2_bringIn_63 : decode cX2_bringIn 63 = .ok (.invokevirtual 189, 3) := by decide +kernel
theorem dX2_bringIn_66 : decode cX2_bringIn 66 = .ok (.istore 6, 2) := by decide +kernel
theorem dX2_bringIn_68 : decode cX2_bringIn 68 = .ok (.aload_n 0, 1) := by decide +kernel
theorem dX2_bringIn_69 : decode cX2_bringIn 69 = .ok (.dup, 1) := by decide +kernel
theorem dX2_bringIn_70 : decode cX2_bringIn 70 = .ok (.getfield 74, 3) := by decide +kernel
theorem dX2_bringIn_73 : decode cX2_bringIn 73 = .ok (.lload 4, 2) := by decide +kernel
theorem dX2_bringIn_75 : decode cX2_bringIn 75 = .ok (.ldc2_w 110, 3) := by decide +kernel
theorem dX2_bringIn_78 : decode cX2_bringIn 78 = .ok (.lmul, 1) := by decide +kernel
theorem dX2_bringIn_79 : decode cX2_bringIn 79 = .ok (.ladd, 1) := by decide +kernel
theorem dX2_bringIn_80 : decode cX2_bringIn 80 = .ok (.putfield 74, 3) := by decide +kernel
theorem dX2_bringIn_83 : decode cX2_bringIn 83 = .ok (.iload 6, 2) := by decide +kernel
theorem dX2_bringIn_85 : decode cX2_bringIn 85 = .ok (.iconst 3, 1) := by decide +kernel
theorem dX2_bringIn_86 : decode cX2_bringIn 86 = .ok (.imul, 1) := by decide +kernel
theorem dX2_bringIn_87 : decode cX2_bringIn 87 = .ok (.istore 7, 2) := by decide +kernel
theorem dX2_bringIn_89 : decode cX2_bringIn 89 = .ok (.iload 7, 2) := by decide +kernel
theorem dX2_bringIn_91 : decode cX2_bringIn 91 = .ok (.iload 6, 2) := by decide +kernel
theorem dX2_bringIn_93 : decode cX2_bringIn 93 = .ok (.iconst 1, 1) := by decide +kernel
theorem dX2_bringIn_94 : decode cX2_bringIn 94 = .ok (.iadd, 1) := by decide +kernel
theorem dX2_bringIn_95 : decode cX2_bringIn 95 = .ok (.iconst 3, 1) := by decide +kernel
theorem dX2_bringIn_96 : decode cX2_bringIn 96 = .ok (.imul, 1) := by decide +kernel
theorem dX2_bringIn_97 : decode cX2_bringIn 97 = .ok (.if_icmp .ge 55, 3) := by decide +kernel
theorem dX2_bringIn_100 : decode cX2_bringIn 100 = .ok (.lload 4, 2) := by decide +kernel
theorem dX2_bringIn_102 : decode cX2_bringIn 102 = .ok (.aload_n 0, 1) := by decide +kernel
theorem dX2_bringIn_103 : decode cX2_bringIn 103 = .ok (.getfield 40, 3) := by decide +kernel
theorem dX2_bringIn_106 : decode cX2_bringIn 106 = .ok (.getfield 194, 3) := by decide +kernel
theorem dX2_bringIn_109 : decode cX2_bringIn 109 = .ok (.iload 7, 2) := by decide +kernel
theorem dX2_bringIn_111 : decode cX2_bringIn 111 = .ok (.iaload, 1) := by decide +kernel
theorem dX2_bringIn_112 : decode cX2_bringIn 112 = .ok (.i2l, 1) := by decide +kernel
theorem dX2_bringIn_113 : decode cX2_bringIn 113 = .ok (.lmul, 1) := by decide +kernel
theorem dX2_bringIn_114 : decode cX2_bringIn 114 = .ok (.ldc2_w 197, 3) := by decide +kernel
theorem dX2_bringIn_117 : decode cX2_bringIn 117 = .ok (.lmul, 1) := by decide +kernel
theorem dX2_bringIn_118 : decode cX2_bringIn 118 = .ok (.lstore 8, 2) := by decide +kernel
theorem dX2_bringIn_120 : decode cX2_bringIn 120 = .ok (.lload 8, 2) := by decide +kernel
theorem dX2_bringIn_122 : decode cX2_bringIn 122 = .ok (.lconst 0, 1) := by decide +kernel
theorem dX2_bringIn_123 : decode cX2_bringIn 123 = .ok (.lcmp, 1) := by decide +kernel
theorem dX2_bringIn_124 : decode cX2_bringIn 124 = .ok (.ifCond .le 22, 3) := by decide +kernel
theorem dX2_bringIn_127 : decode cX2_bringIn 127 = .ok (.aload_n 0, 1) := by decide +kernel
theorem dX2_bringIn_128 : decode cX2_bringIn 128 = .ok (.iload_n 1, 1) := by decide +kernel
theorem dX2_bringIn_129 : decode cX2_bringIn 129 = .ok (.aload_n 0, 1) := by decide +kernel
theorem dX2_bringIn_130 : decode cX2_bringIn 130 = .ok (.getfield 40, 3) := by decide +kernel
theorem dX2_bringIn_133 : decode cX2_bringIn 133 = .ok (.getfield 199, 3) := by decide +kernel
theorem dX2_bringIn_136 : decode cX2_bringIn 136 = .ok (.iload 7, 2) := by decide +kernel
theorem dX2_bringIn_138 : decode cX2_bringIn 138 = .ok (.iaload, 1) := by decide +kernel
theorem dX2_bringIn_139 : decode cX2_bringIn 139 = .ok (.iconst (-1), 1) := by decide +kernel
theorem dX2_bringIn_140 : decode cX2_bringIn 140 = .ok (.iconst 0, 1) := by decide +kernel
theorem dX2_bringIn_141 : decode cX2_bringIn 141 = .ok (.lload 8, 2) := by decide +kernel
theorem dX2_bringIn_143 : decode cX2_bringIn 143 = .ok (.invokevirtual 200, 3) := by decide +kernel
theorem dX2_bringIn_146 : decode cX2_bringIn 146 = .ok (.iinc 7 1, 3) := by decide +kernel
theorem dX2_bringIn_149 : decode cX2_bringIn 149 = .ok (.goto (-60), 3) := by decide +kernel
theorem dX2_bringIn_152 : decode cX2_bringIn 152 = .ok (.iinc 3 1, 3) := by decide +kernel
theorem dX2_bringIn_155 : decode cX2_bringIn 155 = .ok (.goto (-131), 3) := by decide +kernel
theorem dX2_bringIn_158 : decode cX2_bringIn 158 = .ok (.return_, 1) := by decide +kernel
set_option maxRecDepth 20000 in
theorem ggX2_runLine_X3_begin : GoodIn wsX2_runLine wsX3_begin := goodIn_r _ [15, 16, 17, 18, 19, 20, 21, 87, 88, 89, 90, 91, 92, 93] (by decide +kernel) (by decide +kernel)
set_option maxRecDepth 20000 in
theorem gX2_runLine_X3_begin : GoodIn wsX2_runLine (wsV RX2 204 RX3 yX3_begin wsX3_begin) := goodIn_app (goodIn_of _ (by decide +kernel)) ggX2_runLine_X3_begin
set_option maxRecDepth 20000 in
theorem ggX2_runLine_X7_passesOn : GoodIn wsX2_runLine wsX7_passesOn := goodIn_r _ [24] (by decide +kernel) (by decide +kernel)
set_option maxRecDepth 20000 in
theorem gX2_runLine_X7_passesOn_n208 : GoodIn wsX2_runLine (wsX7_passesOn) := ggX2_runLine_X7_passesOn
set_option maxRecDepth 20000 in
theorem ggX2_runLine_X2_lastDay : GoodIn wsX2_runLine wsX2_lastDay := goodIn_r _ [29, 8, 62, 63, 64, 65, 66, 67, 68, 69, 70, 71, 72, 73, 74, 75, 76, 77] (by decide +kernel) (by decide +kernel)
set_option maxRecDepth 20000 in
theorem gX2_runLine_X2_lastDay : GoodIn wsX2_runLine (wsV RX2 185 RX2 yX2_lastDay wsX2_lastDay) := goodIn_app (goodIn_of _ (by decide +kernel)) ggX2_runLine_X2_lastDay
set_option maxRecDepth 20000 in
theorem ggX2_runLine_X0_holdsFor : GoodIn wsX2_runLine wsX0_holdsFor := goodIn_r _ [34, 35, 36, 37, 78, 79, 80, 81, 82, 83, 84, 85, 86] (by decide +kernel) (by decide +kernel)
