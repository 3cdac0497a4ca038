theorem dX8_share_243 : decode cX8_share 243 = .ok (.iconst 1, 1) := by decide +kernel
theorem dX8_share_244 : decode cX8_share 244 = .ok (.iadd, 1) := by decide +kernel
theorem dX8_share_245 : decode cX8_share 245 = .ok (.iastore, 1) := by decide +kernel
theorem dX8_share_246 : decode cX8_share 246 = .ok (.iload 9, 2) := by decide +kernel
theorem dX8_share_248 : decode cX8_share 248 = .ok (.iconst 1, 1) := by decide +kernel
theorem dX8_share_249 : decode cX8_share 249 = .ok (.iadd, 1) := by decide +kernel
theorem dX8_share_250 : decode cX8_share 250 = .ok (.ireturn, 1) := by decide +kernel
theorem dX8_setOn_0 : decode cX8_setOn 0 = .ok (.bipush 6, 2) := by decide +kernel
theorem dX8_setOn_2 : decode cX8_setOn 2 = .ok (.iload_n 1, 1) := by decide +kernel
theorem dX8_setOn_3 : decode cX8_setOn 3 = .ok (.imul, 1) := by decide +kernel
theorem dX8_setOn_4 : decode cX8_setOn 4 = .ok (.istore_n 3, 1) := by decide +kernel
theorem dX8_setOn_5 : decode cX8_setOn 5 = .ok (.iconst 0, 1) := by decide +kernel
theorem dX8_setOn_6 : decode cX8_setOn 6 = .ok (.istore 4, 2) := by decide +kernel
theorem dX8_setOn_8 : decode cX8_setOn 8 = .ok (.iload 4, 2) := by decide +kernel
theorem dX8_setOn_10 : decode cX8_setOn 10 = .ok (.aload_n 0, 1) := by decide +kernel
theorem dX8_setOn_11 : decode cX8_setOn 11 = .ok (.getfield 7, 3) := by decide +kernel
theorem dX8_setOn_14 : decode cX8_setOn 14 = .ok (.iload_n 1, 1) := by decide +kernel
theorem dX8_setOn_15 : decode cX8_setOn 15 = .ok (.iaload, 1) := by decide +kernel
theorem dX8_setOn_16 : decode cX8_setOn 16 = .ok (.if_icmp .ge 33, 3) := by decide +kernel
theorem dX8_setOn_19 : decode cX8_setOn 19 = .ok (.aload_n 0, 1) := by decide +kernel
theorem dX8_setOn_20 : decode cX8_setOn 20 = .ok (.getfield 13, 3) := by decide +kernel
theorem dX8_setOn_23 : decode cX8_setOn 23 = .ok (.bipush 6, 2) := by decide +kernel
theorem dX8_setOn_25 : decode cX8_setOn 25 = .ok (.iload_n 1, 1) := by decide +kernel
theorem dX8_setOn_26 : decode cX8_setOn 26 = .ok (.imul, 1) := by decide +kernel
theorem dX8_setOn_27 : decode cX8_setOn 27 = .ok (.iload 4, 2) := by decide +kernel
theorem dX8_setOn_29 : decode cX8_setOn 29 = .ok (.iadd, 1) := by decide +kernel
theorem dX8_setOn_30 : decode cX8_setOn 30 = .ok (.iaload, 1) := by decide +kernel
theorem dX8_setOn_31 : decode cX8_setOn 31 = .ok (.iload_n 2, 1) := by decide +kernel
theorem dX8_setOn_32 : decode cX8_setOn 32 = .ok (.if_icmp .gt 11, 3) := by decide +kernel
theorem dX8_setOn_35 : decode cX8_setOn 35 = .ok (.bipush 6, 2) := by decide +kernel
theorem dX8_setOn_37 : decode cX8_setOn 37 = .ok (.iload_n 1, 1) := by decide +kernel
theorem dX8_setOn_38 : decode cX8_setOn 38 = .ok (.imul, 1) := by decide +kernel
theorem dX8_setOn_39 : decode cX8_setOn 39 = .ok (.iload 4, 2) := by decide +kernel
theorem dX8_setOn_41 : decode cX8_setOn 41 = .ok (.iadd, 1) := by decide +kernel
theorem dX8_setOn_42 : decode cX8_setOn 42 = .ok (.istore_n 3, 1) := by decide +kernel
theorem dX8_setOn_43 : decode cX8_setOn 43 = .ok (.iinc 4 1, 3) := by decide +kernel
theorem dX8_setOn_46 : decode cX8_setOn 46 = .ok (.goto (-38), 3) := by decide +kernel
theorem dX8_setOn_49 : decode cX8_setOn 49 = .ok (.iload_n 3, 1) := by decide +kernel
theorem dX8_setOn_50 : decode cX8_setOn 50 = .ok (.ireturn, 1) := by decide +kernel
theorem dX8_isSum_0 : decode cX8_isSum 0 = .ok (.iload_n 0, 1) := by decide +kernel
theorem dX8_isSum_1 : decode cX8_isSum 1 = .ok (.iconst 1, 1) := by decide +kernel
theorem dX8_isSum_2 : decode cX8_isSum 2 = .ok (.if_icmp .lt 13, 3) := by decide +kernel
theorem dX8_isSum_5 : decode cX8_isSum 5 = .ok (.iload_n 0, 1) := by decide +kernel
theorem dX8_isSum_6 : decode cX8_isSum 6 = .ok (.ldc 150, 2) := by decide +kernel
theorem dX8_isSum_8 : decode cX8_isSum 8 = .ok (.if_icmp .gt 7, 3) := by decide +kernel
theorem dX8_isSum_11 : decode cX8_isSum 11 = .ok (.iconst 1, 1) := by decide +kernel
theorem dX8_isSum_12 : decode cX8_isSum 12 = .ok (.goto 4, 3) := by decide +kernel
theorem dX8_isSum_15 : decode cX8_isSum 15 = .ok (.iconst 0, 1) := by decide +kernel
theorem dX8_isSum_16 : decode cX8_isSum 16 = .ok (.ireturn, 1) := by decide +kernel
theorem dX8_isThousandth_0 : decode cX8_isThousandth 0 = .ok (.iload_n 0, 1) := by decide +kernel
theorem dX8_isThousandth_1 : decode cX8_isThousandth 1 = .ok (.iconst 1, 1) := by decide +kernel
theorem dX8_isThousandth_2 : decode cX8_isThousandth 2 = .ok (.if_icmp .lt 14, 3) := by decide +kernel
theorem dX8_isThousandth_5 : decode cX8_isThousandth 5 = .ok (.iload_n 0, 1) := by decide +kernel
theorem dX8_isThousandth_6 : decode cX8_isThousandth 6 = .ok (.sipush 1000, 3) := by decide +kernel
theorem dX8_isThousandth_9 : decode cX8_isThousandth 9 = .ok (.if_icmp .gt 7, 3) := by decide +kernel
theorem dX8_isThousandth_12 : decode cX8_isThousandth 12 = .ok (.iconst 1, 1) := by decide +kernel
theorem dX8_isThousandth_13 : decode cX8_isThousandth 13 = .ok (.goto 4, 3) := by decide +kernel
theorem dX8_isThousandth_16 : decode cX8_isThousandth 16 = .ok (.iconst 0, 1) := by decide +kernel
theorem dX8_isThousandth_17 : decode cX8_isThousandth 17 = .ok (.ireturn, 1) := by decide +kernel
set_option maxRecDepth 20000 in
theorem ggX8_areGood_X8_isHand : GoodIn wsX8_areGood wsX8_isHand := goodIn_r _ [4] rfl (by decide +kernel)
set_option maxRecDepth 20000 in
theorem gX8_areGood_X8_isHand : GoodIn wsX8_areGood (va_wsS RX8 132 yX8_isHand wsX8_isHand) := goodIn_app (goodIn_of _ (by decide +kernel)) ggX8_areGood_X8_isHand
set_option maxRecDepth 20000 in
theorem ggX8_areGood_X8_isThousandth : GoodIn wsX8_areGood wsX8_isThousandth := goodIn_r _ [7] rfl (by decide +kernel)
set_option maxRecDepth 20000 in
theorem gX8_areGood_X8_isThousandth : GoodIn wsX8_areGood (va_wsS RX8 151 yX8_isThousandth wsX8_isThousandth) := goodIn_app (goodIn_of _ (by decide +kernel)) ggX8_areGood_X8_isThousandth
set_option maxRecDepth 20000 in
theorem ggX8_areGood_X8_isSum : GoodIn wsX8_areGood wsX8_isSum := goodIn_r _ [10, 11] rfl (by decide +kernel)
set_option maxRecDepth 20000 in
theorem gX8_areGood_X8_isSum : GoodIn wsX8_areGood (va_wsS RX8 154 yX8_isSum wsX8_isSum) := goodIn_app (goodIn_of _ (by decide +kernel)) ggX8_areGood_X8_isSum
theorem dX8_areGood_0 : decode cX8_areGood 0 = .ok (.iload 5, 2) := by decide +kernel
theorem dX8_areGood_2 : decode cX8_areGood 2 = .ok (.invokestatic 132, 3) := by decide +kernel
theorem dX8_areGood_5 : decode cX8_areGood 5 = .ok (.ifCond .eq 13, 3) := by decide +kernel
theorem dX8_areGood_8 : decode cX8_areGood 8 = .ok (.iload 5, 2) := by decide +kernel
theorem dX8_areGood_10 : decode cX8_areGood 10 = .ok (.iload_n 1, 1) := by decide +kernel
theorem dX8_areGood_11 : decode cX8_areGood 11 = .ok (.if_icmp .eq 7, 3) := by decide +kernel
theorem dX8_areGood_14 : decode cX8_areGood 14 = .ok (.iconst 1, 1) := by decide +kernel
theorem dX8_areGood_15 : decode cX8_areGood 15 = .ok (.goto 4, 3) := by decide +kernel
theorem dX8_areGood_18 : decode cX8_areGood 18 = .ok (.iconst 0, 1) := by decide +kernel
theorem dX8_areGood_19 : decode cX8_areGood 19 = .ok (.istore 6, 2) := by decide +kernel
theorem dX8_areGood_21 : decode cX8_areGood 21 = .ok (.iload_n 0, 1) := by decide +kernel
theorem dX8_areGood_22 : decode cX8_areGood 22 = .ok (.tableswitch 119 0 4 #[34, 52, 52, 57, 95], 34) := by decide +kernel
theorem dX8_areGood_56 : decode cX8_areGood 56 = .ok (.iload_n 2, 1) := by decide +kernel
theorem dX8_areGood_57 : decode cX8_areGood 57 = .ok (.invokestatic 151, 3) := by decide +kernel
theorem dX8_areGood_60 : decode cX8_areGood 60 = .ok (.ifCond .eq 12, 3) := by decide +kernel
theorem dX8_areGood_63 : decode cX8_areGood 63 = .ok (.iload 6, 2) := by decide +kernel
theorem dX8_areGood_65 : decode cX8_areGood 65 = .ok (.ifCond .eq 7, 3) := by decide +kernel
theorem dX8_areGood_68 : decode cX8_areGood 68 = .ok (.iconst 1, 1) := by decide +kernel
theorem dX8_areGood_69 : decode cX8_areGood 69 = .ok (.goto 4, 3) := by decide +kernel
theorem dX8_areGood_72 : decode cX8_areGood 72 = .ok (.iconst 0, 1) := by decide +kernel
theorem dX8_areGood_73 : decode cX8_areGood 73 = .ok (.ireturn, 1) := by decide +kernel
theorem dX8_areGood_74 : decode cX8_areGood 74 = .ok (.iload_n 2, 1) := by decide +kernel
theorem dX8_areGood_75 : decode cX8_areGood 75 = .ok (.invokestatic 154, 3) := by decide +kernel
theorem dX8_areGood_78 : decode cX8_areGood 78 = .ok (.ireturn, 1) := by decide +kernel
theorem dX8_areGood_79 : decode cX8_areGood 79 = .ok (.iload_n 2, 1) := by decide +kernel
theorem dX8_areGood_80 : decode cX8_areGood 80 = .ok (.invokestatic 151, 3) := by decide +kernel
theorem dX8_areGood_83 : decode cX8_areGood 83 = .ok (.ifCond .eq 32, 3) := by decide +kernel
theorem dX8_areGood_86 : decode cX8_areGood 86 = .ok (.iload_n 3, 1) := by decide +kernel
theorem dX8_areGood_87 : decode cX8_areGood 87 = .ok (.invokestatic 154, 3) := by decide +kernel
theorem dX8_areGood_90 : decode cX8_areGood 90 = .ok (.ifCond .eq 25, 3) := by decide +kernel
theorem dX8_areGood_93 : decode cX8_areGood 93 = .ok (.iload 4, 2) := by decide +kernel
theorem dX8_areGood_95 : decode cX8_areGood 95 = .ok (.ifCond .lt 20, 3) := by decide +kernel
theorem dX8_areGood_98 : decode cX8_areGood 98 = .ok (.iload 4, 2) := by decide +kernel
theorem dX8_areGood_100 : decode cX8_areGood 100 = .ok (.sipush 1000, 3) := by decide +kernel
theorem dX8_areGood_103 : decode cX8_areGood 103 = .ok (.if_icmp .gt 12, 3) := by decide +kernel
theorem dX8_areGood_106 : decode cX8_areGood 106 = .ok (.iload 6, 2) := by decide +kernel
theorem dX8_areGood_108 : decode cX8_areGood 108 = .ok (.ifCond .eq 7, 3) := by decide +kernel
theorem dX8_areGood_111 : decode cX8_areGood 111 = .ok (.iconst 1, 1) := by decide +kernel
theorem dX8_areGood_112 : decode cX8_areGood 112 = .ok (.goto 4, 3) := by decide +kernel
theorem dX8_areGood_115 : decode cX8_areGood 115 = .ok (.iconst 0, 1) := by decide +kernel
theorem dX8_areGood_116 : decode cX8_areGood 116 = .ok (.ireturn, 1) := by decide +kernel
theorem dX8_areGood_117 : decode cX8_areGood 117 = .ok (.iload_n 2, 1) := by decide +kernel
theorem dX8_areGood_118 : decode cX8_areGood 118 = .ok (.invokestatic 151, 3) := by decide +kernel
theorem dX8_areGood_121 : decode cX8_areGood 121 = .ok (.ifCond .eq 18, 3) := by decide +kernel
theorem dX8_areGood_124 : decode cX8_areGood 124 = .ok (.iload_n 3, 1) := by decide +kernel
theorem dX8_areGood_125 : decode cX8_areGood 125 = .ok (.iconst 1, 1) := by decide +kernel
theorem dX8_areGood_126 : decode cX8_areGood 126 = .ok (.if_icmp .lt 13, 3) := by decide +kernel
theorem dX8_areGood_129 : decode cX8_areGood 129 = .ok (.iload_n 3, 1) := by decide +kernel
theorem dX8_areGood_130 : decode cX8_areGood 130 = .ok (.bipush 8, 2) := by decide +kernel
theorem dX8_areGood_132 : decode cX8_areGood 132 = .ok (.if_icmp .gt 7, 3) := by decide +kernel
theorem dX8_areGood_135 : decode cX8_areGood 135 = .ok (.iconst 1, 1) := by decide +kernel
theorem dX8_areGood_136 : decode cX8_areGood 136 = .ok (.goto 4, 3) := by decide +kernel
theorem dX8_areGood_139 : decode cX8_areGood 139 = .ok (.iconst 0, 1) := by decide +kernel
theorem dX8_areGood_140 : decode cX8_areGood 140 = .ok (.ireturn, 1) := by decide +kernel
theorem dX8_areGood_141 : decode cX8_areGood 141 = .ok (.iconst 0, 1) := by decide +kernel
theorem dX8_areGood_142 : decode cX8_areGood 142 = .ok (.ireturn, 1) := by decide +kernel
set_option maxRecDepth 20000 in
theorem ggX8_bargain_X8_isHand : GoodIn wsX8_bargain wsX8_isHand := goodIn_r _ [13] rfl (by decide +kernel)
set_option maxRecDepth 20000 in
theorem gX8_bargain_X8_isHand : GoodIn wsX8_bargain (va_wsS RX8 132 yX8_isHand wsX8_isHand) := goodIn_app (goodIn_of _ (by decide +kernel)) ggX8_bargain_X8_isHand
set_option maxRecDepth 20000 in
theorem ggX8_bargain_X8_isDay : GoodIn wsX8_bargain wsX8_isDay := goodIn_r _ [17, 18, 29, 30, 31, 32, 33, 34, 35, 36, 37, 38, 39, 40, 41, 42, 43, 44, 45, 46, 47, 48, 49, 50, 51, 52, 53, 54, 55, 56, 57, 58, 59, 60, 61, 62, 63, 64, 65, 66, 67, 68, 69, 70, 71, 72, 73, 74, 75] rfl (by decide +kernel)
set_option maxRecDepth 20000 in
theorem gX8_bargain_X8_isDay : GoodIn wsX8_bargain (wsV RX8 147 RX8 yX8_isDay wsX8_isDay) := goodIn_app (goodIn_of _ (by decide +kernel)) ggX8_bargain_X8_isDay
set_option maxRecDepth 20000 in
theorem ggX8_bargain_X8_areGood : GoodIn wsX8_bargain wsX8_areGood := goodIn_r _ [21, 10, 11, 12, 13, 22, 23, 24, 25, 26, 27, 28] rfl (by decide +kernel)
set_option maxRecDepth 20000 in
theorem gX8_bargain_X8_areGood : GoodIn wsX8_bargain (va_wsS RX8 160 yX8_areGood wsX8_areGood) := goodIn_app (goodIn_of _ (by decide +kernel)) ggX8_bargain_X8_areGood
theorem dX8_bargain_0 : decode cX8_bargain 0 = .ok (.iload_n 2, 1) := by decide +kernel
theorem dX8_bargain_1 : decode cX8_bargain 1 = .ok (.invokestatic 132, 3) := by decide +kernel
theorem dX8_bargain_4 : decode cX8_bargain 4 = .ok (.ifCond .eq 49, 3) := by decide +kernel
theorem dX8_bargain_7 : decode cX8_bargain 7 = .ok (.iload_n 3, 1) := by decide +kernel
theorem dX8_bargain_8 : decode cX8_bargain 8 = .ok (.iconst 1, 1) := by decide +kernel
theorem dX8_bargain_9 : decode cX8_bargain 9 = .ok (.if_icmp .lt 44, 3) := by decide +kernel
theorem dX8_bargain_12 : decode cX8_bargain 12 = .ok (.iload_n 3, 1) := by decide +kernel
theorem dX8_bargain_13 : decode cX8_bargain 13 = .ok (.sipush 4095, 3) := by decide +kernel
theorem dX8_bargain_16 : decode cX8_bargain 16 = .ok (.if_icmp .gt 37, 3) := by decide +kernel
theorem dX8_bargain_19 : decode cX8_bargain 19 = .ok (.aload_n 0, 1) := by decide +kernel
theorem dX8_bargain_20 : decode cX8_bargain 20 = .ok (.iload 4, 2) := by decide +kernel
theorem dX8_bargain_22 : decode cX8_bargain 22 = .ok (.invokevirtual 147, 3) := by decide +kernel
theorem dX8_bargain_25 : decode cX8_bargain 25 = .ok (.ifCond .eq 28, 3) := by decide +kernel
theorem dX8_bargain_28 : decode cX8_bargain 28 = .ok (.aload_n 0, 1) := by decide +kernel
theorem dX8_bargain_29 : decode cX8_bargain 29 = .ok (.getfield 157, 3) := by decide +kernel
theorem dX8_bargain_32 : decode cX8_bargain 32 = .ok (.bipush 24, 2) := by decide +kernel
theorem dX8_bargain_34 : decode cX8_bargain 34 = .ok (.if_icmp .eq 19, 3) := by decide +kernel
theorem dX8_bargain_37 : decode cX8_bargain 37 = .ok (.iload_n 1, 1) := by decide +kernel
theorem dX8_bargain_38 : decode cX8_bargain 38 = .ok (.iload_n 2, 1) := by decide +kernel
theorem dX8_bargain_39 : decode cX8_bargain 39 = .ok (.iload 5, 2) := by decide +kernel
theorem dX8_bargain_41 : decode cX8_bargain 41 = .ok (.iload 6, 2) := by decide +kernel
theorem dX8_bargain_43 : decode cX8_bargain 43 = .ok (.iload 7, 2) := by decide +kernel
theorem dX8_bargain_45 : decode cX8_bargain 45 = .ok (.iload 8, 2) := by decide +kernel
theorem dX8_bargain_47 : decode cX8_bargain 47 = .ok (.invokestatic 160, 3) := by decide +kernel
theorem dX8_bargain_50 : decode cX8_bargain 50 = .ok (.ifCond .ne 5, 3) := by decide +kernel
theorem dX8_bargain_53 : decode cX8_bargain 53 = .ok (.iconst (-1), 1) := by decide +kernel
theorem dX8_bargain_54 : decode cX8_bargain 54 = .ok (.ireturn, 1) := by decide +kernel
theorem dX8_bargain_55 : decode cX8_bargain 55 = .ok (.aload_n 0, 1) := by decide +kernel
theorem dX8_bargain_56 : decode cX8_bargain 56 = .ok (.getfield 157, 3) := by decide +kernel
theorem dX8_bargain_59 : decode cX8_bargain 59 = .ok (.istore 9, 2) := by decide +kernel
theorem dX8_bargain_61 : decode cX8_bargain 61 = .ok (.aload_n 0, 1) := by decide +kernel
theorem dX8_bargain_62 : decode cX8_bargain 62 = .ok (.getfield 22, 3) := by decide +kernel
theorem dX8_bargain_65 : decode cX8_bargain 65 = .ok (.iload 9, 2) := by decide +kernel
theorem dX8_bargain_67 : decode cX8_bargain 67 = .ok (.iload_n 1, 1) := by decide +kernel
theorem dX8_bargain_68 : decode cX8_bargain 68 = .ok (.iastore, 1) := by decide +kernel
theorem dX8_bargain_69 : decode cX8_bargain 69 = .ok (.aload_n 0, 1) := by decide +kernel
theorem dX8_bargain_70 : decode cX8_bargain 70 = .ok (.getfield 25, 3) := by decide +kernel
theorem dX8_bargain_73 : decode cX8_bargain 73 = .ok (.iload 9, 2) := by decide +kernel
theorem dX8_bargain_75 : decode cX8_bargain 75 = .ok (.iload_n 2, 1) := by decide +kernel
theorem dX8_bargain_76 : decode cX8_bargain 76 = .ok (.iastore, 1) := by decide +kernel
theorem dX8_bargain_77 : decode cX8_bargain 77 = .ok (.aload_n 0, 1) := by decide +kernel
theorem dX8_bargain_78 : decode cX8_bargain 78 = .ok (.getfield 28, 3) := by decide +kernel
theorem dX8_bargain_81 : decode cX8_bargain 81 = .ok (.iload 9, 2) := by decide +kernel
theorem dX8_bargain_83 : decode cX8_bargain 83 = .ok (.iload_n 3, 1) := by decide +kernel
theorem dX8_bargain_84 : decode cX8_bargain 84 = .ok (.iastore, 1) := by decide +kernel
theorem dX8_bargain_85 : decode cX8_bargain 85 = .ok (.aload_n 0, 1) := by decide +kernel
theorem dX8_bargain_86 : decode cX8_bargain 86 = .ok (.getfield 31, 3) := by decide +kernel
theorem dX8_bargain_89 : decode cX8_bargain 89 = .ok (.iload 9, 2) := by decide +kernel
theorem dX8_bargain_91 : decode cX8_bargain 91 = .ok (.iload 4, 2) := by decide +kernel
theorem dX8_bargain_93 : decode cX8_bargain 93 = .ok (.iastore, 1) := by decide +kernel
theorem dX8_bargain_94 : decode cX8_bargain 94 = .ok (.aload_n 0, 1) := by decide +kernel
theorem dX8_bargain_95 : decode cX8_bargain 95 = .ok (.getfield 34, 3) := by decide +kernel
theorem dX8_bargain_98 : decode cX8_bargain 98 = .ok (.iload 9, 2) := by decide +kernel
theorem dX8_bargain_100 : decode cX8_bargain 100 = .ok (.iload 5, 2) := by decide +kernel
theorem dX8_bargain_102 : decode cX8_bargain 102 = .ok (.iastore, 1) := by decide +kernel
theorem dX8_bargain_103 : decode cX8_bargain 103 = .ok (.aload_n 0, 1) := by decide +kernel
theorem dX8_bargain_104 : decode cX8_bargain 104 = .ok (.getfield 37, 3) := by decide +kernel
theorem dX8_bargain_107 : decode cX8_bargain 107 = .ok (.iload 9, 2) := by decide +kernel
theorem dX8_bargain_109 : decode cX8_bargain 109 = .ok (.iload 6, 2) := by decide +kernel
theorem dX8_bargain_111 : decode cX8_bargain 111 = .ok (.iastore, 1) := by decide +kernel
theorem dX8_bargain_112 : decode cX8_bargain 112 = .ok (.aload_n 0, 1) := by decide +kernel
theorem dX8_bargain_113 : decode cX8_bargain 113 = .ok (.getfield 40, 3) := by decide +kernel
theorem dX8_bargain_116 : decode cX8_bargain 116 = .ok (.iload 9, 2) := by decide +kernel
theorem dX8_bargain_118 : decode cX8_bargain 118 = .ok (.iload 7, 2) := by decide +kernel
theorem dX8_bargain_120 : decode cX8_bargain 120 = .ok (.iastore, 1) := by decide +kernel
theorem dX8_bargain_121 : decode cX8_bargain 121 = .ok (.aload_n 0, 1) := by decide +kernel
theorem dX8_bargain_122 : decode cX8_bargain 122 = .ok (.getfield 43, 3) := by decide +kernel
theorem dX8_bargain_125 : decode cX8_bargain 125 = .ok (.iload 9, 2) := by decide +kernel
theorem dX8_bargain_127 : decode cX8_bargain 127 = .ok (.iload 8, 2) := by decide +kernel
theorem dX8_bargain_129 : decode cX8_bargain 129 = .ok (.iastore, 1) := by decide +kernel
theorem dX8_bargain_130 : decode cX8_bargain 130 = .ok (.aload_n 0, 1) := by decide +kernel
theorem dX8_bargain_131 : decode cX8_bargain 131 = .ok (.iload 9, 2) := by decide +kernel
theorem dX8_bargain_133 : decode cX8_bargain 133 = .ok (.iconst 1, 1) := by decide +kernel
theorem dX8_bargain_134 : decode cX8_bargain 134 = .ok (.iadd, 1) := by decide +kernel
theorem dX8_bargain_135 : decode cX8_bargain 135 = .ok (.putfield 157, 3) := by decide +kernel
theorem dX8_bargain_138 : decode cX8_bargain 138 = .ok (.iload 9, 2) := by decide +kernel
theorem dX8_bargain_140 : decode cX8_bargain 140 = .ok (.ireturn, 1) := by decide +kernel
theorem dX8_areCoins_0 : decode cX8_areCoins 0 = .ok (.iload_n 0, 1) := by decide +kernel
theorem dX8_areCoins_1 : decode cX8_areCoins 1 = .ok (.ifCond .lt 13, 3) := by decide +kernel
theorem dX8_areCoins_4 : decode cX8_areCoins 4 = .ok (.iload_n 0, 1) := by decide +kernel
theorem dX8_areCoins_5 : decode cX8_areCoins 5 = .ok (.ldc 150, 2) := by decide +kernel
theorem dX8_areCoins_7 : decode cX8_areCoins 7 = .ok (.if_icmp .gt 7, 3) := by decide +kernel
theorem dX8_areCoins_10 : decode cX8_areCoins 10 = .ok (.iconst 1, 1) := by decide +kernel
theorem dX8_areCoins_11 : decode cX8_areCoins 11 = .ok (.goto 4, 3) := by decide +kernel
theorem dX8_areCoins_14 : decode cX8_areCoins 14 = .ok (.iconst 0, 1) := by decide +kernel
theorem dX8_areCoins_15 : decode cX8_areCoins 15 = .ok (.ireturn, 1) := by decide +kernel
set_option maxRecDepth 20000 in
theorem ggX8_isReport_X8_isWork : GoodIn wsX8_isReport wsX8_isWork := goodIn_r _ [5] rfl (by decide +kernel)
set_option maxRecDepth 20000 in
theorem gX8_isReport_X8_isWork : GoodIn wsX8_isReport (va_wsS RX8 140 yX8_isWork wsX8_isWork) := goodIn_app (goodIn_of _ (by decide +kernel)) ggX8_isReport_X8_isWork
set_option maxRecDepth 20000 in
theorem ggX8_isReport_X8_areCoins : GoodIn wsX8_isReport wsX8_areCoins := goodIn_r _ [8, 9] rfl (by decide +kernel)
set_option maxRecDepth 20000 in
theorem gX8_isReport_X8_areCoins : GoodIn wsX8_isReport (va_wsS RX8 164 yX8_areCoins wsX8_areCoins) := goodIn_app (goodIn_of _ (by decide +kernel)) ggX8_isReport_X8_areCoins
theorem dX8_isReport_0 : decode cX8_isReport 0 = .ok (.iload_n 1, 1) := by decide +kernel
theorem dX8_isReport_1 : decode cX8_isReport 1 = .ok (.invokestatic 140, 3) := by decide +kernel
theorem dX8_isReport_4 : decode cX8_isReport 4 = .ok (.ifCond .eq 43, 3) := by decide +kernel
theorem dX8_isReport_7 : decode cX8_isReport 7 = .ok (.aload_n 0, 1) := by decide +kernel
theorem dX8_isReport_8 : decode cX8_isReport 8 = .ok (.getfield 7, 3) := by decide +kernel
theorem dX8_isReport_11 : decode cX8_isReport 11 = .ok (.iload_n 1, 1) := by decide +kernel
theorem dX8_isReport_12 : decode cX8_isReport 12 = .ok (.iaload, 1) := by decide +kernel
theorem dX8_isReport_13 : decode cX8_isReport 13 = .ok (.ifCond .le 34, 3) := by decide +kernel
theorem dX8_isReport_16 : decode cX8_isReport 16 = .ok (.iload_n 2, 1) := by decide +kernel
theorem dX8_isReport_17 : decode cX8_isReport 17 = .ok (.invokestatic 164, 3) := by decide +kernel
theorem dX8_isReport_20 : decode cX8_isReport 20 = .ok (.ifCond .eq 27, 3) := by decide +kernel
theorem dX8_isReport_23 : decode cX8_isReport 23 = .ok (.iload 5, 2) := by decide +kernel
theorem dX8_isReport_25 : decode cX8_isReport 25 = .ok (.ifCond .eq 18, 3) := by decide +kernel
theorem dX8_isReport_28 : decode cX8_isReport 28 = .ok (.iload_n 3, 1) := by decide +kernel
theorem dX8_isReport_29 : decode cX8_isReport 29 = .ok (.invokestatic 164, 3) := by decide +kernel
theorem dX8_isReport_32 : decode cX8_isReport 32 = .ok (.ifCond .eq 15, 3) := by decide +kernel
theorem dX8_isReport_35 : decode cX8_isReport 35 = .ok (.iload 4, 2) := by decide +kernel
theorem dX8_isReport_37 : decode cX8_isReport 37 = .ok (.invokestatic 164, 3) := by decide +kernel
theorem dX8_isReport_40 : decode cX8_isReport 40 = .ok (.ifCond .eq 7, 3) := by decide +kernel
theorem dX8_isReport_43 : decode cX8_isReport 43 = .ok (.iconst 1, 1) := by decide +kernel
theorem dX8_isReport_44 : decode cX8_isReport 44 = .ok (.goto 4, 3) := by decide +kernel
theorem dX8_isReport_47 : decode cX8_isReport 47 = .ok (.iconst 0, 1) := by decide +kernel
theorem dX8_isReport_48 : decode cX8_isReport 48 = .ok (.ireturn, 1) := by decide +kernel
theorem dX8_puts_0 : decode cX8_puts 0 = .ok (.bipush 12, 2) := by decide +kernel
theorem dX8_puts_2 : decode cX8_puts 2 = .ok (.iload_n 1, 1) := by decide +kernel
theorem dX8_puts_3 : decode cX8_puts 3 = .ok (.imul, 1) := by decide +kernel
theorem dX8_puts_4 : decode cX8_puts 4 = .ok (.iload_n 2, 1) := by decide +kernel
theorem dX8_puts_5 : decode cX8_puts 5 = .ok (.iadd, 1) := by decide +kernel
theorem dX8_puts_6 : decode cX8_puts 6 = .ok (.istore 7, 2) := by decide +kernel
theorem dX8_puts_8 : decode cX8_puts 8 = .ok (.aload_n 0, 1) := by decide +kernel
theorem dX8_puts_9 : decode cX8_puts 9 = .ok (.getfield 55, 3) := by decide +kernel
theorem dX8_puts_12 : decode cX8_puts 12 = .ok (.iload 7, 2) := by decide +kernel
theorem dX8_puts_14 : decode cX8_puts 14 = .ok (.iaload, 1) := by decide +kernel
theorem dX8_puts_15 : decode cX8_puts 15 = .ok (.ifCond .ne 34, 3) := by decide +kernel
theorem dX8_puts_18 : decode cX8_puts 18 = .ok (.aload_n 0, 1) := by decide +kernel
theorem dX8_puts_19 : decode cX8_puts 19 = .ok (.getfield 58, 3) := by decide +kernel
theorem dX8_puts_22 : decode cX8_puts 22 = .ok (.bipush 12, 2) := by decide +kernel
theorem dX8_puts_24 : decode cX8_puts 24 = .ok (.iload_n 1, 1) := by decide +kernel
theorem dX8_puts_25 : decode cX8_puts 25 = .ok (.imul, 1) := by decide +kernel
theorem dX8_puts_26 : decode cX8_puts 26 = .ok (.aload_n 0, 1) := by decide +kernel
theorem dX8_puts_27 : decode cX8_puts 27 = .ok (.getfield 61, 3) := by decide +kernel
theorem dX8_puts_30 : decode cX8_puts 30 = .ok (.iload_n 1, 1) := by decide +kernel
theorem dX8_puts_31 : decode cX8_puts 31 = .ok (.iaload, 1) := by decide +kernel
theorem dX8_puts_32 : decode cX8_puts 32 = .ok (.iadd, 1) := by decide +kernel
theorem dX8_puts_33 : decode cX8_puts 33 = .ok (.iload_n 2, 1) := by decide +kernel
theorem dX8_puts_34 : decode cX8_puts 34 = .ok (.iastore, 1) := by decide +kernel
theorem dX8_puts_35 : decode cX8_puts 35 = .ok (.aload_n 0, 1) := by decide +kernel
theorem dX8_puts_36 : decode cX8_puts 36 = .ok (.getfield 61, 3) := by decide +kernel
theorem dX8_puts_39 : decode cX8_puts 39 = .ok (.iload_n 1, 1) := by decide +kernel
theorem dX8_puts_40 : decode cX8_puts 40 = .ok (.aload_n 0, 1) := by decide +kernel
theorem dX8_puts_41 : decode cX8_puts 41 = .ok (.getfield 61, 3) := by decide +kernel
theorem dX8_puts_44 : decode cX8_puts 44 = .ok (.iload_n 1, 1) := by decide +kernel
theorem dX8_puts_45 : decode cX8_puts 45 = .ok (.iaload, 1) := by decide +kernel
theorem dX8_puts_46 : decode cX8_puts 46 = .ok (.iconst 1, 1) := by decide +kernel
theorem dX8_puts_47 : decode cX8_puts 47 = .ok (.iadd, 1) := by decide +kernel
theorem dX8_puts_48 : decode cX8_puts 48 = .ok (.iastore, 1) := by decide +kernel
theorem dX8_puts_49 : decode cX8_puts 49 = .ok (.aload_n 0, 1) := by decide +kernel
theorem dX8_puts_50 : decode cX8_puts 50 = .ok (.getfield 55, 3) := by decide +kernel
theorem dX8_puts_53 : decode cX8_puts 53 = .ok (.iload 7, 2) := by decide +kernel
theorem dX8_puts_55 : decode cX8_puts 55 = .ok (.iload 6, 2) := by decide +kernel
theorem dX8_puts_57 : decode cX8_puts 57 = .ok (.ifCond .eq 7, 3) := by decide +kernel
theorem dX8_puts_60 : decode cX8_puts 60 = .ok (.iconst 2, 1) := by decide +kernel
theorem dX8_puts_61 : decode cX8_puts 61 = .ok (.goto 4, 3) := by decide +kernel
theorem dX8_puts_64 : decode cX8_puts 64 = .ok (.iconst 1, 1) := by decide +kernel
theorem dX8_puts_65 : decode cX8_puts 65 = .ok (.iastore, 1) := by decide +kernel
theorem dX8_puts_66 : decode cX8_puts 66 = .ok (.aload_n 0, 1) := by decide +kernel
theorem dX8_puts_67 : decode cX8_puts 67 = .ok (.getfield 46, 3) := by decide +kernel
theorem dX8_puts_70 : decode cX8_puts 70 = .ok (.iload 7, 2) := by decide +kernel
theorem dX8_puts_72 : decode cX8_puts 72 = .ok (.iload_n 3, 1) := by decide +kernel
theorem dX8_puts_73 : decode cX8_puts 73 = .ok (.iastore, 1) := by decide +kernel
theorem dX8_puts_74 : decode cX8_puts 74 = .ok (.aload_n 0, 1) := by decide +kernel
theorem dX8_puts_75 : decode cX8_puts 75 = .ok (.getfield 49, 3) := by decide +kernel
theorem dX8_puts_78 : decode cX8_puts 78 = .ok (.iload 7, 2) := by decide +kernel
theorem dX8_puts_80 : decode cX8_puts 80 = .ok (.iload 6, 2) := by decide +kernel
theorem dX8_puts_82 : decode cX8_puts 82 = .ok (.ifCond .eq 8, 3) := by decide +kernel
theorem dX8_puts_85 : decode cX8_puts 85 = .ok (.iload 4, 2) := by decide +kernel
theorem dX8_puts_87 : decode cX8_puts 87 = .ok (.goto 4, 3) := by decide +kernel
theorem dX8_puts_90 : decode cX8_puts 90 = .ok (.iconst 0, 1) := by decide +kernel
theorem dX8_puts_91 : decode cX8_puts 91 = .ok (.iastore, 1) := by decide +kernel
theorem dX8_puts_92 : decode cX8_puts 92 = .ok (.aload_n 0, 1) := by decide +kernel
theorem dX8_puts_93 : decode cX8_puts 93 = .ok (.getfield 52, 3) := by decide +kernel
theorem dX8_puts_96 : decode cX8_puts 96 = .ok (.iload 7, 2) := by decide +kernel
theorem dX8_puts_98 : decode cX8_puts 98 = .ok (.iload 6, 2) := by decide +kernel
theorem dX8_puts_100 : decode cX8_puts 100 = .ok (.ifCond .eq 8, 3) := by decide +kernel
theorem dX8_puts_103 : decode cX8_puts 103 = .ok (.iload 5, 2) := by decide +kernel
theorem dX8_puts_105 : decode cX8_puts 105 = .ok (.goto 4, 3) := by decide +kernel
theorem dX8_puts_108 : decode cX8_puts 108 = .ok (.iconst 0, 1) := by decide +kernel
theorem dX8_puts_109 : decode cX8_puts 109 = .ok (.iastore, 1) := by decide +kernel
theorem dX8_puts_110 : decode cX8_puts 110 = .ok (.return_, 1) := by decide +kernel
set_option maxRecDepth 20000 in
theorem ggX8_report_X8_isReport : GoodIn wsX8_report wsX8_isReport := goodIn_r _ [6, 7, 8, 9, 5, 10, 11, 12, 13, 14, 25, 26, 27, 28, 29, 30, 31, 32, 33, 34, 35, 36, 37, 38, 39, 40, 41, 42, 43, 44, 45, 46, 47, 48, 49, 50, 51, 52, 53, 54, 55, 56, 57, 58, 59, 60, 61, 62, 63, 64, 65, 66, 67, 68, 69, 70, 71] rfl (by decide +kernel)
set_option maxRecDepth 20000 in
theorem gX8_report_X8_isReport : GoodIn wsX8_report (wsV RX8 167 RX8 yX8_isReport wsX8_isReport) := goodIn_app (goodIn_of _ (by decide +kernel)) ggX8_report_X8_isReport
set_option maxRecDepth 20000 in
theorem ggX8_report_X8_puts : GoodIn wsX8_report wsX8_puts := goodIn_r _ [18, 19, 20, 21, 22, 23, 24, 25, 26, 27, 28, 29, 30, 31, 32, 33, 34, 35, 36, 37, 38, 39, 40, 41, 42, 43, 44, 45, 46, 47, 48, 49, 50, 51, 52, 53, 54, 55, 56, 57, 58, 59, 60, 61, 62, 63, 64, 65, 66, 67, 68, 69, 70, 71] rfl (by decide +kernel)
set_option maxRecDepth 20000 in
theorem gX8_report_X8_puts : GoodIn wsX8_report (wsV RX8 171 RX8 yX8_puts wsX8_puts) := goodIn_app (goodIn_of _ (by decide +kernel)) ggX8_report_X8_puts
theorem dX8_report_0 : decode cX8_report 0 = .ok (.aload_n 0, 1) := by decide +kernel
theorem dX8_report_1 : decode cX8_report 1 = .ok (.getfield 136, 3) := by decide +kernel
theorem dX8_report_4 : decode cX8_report 4 = .ok (.bipush 40, 2) := by decide +kernel
theorem dX8_report_6 : decode cX8_report 6 = .ok (.if_icmp .eq 17, 3) := by decide +kernel
theorem dX8_report_9 : decode cX8_report 9 = .ok (.aload_n 0, 1) := by decide +kernel
theorem dX8_report_10 : decode cX8_report 10 = .ok (.iload_n 1, 1) := by decide +kernel
theorem dX8_report_11 : decode cX8_report 11 = .ok (.iload_n 2, 1) := by decide +kernel
theorem dX8_report_12 : decode cX8_report 12 = .ok (.iload_n 3, 1) := by decide +kernel
theorem dX8_report_13 : decode cX8_report 13 = .ok (.iload 4, 2) := by decide +kernel
theorem dX8_report_15 : decode cX8_report 15 = .ok (.iload 5, 2) := by decide +kernel
theorem dX8_report_17 : decode cX8_report 17 = .ok (.invokevirtual 167, 3) := by decide +kernel
theorem dX8_report_20 : decode cX8_report 20 = .ok (.ifCond .ne 5, 3) := by decide +kernel
theorem dX8_report_23 : decode cX8_report 23 = .ok (.iconst 0, 1) := by decide +kernel
theorem dX8_report_24 : decode cX8_report 24 = .ok (.ireturn, 1) := by decide +kernel
theorem dX8_report_25 : decode cX8_report 25 = .ok (.aload_n 0, 1) := by decide +kernel
theorem dX8_report_26 : decode cX8_report 26 = .ok (.aload_n 0, 1) := by decide +kernel
theorem dX8_report_27 : decode cX8_report 27 = .ok (.getfield 136, 3) := by decide +kernel
theorem dX8_report_30 : decode cX8_report 30 = .ok (.iload_n 1, 1) := by decide +kernel
theorem dX8_report_31 : decode cX8_report 31 = .ok (.iload_n 2, 1) := by decide +kernel
theorem dX8_report_32 : decode cX8_report 32 = .ok (.iload_n 3, 1) := by decide +kernel
theorem dX8_report_33 : decode cX8_report 33 = .ok (.iload 4, 2) := by decide +kernel
theorem dX8_report_35 : decode cX8_report 35 = .ok (.iload 5, 2) := by decide +kernel
theorem dX8_report_37 : decode cX8_report 37 = .ok (.invokevirtual 171, 3) := by decide +kernel
theorem dX8_report_40 : decode cX8_report 40 = .ok (.iconst 1, 1) := by decide +kernel
theorem dX8_report_41 : decode cX8_report 41 = .ok (.ireturn, 1) := by decide +kernel
set_option maxRecDepth 20000 in
theorem ggX8_mend_X8_isReport : GoodIn wsX8_mend wsX8_isReport := goodIn_r _ [7, 8, 9, 10, 6, 11, 12, 13, 14, 15, 26, 27, 28, 29, 30, 31, 32, 33, 34, 35, 36, 37, 38, 39, 40, 41, 42, 43, 44, 45, 46, 47, 48, 49, 50, 51, 52, 53, 54, 55, 56, 57, 58, 59, 60, 61, 62, 63, 64, 65, 66, 67, 68, 69, 70, 71, 72] rfl (by decide +kernel)
set_option maxRecDepth 20000 in
theorem gX8_mend_X8_isReport : GoodIn wsX8_mend (wsV RX8 167 RX8 yX8_isReport wsX8_isReport) := goodIn_app (goodIn_of _ (by decide +kernel)) ggX8_mend_X8_isReport
set_option maxRecDepth 20000 in
theorem ggX8_mend_X8_puts : GoodIn wsX8_mend wsX8_puts := goodIn_r _ [19, 20, 21, 22, 23, 24, 25, 26, 27, 28, 29, 30, 31, 32, 33, 34, 35, 36, 37, 38, 39, 40, 41, 42, 43, 44, 45, 46, 47, 48, 49, 50, 51, 52, 53, 54, 55, 56, 57, 58, 59, 60, 61, 62, 63, 64, 65, 66, 67, 68, 69, 70, 71, 72] rfl (by decide +kernel)
set_option maxRecDepth 20000 in
theorem gX8_mend_X8_puts : GoodIn wsX8_mend (wsV RX8 171 RX8 yX8_puts wsX8_puts) := goodIn_app (goodIn_of _ (by decide +kernel)) ggX8_mend_X8_puts
theorem dX8_mend_0 : decode cX8_mend 0 = .ok (.iload_n 1, 1) := by decide +kernel
theorem dX8_mend_1 : decode cX8_mend 1 = .ok (.ifCond .lt 26, 3) := by decide +kernel
theorem dX8_mend_4 : decode cX8_mend 4 = .ok (.iload_n 1, 1) := by decide +kernel
theorem dX8_mend_5 : decode cX8_mend 5 = .ok (.aload_n 0, 1) := by decide +kernel
theorem dX8_mend_6 : decode cX8_mend 6 = .ok (.getfield 136, 3) := by decide +kernel
theorem dX8_mend_9 : decode cX8_mend 9 = .ok (.if_icmp .ge 18, 3) := by decide +kernel
theorem dX8_mend_12 : decode cX8_mend 12 = .ok (.aload_n 0, 1) := by decide +kernel
theorem dX8_mend_13 : decode cX8_mend 13 = .ok (.iload_n 2, 1) := by decide +kernel
theorem dX8_mend_14 : decode cX8_mend 14 = .ok (.iload_n 3, 1) := by decide +kernel
theorem dX8_mend_15 : decode cX8_mend 15 = .ok (.iload 4, 2) := by decide +kernel
theorem dX8_mend_17 : decode cX8_mend 17 = .ok (.iload 5, 2) := by decide +kernel
theorem dX8_mend_19 : decode cX8_mend 19 = .ok (.iload 6, 2) := by decide +kernel
theorem dX8_mend_21 : decode cX8_mend 21 = .ok (.invokevirtual 167, 3) := by decide +kernel
theorem dX8_mend_24 : decode cX8_mend 24 = .ok (.ifCond .ne 5, 3) := by decide +kernel
theorem dX8_mend_27 : decode cX8_mend 27 = .ok (.iconst 0, 1) := by decide +kernel
theorem dX8_mend_28 : decode cX8_mend 28 = .ok (.ireturn, 1) := by decide +kernel
theorem dX8_mend_29 : decode cX8_mend 29 = .ok (.aload_n 0, 1) := by decide +kernel
theorem dX8_mend_30 : decode cX8_mend 30 = .ok (.iload_n 1, 1) := by decide +kernel
theorem dX8_mend_31 : decode cX8_mend 31 = .ok (.iload_n 2, 1) := by decide +kernel
theorem dX8_mend_32 : decode cX8_mend 32 = .ok (.iload_n 3, 1) := by decide +kernel
theorem dX8_mend_33 : decode cX8_mend 33 = .ok (.iload 4, 2) := by decide +kernel
theorem dX8_mend_35 : decode cX8_mend 35 = .ok (.iload 5, 2) := by decide +kernel
theorem dX8_mend_37 : decode cX8_mend 37 = .ok (.iload 6, 2) := by decide +kernel
theorem dX8_mend_39 : decode cX8_mend 39 = .ok (.invokevirtual 171, 3) := by decide +kernel
theorem dX8_mend_42 : decode cX8_mend 42 = .ok (.aload_n 0, 1) := by decide +kernel
theorem dX8_mend_43 : decode cX8_mend 43 = .ok (.getfield 67, 3) := by decide +kernel
theorem dX8_mend_46 : decode cX8_mend 46 = .ok (.bipush 12, 2) := by decide +kernel
theorem dX8_mend_48 : decode cX8_mend 48 = .ok (.iload_n 1, 1) := by decide +kernel
theorem dX8_mend_49 : decode cX8_mend 49 = .ok (.imul, 1) := by decide +kernel
theorem dX8_mend_50 : decode cX8_mend 50 = .ok (.iload_n 2, 1) := by decide +kernel
theorem dX8_mend_51 : decode cX8_mend 51 = .ok (.iadd, 1) := by decide +kernel
theorem dX8_mend_52 : decode cX8_mend 52 = .ok (.iconst 1, 1) := by decide +kernel
theorem dX8_mend_53 : decode cX8_mend 53 = .ok (.bastore, 1) := by decide +kernel
theorem dX8_mend_54 : decode cX8_mend 54 = .ok (.iconst 1, 1) := by decide +kernel
theorem dX8_mend_55 : decode cX8_mend 55 = .ok (.ireturn, 1) := by decide +kernel
theorem dX8_tear_0 : decode cX8_tear 0 = .ok (.iload_n 1, 1) := by decide +kernel
theorem dX8_tear_1 : decode cX8_tear 1 = .ok (.iconst (-1), 1) := by decide +kernel
theorem dX8_tear_2 : decode cX8_tear 2 = .ok (.if_icmp .lt 18, 3) := by decide +kernel
theorem dX8_tear_5 : decode cX8_tear 5 = .ok (.iload_n 1, 1) := by decide +kernel
theorem dX8_tear_6 : decode cX8_tear 6 = .ok (.bipush 12, 2) := by decide +kernel
theorem dX8_tear_8 : decode cX8_tear 8 = .ok (.if_icmp .gt 12, 3) := by decide +kernel
theorem dX8_tear_11 : decode cX8_tear 11 = .ok (.aload_n 0, 1) := by decide +kernel
theorem dX8_tear_12 : decode cX8_tear 12 = .ok (.getfield 136, 3) := by decide +kernel
theorem dX8_tear_15 : decode cX8_tear 15 = .ok (.bipush 40, 2) := by decide +kernel
theorem dX8_tear_17 : decode cX8_tear 17 = .ok (.if_icmp .ne 5, 3) := by decide +kernel
theorem dX8_tear_20 : decode cX8_tear 20 = .ok (.iconst 0, 1) := by decide +kernel
theorem dX8_tear_21 : decode cX8_tear 21 = .ok (.ireturn, 1) := by decide +kernel
theorem dX8_tear_22 : decode cX8_tear 22 = .ok (.aload_n 0, 1) := by decide +kernel
theorem dX8_tear_23 : decode cX8_tear 23 = .ok (.getfield 64, 3) := by decide +kernel
theorem dX8_tear_26 : decode cX8_tear 26 = .ok (.aload_n 0, 1) := by decide +kernel
theorem dX8_tear_27 : decode cX8_tear 27 = .ok (.getfield 136, 3) := by decide +kernel
theorem dX8_tear_30 : decode cX8_tear 30 = .ok (.iload_n 1, 1) := by decide +kernel
theorem dX8_tear_31 : decode cX8_tear 31 = .ok (.ifCond .ge 7, 3) := by decide +kernel
theorem dX8_tear_34 : decode cX8_tear 34 = .ok (.iconst 0, 1) := by decide +kernel
theorem dX8_tear_35 : decode cX8_tear 35 = .ok (.goto 4, 3) := by decide +kernel
theorem dX8_tear_38 : decode cX8_tear 38 = .ok (.iload_n 1, 1) := by decide +kernel
theorem dX8_tear_39 : decode cX8_tear 39 = .ok (.iastore, 1) := by decide +kernel
theorem dX8_tear_40 : decode cX8_tear 40 = .ok (.iconst 1, 1) := by decide +kernel
theorem dX8_tear_41 : decode cX8_tear 41 = .ok (.ireturn, 1) := by decide +kernel
theorem dX8_isOpen_0 : decode cX8_isOpen 0 = .ok (.iload_n 2, 1) := by decide +kernel
theorem dX8_isOpen_1 : decode cX8_isOpen 1 = .ok (.aload_n 0, 1) := by decide +kernel
theorem dX8_isOpen_2 : decode cX8_isOpen 2 = .ok (.getfield 64, 3) := by decide +kernel
theorem dX8_isOpen_5 : decode cX8_isOpen 5 = .ok (.iload_n 1, 1) := by decide +kernel
theorem dX8_isOpen_6 : decode cX8_isOpen 6 = .ok (.iaload, 1) := by decide +kernel
theorem dX8_isOpen_7 : decode cX8_isOpen 7 = .ok (.if_icmp .lt 21, 3) := by decide +kernel
theorem dX8_isOpen_10 : decode cX8_isOpen 10 = .ok (.aload_n 0, 1) := by decide +kernel
theorem dX8_isOpen_11 : decode cX8_isOpen 11 = .ok (.getfield 67, 3) := by decide +kernel
theorem dX8_isOpen_14 : decode cX8_isOpen 14 = .ok (.bipush 12, 2) := by decide +kernel
theorem dX8_isOpen_16 : decode cX8_isOpen 16 = .ok (.iload_n 1, 1) := by decide +kernel
theorem dX8_isOpen_17 : decode cX8_isOpen 17 = .ok (.imul, 1) := by decide +kernel
theorem dX8_isOpen_18 : decode cX8_isOpen 18 = .ok (.iload_n 2, 1) := by decide +kernel
theorem dX8_isOpen_19 : decode cX8_isOpen 19 = .ok (.iadd, 1) := by decide +kernel
theorem dX8_isOpen_20 : decode cX8_isOpen 20 = .ok (.baload, 1) := by decide +kernel
theorem dX8_isOpen_21 : decode cX8_isOpen 21 = .ok (.ifCond .ne 7, 3) := by decide +kernel
theorem dX8_isOpen_24 : decode cX8_isOpen 24 = .ok (.iconst 1, 1) := by decide +kernel
theorem dX8_isOpen_25 : decode cX8_isOpen 25 = .ok (.goto 4, 3) := by decide +kernel
theorem dX8_isOpen_28 : decode cX8_isOpen 28 = .ok (.iconst 0, 1) := by decide +kernel
theorem dX8_isOpen_29 : decode cX8_isOpen 29 = .ok (.ireturn, 1) := by decide +kernel
set_option maxRecDepth 20000 in
theorem ggX8_told_X8_isWork : GoodIn wsX8_told wsX8_isWork := goodIn_r _ [11] rfl (by decide +kernel)
set_option maxRecDepth 20000 in
theorem gX8_told_X8_isWork : GoodIn wsX8_told (va_wsS RX8 140 yX8_isWork wsX8_isWork) := goodIn_app (goodIn_of _ (by decide +kernel)) ggX8_told_X8_isWork
set_option maxRecDepth 20000 in
theorem ggX8_told_X8_isOpen : GoodIn wsX8_told wsX8_isOpen := goodIn_r _ [15, 16, 17, 18, 19, 20, 21, 22, 23, 24, 25, 26, 27, 28, 29, 30, 31, 32, 33, 34, 35, 36, 37, 38, 39, 40, 41, 42, 43, 44, 45, 46, 47, 48, 49, 50, 51, 52, 53, 54, 55, 56, 57, 58, 59, 60, 61, 62, 63, 64] rfl (by decide +kernel)
set_option maxRecDepth 20000 in
theorem gX8_told_X8_isOpen : GoodIn wsX8_told (wsV RX8 175 RX8 yX8_isOpen wsX8_isOpen) := goodIn_app (goodIn_of _ (by decide +kernel)) ggX8_told_X8_isOpen
theorem dX8_told_0 : decode cX8_told 0 = .ok (.iload_n 1, 1) := by decide +kernel
theorem dX8_told_1 : decode cX8_told 1 = .ok (.ifCond .lt 24, 3) := by decide +kernel
theorem dX8_told_4 : decode cX8_told 4 = .ok (.iload_n 1, 1) := by decide +kernel
theorem dX8_told_5 : decode cX8_told 5 = .ok (.aload_n 0, 1) := by decide +kernel
theorem dX8_told_6 : decode cX8_told 6 = .ok (.getfield 136, 3) := by decide +kernel
theorem dX8_told_9 : decode cX8_told 9 = .ok (.if_icmp .gt 16, 3) := by decide +kernel
theorem dX8_told_12 : decode cX8_told 12 = .ok (.iload_n 1, 1) := by decide +kernel
theorem dX8_told_13 : decode cX8_told 13 = .ok (.bipush 40, 2) := by decide +kernel
theorem dX8_told_15 : decode cX8_told 15 = .ok (.if_icmp .ge 10, 3) := by decide +kernel
theorem dX8_told_18 : decode cX8_told 18 = .ok (.iload_n 2, 1) := by decide +kernel
theorem dX8_told_19 : decode cX8_told 19 = .ok (.invokestatic 140, 3) := by decide +kernel
theorem dX8_told_22 : decode cX8_told 22 = .ok (.ifCond .ne 5, 3) := by decide +kernel
theorem dX8_told_25 : decode cX8_told 25 = .ok (.iconst (-1), 1) := by decide +kernel
theorem dX8_told_26 : decode cX8_told 26 = .ok (.ireturn, 1) := by decide +kernel
theorem dX8_told_27 : decode cX8_told 27 = .ok (.bipush 12, 2) := by decide +kernel
theorem dX8_told_29 : decode cX8_told 29 = .ok (.iload_n 1, 1) := by decide +kernel
theorem dX8_told_30 : decode cX8_told 30 = .ok (.imul, 1) := by decide +kernel
theorem dX8_told_31 : decode cX8_told 31 = .ok (.iload_n 2, 1) := by decide +kernel
theorem dX8_told_32 : decode cX8_told 32 = .ok (.iadd, 1) := by decide +kernel
theorem dX8_told_33 : decode cX8_told 33 = .ok (.istore 4, 2) := by decide +kernel
theorem dX8_told_35 : decode cX8_told 35 = .ok (.iload_n 3, 1) := by decide +kernel
theorem dX8_told_36 : decode cX8_told 36 = .ok (.tableswitch 124 0 4 #[36, 44, 52, 60, 83], 36) := by decide +kernel
theorem dX8_told_72 : decode cX8_told 72 = .ok (.aload_n 0, 1) := by decide +kernel
theorem dX8_told_73 : decode cX8_told 73 = .ok (.getfield 46, 3) := by decide +kernel
theorem dX8_told_76 : decode cX8_told 76 = .ok (.iload 4, 2) := by decide +kernel
theorem dX8_told_78 : decode cX8_told 78 = .ok (.iaload, 1) := by decide +kernel
theorem dX8_told_79 : decode cX8_told 79 = .ok (.ireturn, 1) := by decide +kernel
theorem dX8_told_80 : decode cX8_told 80 = .ok (.aload_n 0, 1) := by decide +kernel
theorem dX8_told_81 : decode cX8_told 81 = .ok (.getfield 49, 3) := by decide +kernel
theorem dX8_told_84 : decode cX8_told 84 = .ok (.iload 4, 2) := by decide +kernel
theorem dX8_told_86 : decode cX8_told 86 = .ok (.iaload, 1) := by decide +kernel
theorem dX8_told_87 : decode cX8_told 87 = .ok (.ireturn, 1) := by decide +kernel
theorem dX8_told_88 : decode cX8_told 88 = .ok (.aload_n 0, 1) := by decide +kernel
theorem dX8_told_89 : decode cX8_told 89 = .ok (.getfield 52, 3) := by decide +kernel
theorem dX8_told_92 : decode cX8_told 92 = .ok (.iload 4, 2) := by decide +kernel
theorem dX8_told_94 : decode cX8_told 94 = .ok (.iaload, 1) := by decide +kernel
theorem dX8_told_95 : decode cX8_told 95 = .ok (.ireturn, 1) := by decide +kernel
theorem dX8_told_96 : decode cX8_told 96 = .ok (.aload_n 0, 1) := by decide +kernel
theorem dX8_told_97 : decode cX8_told 97 = .ok (.getfield 55, 3) := by decide +kernel
theorem dX8_told_100 : decode cX8_told 100 = .ok (.iload 4, 2) := by decide +kernel
theorem dX8_told_102 : decode cX8_told 102 = .ok (.iaload, 1) := by decide +kernel
theorem dX8_told_103 : decode cX8_told 103 = .ok (.aload_n 0, 1) := by decide +kernel
theorem dX8_told_104 : decode cX8_told 104 = .ok (.iload_n 1, 1) := by decide +kernel
theorem dX8_told_105 : decode cX8_told 105 = .ok (.iload_n 2, 1) := by decide +kernel
theorem dX8_told_106 : decode cX8_told 106 = .ok (.invokevirtual 175, 3) := by decide +kernel
theorem dX8_told_109 : decode cX8_told 109 = .ok (.ifCond .eq 7, 3) := by decide +kernel
theorem dX8_told_112 : decode cX8_told 112 = .ok (.iconst 4, 1) := by decide +kernel
theorem dX8_told_113 : decode cX8_told 113 = .ok (.goto 4, 3) := by decide +kernel
theorem dX8_told_116 : decode cX8_told 116 = .ok (.iconst 0, 1) := by decide +kernel
theorem dX8_told_117 : decode cX8_told 117 = .ok (.iadd, 1) := by decide +kernel
theorem dX8_told_118 : decode cX8_told 118 = .ok (.ireturn, 1) := by decide +kernel
theorem dX8_told_119 : decode cX8_told 119 = .ok (.iconst 0, 1) := by decide +kernel
theorem dX8_told_120 : decode cX8_told 120 = .ok (.istore 5, 2) := by decide +kernel
theorem dX8_told_122 : decode cX8_told 122 = .ok (.iload 5, 2) := by decide +kernel
theorem dX8_told_124 : decode cX8_told 124 = .ok (.aload_n 0, 1) := by decide +kernel
theorem dX8_told_125 : decode cX8_told 125 = .ok (.getfield 61, 3) := by decide +kernel
theorem dX8_told_128 : decode cX8_told 128 = .ok (.iload_n 1, 1) := by decide +kernel
theorem dX8_told_129 : decode cX8_told 129 = .ok (.iaload, 1) := by decide +kernel
theorem dX8_told_130 : decode cX8_told 130 = .ok (.if_icmp .ge 28, 3) := by decide +kernel
theorem dX8_told_133 : decode cX8_told 133 = .ok (.aload_n 0, 1) := by decide +kernel
theorem dX8_told_134 : decode cX8_told 134 = .ok (.getfield 58, 3) := by decide +kernel
theorem dX8_told_137 : decode cX8_told 137 = .ok (.bipush 12, 2) := by decide +kernel
theorem dX8_told_139 : decode cX8_told 139 = .ok (.iload_n 1, 1) := by decide +kernel
theorem dX8_told_140 : decode cX8_told 140 = .ok (.imul, 1) := by decide +kernel
theorem dX8_told_141 : decode cX8_told 141 = .ok (.iload 5, 2) := by decide +kernel
theorem dX8_told_143 : decode cX8_told 143 = .ok (.iadd, 1) := by decide +kernel
theorem dX8_told_144 : decode cX8_told 144 = .ok (.iaload, 1) := by decide +kernel
theorem dX8_told_145 : decode cX8_told 145 = .ok (.iload_n 2, 1) := by decide +kernel
theorem dX8_told_146 : decode cX8_told 146 = .ok (.if_icmp .ne 6, 3) := by decide +kernel
theorem dX8_told_149 : decode cX8_told 149 = .ok (.iload 5, 2) := by decide +kernel
theorem dX8_told_151 : decode cX8_told 151 = .ok (.ireturn, 1) := by decide +kernel
theorem dX8_told_152 : decode cX8_told 152 = .ok (.iinc 5 1, 3) := by decide +kernel
theorem dX8_told_155 : decode cX8_told 155 = .ok (.goto (-33), 3) := by decide +kernel
theorem dX8_told_158 : decode cX8_told 158 = .ok (.iconst (-1), 1) := by decide +kernel
theorem dX8_told_159 : decode cX8_told 159 = .ok (.ireturn, 1) := by decide +kernel
theorem dX8_told_160 : decode cX8_told 160 = .ok (.iconst (-1), 1) := by decide +kernel
theorem dX8_told_161 : decode cX8_told 161 = .ok (.ireturn, 1) := by decide +kernel
theorem dX8_empties_0 : decode cX8_empties 0 = .ok (.bipush 12, 2) := by decide +kernel
theorem dX8_empties_2 : decode cX8_empties 2 = .ok (.istore_n 1, 1) := by decide +kernel
theorem dX8_empties_3 : decode cX8_empties 3 = .ok (.iload_n 1, 1) := by decide +kernel
theorem dX8_empties_4 : decode cX8_empties 4 = .ok (.bipush 24, 2) := by decide +kernel
theorem dX8_empties_6 : decode cX8_empties 6 = .ok (.if_icmp .ge 30, 3) := by decide +kernel
theorem dX8_empties_9 : decode cX8_empties 9 = .ok (.aload_n 0, 1) := by decide +kernel
theorem dX8_empties_10 : decode cX8_empties 10 = .ok (.getfield 71, 3) := by decide +kernel
theorem dX8_empties_13 : decode cX8_empties 13 = .ok (.iload_n 1, 1) := by decide +kernel
theorem dX8_empties_14 : decode cX8_empties 14 = .ok (.lconst 0, 1) := by decide +kernel
theorem dX8_empties_15 : decode cX8_empties 15 = .ok (.lastore, 1) := by decide +kernel
theorem dX8_empties_16 : decode cX8_empties 16 = .ok (.aload_n 0, 1) := by decide +kernel
theorem dX8_empties_17 : decode cX8_empties 17 = .ok (.getfield 75, 3) := by decide +kernel
theorem dX8_empties_20 : decode cX8_empties 20 = .ok (.iload_n 1, 1) := by decide +kernel
theorem dX8_empties_21 : decode cX8_empties 21 = .ok (.lconst 0, 1) := by decide +kernel
theorem dX8_empties_22 : decode cX8_empties 22 = .ok (.lastore, 1) := by decide +kernel
theorem dX8_empties_23 : decode cX8_empties 23 = .ok (.aload_n 0, 1) := by decide +kernel
theorem dX8_empties_24 : decode cX8_empties 24 = .ok (.getfield 90, 3) := by decide +kernel
theorem dX8_empties_27 : decode cX8_empties 27 = .ok (.iload_n 1, 1) := by decide +kernel
theorem dX8_empties_28 : decode cX8_empties 28 = .ok (.iconst 0, 1) := by decide +kernel
theorem dX8_empties_29 : decode cX8_empties 29 = .ok (.iastore, 1) := by decide +kernel
theorem dX8_empties_30 : decode cX8_empties 30 = .ok (.iinc 1 1, 3) := by decide +kernel
theorem dX8_empties_33 : decode cX8_empties 33 = .ok (.goto (-30), 3) := by decide +kernel
theorem dX8_empties_36 : decode cX8_empties 36 = .ok (.bipush 24, 2) := by decide +kernel
theorem dX8_empties_38 : decode cX8_empties 38 = .ok (.istore_n 1, 1) := by decide +kernel
theorem dX8_empties_39 : decode cX8_empties 39 = .ok (.iload_n 1, 1) := by decide +kernel
theorem dX8_empties_40 : decode cX8_empties 40 = .ok (.bipush 48, 2) := by decide +kernel
theorem dX8_empties_42 : decode cX8_empties 42 = .ok (.if_icmp .ge 23, 3) := by decide +kernel
theorem dX8_empties_45 : decode cX8_empties 45 = .ok (.aload_n 0, 1) := by decide +kernel
theorem dX8_empties_46 : decode cX8_empties 46 = .ok (.getfield 78, 3) := by decide +kernel
theorem dX8_empties_49 : decode cX8_empties 49 = .ok (.iload_n 1, 1) := by decide +kernel
theorem dX8_empties_50 : decode cX8_empties 50 = .ok (.lconst 0, 1) := by decide +kernel
theorem dX8_empties_51 : decode cX8_empties 51 = .ok (.lastore, 1) := by decide +kernel
theorem dX8_empties_52 : decode cX8_empties 52 = .ok (.aload_n 0, 1) := by decide +kernel
theorem dX8_empties_53 : decode cX8_empties 53 = .ok (.getfield 81, 3) := by decide +kernel
theorem dX8_empties_56 : decode cX8_empties 56 = .ok (.iload_n 1, 1) := by decide +kernel
theorem dX8_empties_57 : decode cX8_empties 57 = .ok (.lconst 0, 1) := by decide +kernel
theorem dX8_empties_58 : decode cX8_empties 58 = .ok (.lastore, 1) := by decide +kernel
theorem dX8_empties_59 : decode cX8_empties 59 = .ok (.iinc 1 1, 3) := by decide +kernel
theorem dX8_empties_62 : decode cX8_empties 62 = .ok (.goto (-23), 3) := by decide +kernel
theorem dX8_empties_65 : decode cX8_empties 65 = .ok (.sipush 960, 3) := by decide +kernel
theorem dX8_empties_68 : decode cX8_empties 68 = .ok (.istore_n 1, 1) := by decide +kernel
theorem dX8_empties_69 : decode cX8_empties 69 = .ok (.iload_n 1, 1) := by decide +kernel
theorem dX8_empties_70 : decode cX8_empties 70 = .ok (.sipush 1920, 3) := by decide +kernel
theorem dX8_empties_73 : decode cX8_empties 73 = .ok (.if_icmp .ge 16, 3) := by decide +kernel
theorem dX8_empties_76 : decode cX8_empties 76 = .ok (.aload_n 0, 1) := by decide +kernel
theorem dX8_empties_77 : decode cX8_empties 77 = .ok (.getfield 84, 3) := by decide +kernel
theorem dX8_empties_80 : decode cX8_empties 80 = .ok (.iload_n 1, 1) := by decide +kernel
theorem dX8_empties_81 : decode cX8_empties 81 = .ok (.lconst 0, 1) := by decide +kernel
theorem dX8_empties_82 : decode cX8_empties 82 = .ok (.lastore, 1) := by decide +kernel
theorem dX8_empties_83 : decode cX8_empties 83 = .ok (.iinc 1 1, 3) := by decide +kernel
theorem dX8_empties_86 : decode cX8_empties 86 = .ok (.goto (-17), 3) := by decide +kernel
theorem dX8_empties_89 : decode cX8_empties 89 = .ok (.sipush 480, 3) := by decide +kernel
theorem dX8_empties_92 : decode cX8_empties 92 = .ok (.istore_n 1, 1) := by decide +kernel
theorem dX8_empties_93 : decode cX8_empties 93 = .ok (.iload_n 1, 1) := by decide +kernel
theorem dX8_empties_94 : decode cX8_empties 94 = .ok (.sipush 960, 3) := by decide +kernel
theorem dX8_empties_97 : decode cX8_empties 97 = .ok (.if_icmp .ge 16, 3) := by decide +kernel
theorem dX8_empties_100 : decode cX8_empties 100 = .ok (.aload_n 0, 1) := by decide +kernel
theorem dX8_empties_101 : decode cX8_empties 101 = .ok (.getfield 87, 3) := by decide +kernel
theorem dX8_empties_104 : decode cX8_empties 104 = .ok (.iload_n 1, 1) := by decide +kernel
theorem dX8_empties_105 : decode cX8_empties 105 = .ok (.iconst 0, 1) := by decide +kernel
theorem dX8_empties_106 : decode cX8_empties 106 = .ok (.iastore, 1) := by decide +kernel
theorem dX8_empties_107 : decode cX8_empties 107 = .ok (.iinc 1 1, 3) := by decide +kernel
theorem dX8_empties_110 : decode cX8_empties 110 = .ok (.goto (-17), 3) := by decide +kernel
theorem dX8_empties_113 : decode cX8_empties 113 = .ok (.aload_n 0, 1) := by decide +kernel
theorem dX8_empties_114 : decode cX8_empties 114 = .ok (.getfield 93, 3) := by decide +kernel
theorem dX8_empties_117 : decode cX8_empties 117 = .ok (.iconst 1, 1) := by decide +kernel
theorem dX8_empties_118 : decode cX8_empties 118 = .ok (.lconst 0, 1) := by decide +kernel
theorem dX8_empties_119 : decode cX8_empties 119 = .ok (.lastore, 1) := by decide +kernel
theorem dX8_empties_120 : decode cX8_empties 120 = .ok (.return_, 1) := by decide +kernel
theorem dX8_bag_0 : decode cX8_bag 0 = .ok (.iload_n 0, 1) := by decide +kernel
theorem dX8_bag_1 : decode cX8_bag 1 = .ok (.bipush 24, 2) := by decide +kernel
theorem dX8_bag_3 : decode cX8_bag 3 = .ok (.imul, 1) := by decide +kernel
theorem dX8_bag_4 : decode cX8_bag 4 = .ok (.iload_n 1, 1) := by decide +kernel
theorem dX8_bag_5 : decode cX8_bag 5 = .ok (.iadd, 1) := by decide +kernel
theorem dX8_bag_6 : decode cX8_bag 6 = .ok (.bipush 40, 2) := by decide +kernel
theorem dX8_bag_8 : decode cX8_bag 8 = .ok (.imul, 1) := by decide +kernel
theorem dX8_bag_9 : decode cX8_bag 9 = .ok (.iload_n 2, 1) := by decide +kernel
theorem dX8_bag_10 : decode cX8_bag 10 = .ok (.iadd, 1) := by decide +kernel
theorem dX8_bag_11 : decode cX8_bag 11 = .ok (.ireturn, 1) := by decide +kernel
theorem dX8_dueAt_0 : decode cX8_dueAt 0 = .ok (.iload_n 0, 1) := by decide +kernel
theorem dX8_dueAt_1 : decode cX8_dueAt 1 = .ok (.bipush 12, 2) := by decide +kernel
theorem dX8_dueAt_3 : decode cX8_dueAt 3 = .ok (.imul, 1) := by decide +kernel
theorem dX8_dueAt_4 : decode cX8_dueAt 4 = .ok (.iload_n 1, 1) := by decide +kernel
theorem dX8_dueAt_5 : decode cX8_dueAt 5 = .ok (.iadd, 1) := by decide +kernel
theorem dX8_dueAt_6 : decode cX8_dueAt 6 = .ok (.bipush 40, 2) := by decide +kernel
theorem dX8_dueAt_8 : decode cX8_dueAt 8 = .ok (.imul, 1) := by decide +kernel
theorem dX8_dueAt_9 : decode cX8_dueAt 9 = .ok (.iload_n 2, 1) := by decide +kernel
theorem dX8_dueAt_10 : decode cX8_dueAt 10 = .ok (.iadd, 1) := by decide +kernel
theorem dX8_dueAt_11 : decode cX8_dueAt 11 = .ok (.ireturn, 1) := by decide +kernel
theorem dX8_begins_0 : decode cX8_begins 0 = .ok (.iconst (-1), 1) := by decide +kernel
theorem dX8_begins_1 : decode cX8_begins 1 = .ok (.istore 7, 2) := by decide +kernel
theorem dX8_begins_3 : decode cX8_begins 3 = .ok (.iload_n 1, 1) := by decide +kernel
theorem dX8_begins_4 : decode cX8_begins 4 = .ok (.ifCond .ne 71, 3) := by decide +kernel
theorem dX8_begins_7 : decode cX8_begins 7 = .ok (.aload_n 0, 1) := by decide +kernel
theorem dX8_begins_8 : decode cX8_begins 8 = .ok (.getfield 178, 3) := by decide +kernel
theorem dX8_begins_11 : decode cX8_begins 11 = .ok (.sipush 600, 3) := by decide +kernel
theorem dX8_begins_14 : decode cX8_begins 14 = .ok (.if_icmp .ge 51, 3) := by decide +kernel
theorem dX8_begins_17 : decode cX8_begins 17 = .ok (.aload_n 0, 1) := by decide +kernel
theorem dX8_begins_18 : decode cX8_begins 18 = .ok (.getfield 178, 3) := by decide +kernel
theorem dX8_begins_21 : decode cX8_begins 21 = .ok (.istore 7, 2) := by decide +kernel
theorem dX8_begins_23 : decode cX8_begins 23 = .ok (.aload_n 0, 1) := by decide +kernel
theorem dX8_begins_24 : decode cX8_begins 24 = .ok (.getfield 108, 3) := by decide +kernel
theorem dX8_begins_27 : decode cX8_begins 27 = .ok (.iload 7, 2) := by decide +kernel
theorem dX8_begins_29 : decode cX8_begins 29 = .ok (.iload_n 2, 1) := by decide +kernel
theorem dX8_begins_30 : decode cX8_begins 30 = .ok (.iastore, 1) := by decide +kernel
theorem dX8_begins_31 : decode cX8_begins 31 = .ok (.aload_n 0, 1) := by decide +kernel
theorem dX8_begins_32 : decode cX8_begins 32 = .ok (.getfield 111, 3) := by decide +kernel
theorem dX8_begins_35 : decode cX8_begins 35 = .ok (.iload 7, 2) := by decide +kernel
theorem dX8_begins_37 : decode cX8_begins 37 = .ok (.iload_n 3, 1) := by decide +kernel
theorem dX8_begins_38 : decode cX8_begins 38 = .ok (.iastore, 1) := by decide +kernel
theorem dX8_begins_39 : decode cX8_begins 39 = .ok (.aload_n 0, 1) := by decide +kernel
theorem dX8_begins_40 : decode cX8_begins 40 = .ok (.getfield 114, 3) := by decide +kernel
theorem dX8_begins_43 : decode cX8_begins 43 = .ok (.iload 7, 2) := by decide +kernel
theorem dX8_begins_45 : decode cX8_begins 45 = .ok (.iload 4, 2) := by decide +kernel
theorem dX8_begins_47 : decode cX8_begins 47 = .ok (.iastore, 1) := by decide +kernel
theorem dX8_begins_48 : decode cX8_begins 48 = .ok (.aload_n 0, 1) := by decide +kernel
theorem dX8_begins_49 : decode cX8_begins 49 = .ok (.getfield 117, 3) := by decide +kernel
theorem dX8_begins_52 : decode cX8_begins 52 = .ok (.iload 7, 2) := by decide +kernel
theorem dX8_begins_54 : decode cX8_begins 54 = .ok (.lload 5, 2) := by decide +kernel
theorem dX8_begins_56 : decode cX8_begins 56 = .ok (.lastore, 1) := by decide +kernel
theorem dX8_begins_57 : decode cX8_begins 57 = .ok (.aload_n 0, 1) := by decide +kernel
theorem dX8_begins_58 : decode cX8_begins 58 = .ok (.getfield 120, 3) := by decide +kernel
theorem dX8_begins_61 : decode cX8_begins 61 = .ok (.iload 7, 2) := by decide +kernel
theorem dX8_begins_63 : decode cX8_begins 63 = .ok (.lconst 0, 1) := by decide +kernel
theorem dX8_begins_64 : decode cX8_begins 64 = .ok (.lastore, 1) := by decide +kernel
theorem dX8_begins_65 : decode cX8_begins 65 = .ok (.aload_n 0, 1) := by decide +kernel
theorem dX8_begins_66 : decode cX8_begins 66 = .ok (.aload_n 0, 1) := by decide +kernel
theorem dX8_begins_67 : decode cX8_begins 67 = .ok (.getfield 178, 3) := by decide +kernel
theorem dX8_begins_70 : decode cX8_begins 70 = .ok (.iconst 1, 1) := by decide +kernel
theorem dX8_begins_71 : decode cX8_begins 71 = .ok (.iadd, 1) := by decide +kernel
theorem dX8_begins_72 : decode cX8_begins 72 = .ok (.putfield 178, 3) := by decide +kernel
theorem dX8_begins_75 : decode cX8_begins 75 = .ok (.aload_n 0, 1) := by decide +kernel
theorem dX8_begins_76 : decode cX8_begins 76 = .ok (.getfield 96, 3) := by decide +kernel
theorem dX8_begins_79 : decode cX8_begins 79 = .ok (.aload_n 0, 1) := by decide +kernel
theorem dX8_begins_80 : decode cX8_begins 80 = .ok (.getfield 181, 3) := by decide +kernel
theorem dX8_begins_83 : decode cX8_begins 83 = .ok (.iload_n 3, 1) := by decide +kernel
theorem dX8_begins_84 : decode cX8_begins 84 = .ok (.iastore, 1) := by decide +kernel
theorem dX8_begins_85 : decode cX8_begins 85 = .ok (.aload_n 0, 1) := by decide +kernel
theorem dX8_begins_86 : decode cX8_begins 86 = .ok (.getfield 99, 3) := by decide +kernel
theorem dX8_begins_89 : decode cX8_begins 89 = .ok (.aload_n 0, 1) := by decide +kernel
theorem dX8_begins_90 : decode cX8_begins 90 = .ok (.getfield 181, 3) := by decide +kernel
theorem dX8_begins_93 : decode cX8_begins 93 = .ok (.iload 4, 2) := by decide +kernel
theorem dX8_begins_95 : decode cX8_begins 95 = .ok (.iconst 1, 1) := by decide +kernel
theorem dX8_begins_96 : decode cX8_begins 96 = .ok (.iadd, 1) := by decide +kernel
theorem dX8_begins_97 : decode cX8_begins 97 = .ok (.iastore, 1) := by decide +kernel
theorem dX8_begins_98 : decode cX8_begins 98 = .ok (.aload_n 0, 1) := by decide +kernel
theorem dX8_begins_99 : decode cX8_begins 99 = .ok (.getfield 105, 3) := by decide +kernel
theorem dX8_begins_102 : decode cX8_begins 102 = .ok (.aload_n 0, 1) := by decide +kernel
theorem dX8_begins_103 : decode cX8_begins 103 = .ok (.getfield 181, 3) := by decide +kernel
theorem dX8_begins_106 : decode cX8_begins 106 = .ok (.lload 5, 2) := by decide +kernel
theorem dX8_begins_108 : decode cX8_begins 108 = .ok (.lastore, 1) := by decide +kernel
theorem dX8_begins_109 : decode cX8_begins 109 = .ok (.aload_n 0, 1) := by decide +kernel
theorem dX8_begins_110 : decode cX8_begins 110 = .ok (.getfield 102, 3) := by decide +kernel
theorem dX8_begins_113 : decode cX8_begins 113 = .ok (.aload_n 0, 1) := by decide +kernel
theorem dX8_begins_114 : decode cX8_begins 114 = .ok (.getfield 181, 3) := by decide +kernel
theorem dX8_begins_117 : decode cX8_begins 117 = .ok (.iload 7, 2) := by decide +kernel
theorem dX8_begins_119 : decode cX8_begins 119 = .ok (.iastore, 1) := by decide +kernel
theorem dX8_begins_120 : decode cX8_begins 120 = .ok (.aload_n 0, 1) := by decide +kernel
theorem dX8_begins_121 : decode cX8_begins 121 = .ok (.aload_n 0, 1) := by decide +kernel
theorem dX8_begins_122 : decode cX8_begins 122 = .ok (.getfield 181, 3) := by decide +kernel
theorem dX8_begins_125 : decode cX8_begins 125 = .ok (.iconst 1, 1) := by decide +kernel
theorem dX8_begins_126 : decode cX8_begins 126 = .ok (.iadd, 1) := by decide +kernel
theorem dX8_begins_127 : decode cX8_begins 127 = .ok (.putfield 181, 3) := by decide +kernel
theorem dX8_begins_130 : decode cX8_begins 130 = .ok (.return_, 1) := by decide +kernel
set_option maxRecDepth 20000 in
theorem ggX8_goes_X8_begins : GoodIn wsX8_goes wsX8_begins := goodIn_r _ [17, 18, 19, 20, 21, 22, 9, 6, 1, 3, 5, 8, 40, 41, 42, 43, 44, 45, 46, 47, 48, 49, 50, 51, 52, 53, 54, 55, 56, 57, 58, 59, 60, 61, 62, 63, 64, 65, 66, 67, 68, 69, 70, 71, 72, 73, 74, 75, 76, 77, 78, 79, 80, 81, 82, 83, 84, 85, 86] rfl (by decide +kernel)
set_option maxRecDepth 20000 in
theorem gX8_goes_X8_begins : GoodIn wsX8_goes (wsV RX8 184 RX8 yX8_begins wsX8_begins) := goodIn_app (goodIn_of _ (by decide +kernel)) ggX8_goes_X8_begins
set_option maxRecDepth 20000 in
theorem ggX8_goes_X8_meets : GoodIn wsX8_goes wsX8_meets := goodIn_r _ [26, 5, 27, 28, 29, 30, 31, 32, 33, 34, 35, 36, 37, 38, 16, 39, 13, 14, 15, 17, 18, 19, 20, 21, 22, 9, 6, 1, 3, 8, 40, 41, 42, 43, 44, 45, 46, 47, 48, 49, 50, 51, 52, 53, 54, 55, 56, 57, 58, 59, 60, 61, 62, 63, 64, 65, 66, 67, 68, 69, 70, 71, 72, 73, 74, 75, 76, 77, 78, 79, 80, 81, 82, 83, 84, 85, 86] rfl (by decide +kernel)
set_option maxRecDepth 20000 in
theorem gX8_goes_X8_meets : GoodIn wsX8_goes (wsV RX8 188 RX8 yX8_meets wsX8_meets) := goodIn_app (goodIn_of _ (by decide +kernel)) ggX8_goes_X8_meets
theorem dX8_goes_0 : decode cX8_goes 0 = .ok (.aload_n 0, 1) := by decide +kernel
theorem dX8_goes_1 : decode cX8_goes 1 = .ok (.iconst 0, 1) := by decide +kernel
theorem dX8_goes_2 : decode cX8_goes 2 = .ok (.putfield 181, 3) := by decide +kernel
theorem dX8_goes_5 : decode cX8_goes 5 = .ok (.lload 5, 2) := by decide +kernel
theorem dX8_goes_7 : decode cX8_goes 7 = .ok (.lconst 0, 1) := by decide +kernel
theorem dX8_goes_8 : decode cX8_goes 8 = .ok (.lcmp, 1) := by decide +kernel
theorem dX8_goes_9 : decode cX8_goes 9 = .ok (.ifCond .ne 4, 3) := by decide +kernel
theorem dX8_goes_12 : decode cX8_goes 12 = .ok (.return_, 1) := by decide +kernel
theorem dX8_goes_13 : decode cX8_goes 13 = .ok (.aload_n 0, 1) := by decide +kernel
theorem dX8_goes_14 : decode cX8_goes 14 = .ok (.getfield 93, 3) := by decide +kernel
theorem dX8_goes_17 : decode cX8_goes 17 = .ok (.iload_n 1, 1) := by decide +kernel
theorem dX8_goes_18 : decode cX8_goes 18 = .ok (.aload_n 0, 1) := by decide +kernel
theorem dX8_goes_19 : decode cX8_goes 19 = .ok (.getfield 93, 3) := by decide +kernel
theorem dX8_goes_22 : decode cX8_goes 22 = .ok (.iload_n 1, 1) := by decide +kernel
theorem dX8_goes_23 : decode cX8_goes 23 = .ok (.laload, 1) := by decide +kernel
theorem dX8_goes_24 : decode cX8_goes 24 = .ok (.lload 5, 2) := by decide +kernel
theorem dX8_goes_26 : decode cX8_goes 26 = .ok (.ladd, 1) := by decide +kernel
theorem dX8_goes_27 : decode cX8_goes 27 = .ok (.lastore, 1) := by decide +kernel
theorem dX8_goes_28 : decode cX8_goes 28 = .ok (.aload_n 0, 1) := by decide +kernel
theorem dX8_goes_29 : decode cX8_goes 29 = .ok (.iload_n 1, 1) := by decide +kernel
theorem dX8_goes_30 : decode cX8_goes 30 = .ok (.iload_n 3, 1) := by decide +kernel
theorem dX8_goes_31 : decode cX8_goes 31 = .ok (.iload 4, 2) := by decide +kernel
theorem dX8_goes_33 : decode cX8_goes 33 = .ok (.iconst (-1), 1) := by decide +kernel
theorem dX8_goes_34 : decode cX8_goes 34 = .ok (.lload 5, 2) := by decide +kernel
theorem dX8_goes_36 : decode cX8_goes 36 = .ok (.invokevirtual 184, 3) := by decide +kernel
theorem dX8_goes_39 : decode cX8_goes 39 = .ok (.aload_n 0, 1) := by decide +kernel
theorem dX8_goes_40 : decode cX8_goes 40 = .ok (.getfield 181, 3) := by decide +kernel
theorem dX8_goes_43 : decode cX8_goes 43 = .ok (.ifCond .le 190, 3) := by decide +kernel
theorem dX8_goes_46 : decode cX8_goes 46 = .ok (.aload_n 0, 1) := by decide +kernel
theorem dX8_goes_47 : decode cX8_goes 47 = .ok (.getfield 181, 3) := by decide +kernel
theorem dX8_goes_50 : decode cX8_goes 50 = .ok (.iconst 1, 1) := by decide +kernel
theorem dX8_goes_51 : decode cX8_goes 51 = .ok (.isub, 1) := by decide +kernel
theorem dX8_goes_52 : decode cX8_goes 52 = .ok (.istore 7, 2) := by decide +kernel
theorem dX8_goes_54 : decode cX8_goes 54 = .ok (.aload_n 0, 1) := by decide +kernel
theorem dX8_goes_55 : decode cX8_goes 55 = .ok (.getfield 99, 3) := by decide +kernel
theorem dX8_goes_58 : decode cX8_goes 58 = .ok (.iload 7, 2) := by decide +kernel
theorem dX8_goes_60 : decode cX8_goes 60 = .ok (.iaload, 1) := by decide +kernel
theorem dX8_goes_61 : decode cX8_goes 61 = .ok (.istore 8, 2) := by decide +kernel
theorem dX8_goes_63 : decode cX8_goes 63 = .ok (.iload 8, 2) := by decide +kernel
theorem dX8_goes_65 : decode cX8_goes 65 = .ok (.aload_n 0, 1) := by decide +kernel
theorem dX8_goes_66 : decode cX8_goes 66 = .ok (.getfield 157, 3) := by decide +kernel
theorem dX8_goes_69 : decode cX8_goes 69 = .ok (.if_icmp .eq 15, 3) := by decide +kernel
theorem dX8_goes_72 : decode cX8_goes 72 = .ok (.aload_n 0, 1) := by decide +kernel
theorem dX8_goes_73 : decode cX8_goes 73 = .ok (.getfield 105, 3) := by decide +kernel
theorem dX8_goes_76 : decode cX8_goes 76 = .ok (.iload 7, 2) := by decide +kernel
theorem dX8_goes_78 : decode cX8_goes 78 = .ok (.laload, 1) := by decide +kernel
theorem dX8_goes_79 : decode cX8_goes 79 = .ok (.lconst 0, 1) := by decide +kernel
theorem dX8_goes_80 : decode cX8_goes 80 = .ok (.lcmp, 1) := by decide +kernel
theorem dX8_goes_81 : decode cX8_goes 81 = .ok (.ifCond .ne 78, 3) := by decide +kernel
theorem dX8_goes_84 : decode cX8_goes 84 = .ok (.bipush 12, 2) := by decide +kernel
theorem dX8_goes_86 : decode cX8_goes 86 = .ok (.iload_n 1, 1) := by decide +kernel
theorem dX8_goes_87 : decode cX8_goes 87 = .ok (.imul, 1) := by decide +kernel
theorem dX8_goes_88 : decode cX8_goes 88 = .ok (.aload_n 0, 1) := by decide +kernel
theorem dX8_goes_89 : decode cX8_goes 89 = .ok (.getfield 96, 3) := by decide +kernel
theorem dX8_goes_92 : decode cX8_goes 92 = .ok (.iload 7, 2) := by decide +kernel
theorem dX8_goes_94 : decode cX8_goes 94 = .ok (.iaload, 1) := by decide +kernel
theorem dX8_goes_95 : decode cX8_goes 95 = .ok (.iadd, 1) := by decide +kernel
theorem dX8_goes_96 : decode cX8_goes 96 = .ok (.istore 9, 2) := by decide +kernel
theorem dX8_goes_98 : decode cX8_goes 98 = .ok (.aload_n 0, 1) := by decide +kernel
theorem dX8_goes_99 : decode cX8_goes 99 = .ok (.getfield 71, 3) := by decide +kernel
theorem dX8_goes_102 : decode cX8_goes 102 = .ok (.iload 9, 2) := by decide +kernel
theorem dX8_goes_104 : decode cX8_goes 104 = .ok (.aload_n 0, 1) := by decide +kernel
theorem dX8_goes_105 : decode cX8_goes 105 = .ok (.getfield 71, 3) := by decide +kernel
theorem dX8_goes_108 : decode cX8_goes 108 = .ok (.iload 9, 2) := by decide +kernel
theorem dX8_goes_110 : decode cX8_goes 110 = .ok (.laload, 1) := by decide +kernel
theorem dX8_goes_111 : decode cX8_goes 111 = .ok (.aload_n 0, 1) := by decide +kernel
theorem dX8_goes_112 : decode cX8_goes 112 = .ok (.getfield 105, 3) := by decide +kernel
theorem dX8_goes_115 : decode cX8_goes 115 = .ok (.iload 7, 2) := by decide +kernel
theorem dX8_goes_117 : decode cX8_goes 117 = .ok (.laload, 1) := by decide +kernel
theorem dX8_goes_118 : decode cX8_goes 118 = .ok (.ladd, 1) := by decide +kernel
theorem dX8_goes_119 : decode cX8_goes 119 = .ok (.lastore, 1) := by decide +kernel
theorem dX8_goes_120 : decode cX8_goes 120 = .ok (.aload_n 0, 1) := by decide +kernel
theorem dX8_goes_121 : decode cX8_goes 121 = .ok (.getfield 102, 3) := by decide +kernel
theorem dX8_goes_124 : decode cX8_goes 124 = .ok (.iload 7, 2) := by decide +kernel
theorem dX8_goes_126 : decode cX8_goes 126 = .ok (.iaload, 1) := by decide +kernel
theorem dX8_goes_127 : decode cX8_goes 127 = .ok (.iconst (-1), 1) := by decide +kernel
theorem dX8_goes_128 : decode cX8_goes 128 = .ok (.if_icmp .eq 22, 3) := by decide +kernel
theorem dX8_goes_131 : decode cX8_goes 131 = .ok (.aload_n 0, 1) := by decide +kernel
theorem dX8_goes_132 : decode cX8_goes 132 = .ok (.getfield 120, 3) := by decide +kernel
theorem dX8_goes_135 : decode cX8_goes 135 = .ok (.aload_n 0, 1) := by decide +kernel
theorem dX8_goes_136 : decode cX8_goes 136 = .ok (.getfield 102, 3) := by decide +kernel
theorem dX8_goes_139 : decode cX8_goes 139 = .ok (.iload 7, 2) := by decide +kernel
theorem dX8_goes_141 : decode cX8_goes 141 = .ok (.iaload, 1) := by decide +kernel
theorem dX8_goes_142 : decode cX8_goes 142 = .ok (.aload_n 0, 1) := by decide +kernel
theorem dX8_goes_143 : decode cX8_goes 143 = .ok (.getfield 105, 3) := by decide +kernel
theorem dX8_goes_146 : decode cX8_goes 146 = .ok (.iload 7, 2) := by decide +kernel
theorem dX8_goes_148 : decode cX8_goes 148 = .ok (.laload, 1) := by decide +kernel
theorem dX8_goes_149 : decode cX8_goes 149 = .ok (.lastore, 1) := by decide +kernel
theorem dX8_goes_150 : decode cX8_goes 150 = .ok (.aload_n 0, 1) := by decide +kernel
theorem dX8_goes_151 : decode cX8_goes 151 = .ok (.iload 7, 2) := by decide +kernel
theorem dX8_goes_153 : decode cX8_goes 153 = .ok (.putfield 181, 3) := by decide +kernel
theorem dX8_goes_156 : decode cX8_goes 156 = .ok (.goto 74, 3) := by decide +kernel
theorem dX8_goes_159 : decode cX8_goes 159 = .ok (.aload_n 0, 1) := by decide +kernel
theorem dX8_goes_160 : decode cX8_goes 160 = .ok (.getfield 99, 3) := by decide +kernel
theorem dX8_goes_163 : decode cX8_goes 163 = .ok (.iload 7, 2) := by decide +kernel
theorem dX8_goes_165 : decode cX8_goes 165 = .ok (.iload 8, 2) := by decide +kernel
theorem dX8_goes_167 : decode cX8_goes 167 = .ok (.iconst 1, 1) := by decide +kernel
theorem dX8_goes_168 : decode cX8_goes 168 = .ok (.iadd, 1) := by decide +kernel
theorem dX8_goes_169 : decode cX8_goes 169 = .ok (.iastore, 1) := by decide +kernel
theorem dX8_goes_170 : decode cX8_goes 170 = .ok (.aload_n 0, 1) := by decide +kernel
theorem dX8_goes_171 : decode cX8_goes 171 = .ok (.getfield 25, 3) := by decide +kernel
theorem dX8_goes_174 : decode cX8_goes 174 = .ok (.iload 8, 2) := by decide +kernel
theorem dX8_goes_176 : decode cX8_goes 176 = .ok (.iaload, 1) := by decide +kernel
theorem dX8_goes_177 : decode cX8_goes 177 = .ok (.aload_n 0, 1) := by decide +kernel
theorem dX8_goes_178 : decode cX8_goes 178 = .ok (.getfield 96, 3) := by decide +kernel
theorem dX8_goes_181 : decode cX8_goes 181 = .ok (.iload 7, 2) := by decide +kernel
theorem dX8_goes_183 : decode cX8_goes 183 = .ok (.iaload, 1) := by decide +kernel
theorem dX8_goes_184 : decode cX8_goes 184 = .ok (.if_icmp .ne 46, 3) := by decide +kernel
theorem dX8_goes_187 : decode cX8_goes 187 = .ok (.aload_n 0, 1) := by decide +kernel
theorem dX8_goes_188 : decode cX8_goes 188 = .ok (.getfield 28, 3) := by decide +kernel
theorem dX8_goes_191 : decode cX8_goes 191 = .ok (.iload 8, 2) := by decide +kernel
theorem dX8_goes_193 : decode cX8_goes 193 = .ok (.iaload, 1) := by decide +kernel
theorem dX8_goes_194 : decode cX8_goes 194 = .ok (.iload_n 3, 1) := by decide +kernel
theorem dX8_goes_195 : decode cX8_goes 195 = .ok (.ishr, 1) := by decide +kernel
theorem dX8_goes_196 : decode cX8_goes 196 = .ok (.iconst 1, 1) := by decide +kernel
theorem dX8_goes_197 : decode cX8_goes 197 = .ok (.iand, 1) := by decide +kernel
theorem dX8_goes_198 : decode cX8_goes 198 = .ok (.iconst 1, 1) := by decide +kernel
theorem dX8_goes_199 : decode cX8_goes 199 = .ok (.if_icmp .ne 31, 3) := by decide +kernel
theorem dX8_goes_202 : decode cX8_goes 202 = .ok (.aload_n 0, 1) := by decide +kernel
theorem dX8_goes_203 : decode cX8_goes 203 = .ok (.getfield 31, 3) := by decide +kernel
theorem dX8_goes_206 : decode cX8_goes 206 = .ok (.iload 8, 2) := by decide +kernel
theorem dX8_goes_208 : decode cX8_goes 208 = .ok (.iaload, 1) := by decide +kernel
theorem dX8_goes_209 : decode cX8_goes 209 = .ok (.bipush 90, 2) := by decide +kernel
theorem dX8_goes_211 : decode cX8_goes 211 = .ok (.iload_n 2, 1) := by decide +kernel
theorem dX8_goes_212 : decode cX8_goes 212 = .ok (.imul, 1) := by decide +kernel
theorem dX8_goes_213 : decode cX8_goes 213 = .ok (.bipush 89, 2) := by decide +kernel
theorem dX8_goes_215 : decode cX8_goes 215 = .ok (.iadd, 1) := by decide +kernel
theorem dX8_goes_216 : decode cX8_goes 216 = .ok (.if_icmp .gt 14, 3) := by decide +kernel
theorem dX8_goes_219 : decode cX8_goes 219 = .ok (.aload_n 0, 1) := by decide +kernel
theorem dX8_goes_220 : decode cX8_goes 220 = .ok (.iload_n 1, 1) := by decide +kernel
theorem dX8_goes_221 : decode cX8_goes 221 = .ok (.iload_n 2, 1) := by decide +kernel
theorem dX8_goes_222 : decode cX8_goes 222 = .ok (.iload_n 3, 1) := by decide +kernel
theorem dX8_goes_223 : decode cX8_goes 223 = .ok (.iload 8, 2) := by decide +kernel
theorem dX8_goes_225 : decode cX8_goes 225 = .ok (.iload 7, 2) := by decide +kernel
theorem dX8_goes_227 : decode cX8_goes 227 = .ok (.invokevirtual 188, 3) := by decide +kernel
theorem dX8_goes_230 : decode cX8_goes 230 = .ok (.goto (-191), 3) := by decide +kernel
theorem dX8_goes_233 : decode cX8_goes 233 = .ok (.return_, 1) := by decide +kernel
set_option maxRecDepth 20000 in
theorem ggX8_meets_X8_bag : GoodIn wsX8_meets wsX8_bag := goodIn_r _ [15] rfl (by decide +kernel)
set_option maxRecDepth 20000 in
theorem gX8_meets_X8_bag : GoodIn wsX8_meets (va_wsS RX8 196 yX8_bag wsX8_bag) := goodIn_app (goodIn_of _ (by decide +kernel)) ggX8_meets_X8_bag
set_option maxRecDepth 20000 in
theorem ggX8_meets_X8_begins : GoodIn wsX8_meets wsX8_begins := goodIn_r _ [19, 20, 21, 22, 23, 24, 25, 26, 27, 28, 1, 29, 30, 31, 32, 33, 34, 35, 36, 37, 38, 39, 40, 41, 42, 43, 44, 45, 46, 47, 48, 49, 50, 51, 52, 53, 54, 55, 56, 57, 58, 59, 60, 61, 62, 63, 64, 65, 66, 67, 68, 69, 70, 71, 72, 73, 74, 75, 76] rfl (by decide +kernel)
set_option maxRecDepth 20000 in
theorem gX8_meets_X8_begins : GoodIn wsX8_meets (wsV RX8 184 RX8 yX8_begins wsX8_begins) := goodIn_app (goodIn_of _ (by decide +kernel)) ggX8_meets_X8_begins
theorem dX8_meets_0 : decode cX8_meets 0 = .ok (.bipush 24, 2) := by decide +kernel
theorem dX8_meets_2 : decode cX8_meets 2 = .ok (.iload_n 1, 1) := by decide +kernel
theorem dX8_meets_3 : decode cX8_meets 3 = .ok (.imul, 1) := by decide +kernel
theorem dX8_meets_4 : decode cX8_meets 4 = .ok (.iload 4, 2) := by decide +kernel
theorem dX8_meets_6 : decode cX8_meets 6 = .ok (.iadd, 1) := by decide +kernel
theorem dX8_meets_7 : decode cX8_meets 7 = .ok (.istore 6, 2) := by decide +kernel
theorem dX8_meets_9 : decode cX8_meets 9 = .ok (.aload_n 0, 1) := by decide +kernel
theorem dX8_meets_10 : decode cX8_meets 10 = .ok (.getfield 105, 3) := by decide +kernel
theorem dX8_meets_13 : decode cX8_meets 13 = .ok (.iload 5, 2) := by decide +kernel
theorem dX8_meets_15 : decode cX8_meets 15 = .ok (.laload, 1) := by decide +kernel
theorem dX8_meets_16 : decode cX8_meets 16 = .ok (.lstore 7, 2) := by decide +kernel
theorem dX8_meets_18 : decode cX8_meets 18 = .ok (.lconst 0, 1) := by decide +kernel
theorem dX8_meets_19 : decode cX8_meets 19 = .ok (.lstore 9, 2) := by decide +kernel
theorem dX8_meets_21 : decode cX8_meets 21 = .ok (.aload_n 0, 1) := by decide +kernel
theorem dX8_meets_22 : decode cX8_meets 22 = .ok (.getfield 22, 3) := by decide +kernel
theorem dX8_meets_25 : decode cX8_meets 25 = .ok (.iload 4, 2) := by decide +kernel
theorem dX8_meets_27 : decode cX8_meets 27 = .ok (.iaload, 1) := by decide +kernel
theorem dX8_meets_28 : decode cX8_meets 28 = .ok (.tableswitch 242 0 4 #[36, 153, 242, 63, 195], 36) := by decide +kernel
theorem dX8_meets_64 : decode cX8_meets 64 = .ok (.iload 5, 2) := by decide +kernel
theorem dX8_meets_66 : decode cX8_meets 66 = .ok (.iconst 2, 1) := by decide +kernel
theorem dX8_meets_67 : decode cX8_meets 67 = .ok (.if_icmp .ne 4, 3) := by decide +kernel
theorem dX8_meets_70 : decode cX8_meets 70 = .ok (.return_, 1) := by decide +kernel
theorem dX8_meets_71 : decode cX8_meets 71 = .ok (.lload 7, 2) := by decide +kernel
theorem dX8_meets_73 : decode cX8_meets 73 = .ok (.aload_n 0, 1) := by decide +kernel
theorem dX8_meets_74 : decode cX8_meets 74 = .ok (.getfield 34, 3) := by decide +kernel
theorem dX8_meets_77 : decode cX8_meets 77 = .ok (.iload 4, 2) := by decide +kernel
theorem dX8_meets_79 : decode cX8_meets 79 = .ok (.iaload, 1) := by decide +kernel
theorem dX8_meets_80 : decode cX8_meets 80 = .ok (.i2l, 1) := by decide +kernel
theorem dX8_meets_81 : decode cX8_meets 81 = .ok (.lmul, 1) := by decide +kernel
theorem dX8_meets_82 : decode cX8_meets 82 = .ok (.ldc2_w 192, 3) := by decide +kernel
theorem dX8_meets_85 : decode cX8_meets 85 = .ok (.ldiv, 1) := by decide +kernel
theorem dX8_meets_86 : decode cX8_meets 86 = .ok (.lstore 9, 2) := by decide +kernel
theorem dX8_meets_88 : decode cX8_meets 88 = .ok (.goto 183, 3) := by decide +kernel
theorem dX8_meets_91 : decode cX8_meets 91 = .ok (.iload 5, 2) := by decide +kernel
theorem dX8_meets_93 : decode cX8_meets 93 = .ok (.iconst 2, 1) := by decide +kernel
theorem dX8_meets_94 : decode cX8_meets 94 = .ok (.if_icmp .ne 4, 3) := by decide +kernel
theorem dX8_meets_97 : decode cX8_meets 97 = .ok (.return_, 1) := by decide +kernel
theorem dX8_meets_98 : decode cX8_meets 98 = .ok (.aload_n 0, 1) := by decide +kernel
theorem dX8_meets_99 : decode cX8_meets 99 = .ok (.getfield 37, 3) := by decide +kernel
theorem dX8_meets_102 : decode cX8_meets 102 = .ok (.iload 4, 2) := by decide +kernel
theorem dX8_meets_104 : decode cX8_meets 104 = .ok (.iaload, 1) := by decide +kernel
theorem dX8_meets_105 : decode cX8_meets 105 = .ok (.i2l, 1) := by decide +kernel
theorem dX8_meets_106 : decode cX8_meets 106 = .ok (.ldc2_w 194, 3) := by decide +kernel
theorem dX8_meets_109 : decode cX8_meets 109 = .ok (.lmul, 1) := by decide +kernel
theorem dX8_meets_110 : decode cX8_meets 110 = .ok (.aload_n 0, 1) := by decide +kernel
theorem dX8_meets_111 : decode cX8_meets 111 = .ok (.getfield 81, 3) := by decide +kernel
theorem dX8_meets_114 : decode cX8_meets 114 = .ok (.iload 6, 2) := by decide +kernel
theorem dX8_meets_116 : decode cX8_meets 116 = .ok (.laload, 1) := by decide +kernel
theorem dX8_meets_117 : decode cX8_meets 117 = .ok (.lsub, 1) := by decide +kernel
theorem dX8_meets_118 : decode cX8_meets 118 = .ok (.lstore 11, 2) := by decide +kernel
theorem dX8_meets_120 : decode cX8_meets 120 = .ok (.lload 11, 2) := by decide +kernel
theorem dX8_meets_122 : decode cX8_meets 122 = .ok (.lconst 0, 1) := by decide +kernel
theorem dX8_meets_123 : decode cX8_meets 123 = .ok (.lcmp, 1) := by decide +kernel
theorem dX8_meets_124 : decode cX8_meets 124 = .ok (.ifCond .ge 6, 3) := by decide +kernel
theorem dX8_meets_127 : decode cX8_meets 127 = .ok (.lconst 0, 1) := by decide +kernel
theorem dX8_meets_128 : decode cX8_meets 128 = .ok (.lstore 11, 2) := by decide +kernel
theorem dX8_meets_130 : decode cX8_meets 130 = .ok (.lload 11, 2) := by decide +kernel
theorem dX8_meets_132 : decode cX8_meets 132 = .ok (.lload 7, 2) := by decide +kernel
theorem dX8_meets_134 : decode cX8_meets 134 = .ok (.lcmp, 1) := by decide +kernel
theorem dX8_meets_135 : decode cX8_meets 135 = .ok (.ifCond .le 7, 3) := by decide +kernel
theorem dX8_meets_138 : decode cX8_meets 138 = .ok (.lload 7, 2) := by decide +kernel
theorem dX8_meets_140 : decode cX8_meets 140 = .ok (.lstore 11, 2) := by decide +kernel
theorem dX8_meets_142 : decode cX8_meets 142 = .ok (.lload 11, 2) := by decide +kernel
theorem dX8_meets_144 : decode cX8_meets 144 = .ok (.aload_n 0, 1) := by decide +kernel
theorem dX8_meets_145 : decode cX8_meets 145 = .ok (.getfield 34, 3) := by decide +kernel
theorem dX8_meets_148 : decode cX8_meets 148 = .ok (.iload 4, 2) := by decide +kernel
theorem dX8_meets_150 : decode cX8_meets 150 = .ok (.iaload, 1) := by decide +kernel
theorem dX8_meets_151 : decode cX8_meets 151 = .ok (.i2l, 1) := by decide +kernel
theorem dX8_meets_152 : decode cX8_meets 152 = .ok (.lmul, 1) := by decide +kernel
theorem dX8_meets_153 : decode cX8_meets 153 = .ok (.ldc2_w 192, 3) := by decide +kernel
theorem dX8_meets_156 : decode cX8_meets 156 = .ok (.ldiv, 1) := by decide +kernel
theorem dX8_meets_157 : decode cX8_meets 157 = .ok (.lload 7, 2) := by decide +kernel
theorem dX8_meets_159 : decode cX8_meets 159 = .ok (.lload 11, 2) := by decide +kernel
theorem dX8_meets_161 : decode cX8_meets 161 = .ok (.lsub, 1) := by decide +kernel
theorem dX8_meets_162 : decode cX8_meets 162 = .ok (.aload_n 0, 1) := by decide +kernel
theorem dX8_meets_163 : decode cX8_meets 163 = .ok (.getfield 40, 3) := by decide +kernel
theorem dX8_meets_166 : decode cX8_meets 166 = .ok (.iload 4, 2) := by decide +kernel
theorem dX8_meets_168 : decode cX8_meets 168 = .ok (.iaload, 1) := by decide +kernel
theorem dX8_meets_169 : decode cX8_meets 169 = .ok (.i2l, 1) := by decide +kernel
theorem dX8_meets_170 : decode cX8_meets 170 = .ok (.lmul, 1) := by decide +kernel
theorem dX8_meets_171 : decode cX8_meets 171 = .ok (.ldc2_w 192, 3) := by decide +kernel
theorem dX8_meets_174 : decode cX8_meets 174 = .ok (.ldiv, 1) := by decide +kernel
theorem dX8_meets_175 : decode cX8_meets 175 = .ok (.ladd, 1) := by decide +kernel
theorem dX8_meets_176 : decode cX8_meets 176 = .ok (.lstore 9, 2) := by decide +kernel
theorem dX8_meets_178 : decode cX8_meets 178 = .ok (.goto 93, 3) := by decide +kernel
theorem dX8_meets_181 : decode cX8_meets 181 = .ok (.aload_n 0, 1) := by decide +kernel
theorem dX8_meets_182 : decode cX8_meets 182 = .ok (.getfield 34, 3) := by decide +kernel
theorem dX8_meets_185 : decode cX8_meets 185 = .ok (.iload 4, 2) := by decide +kernel
theorem dX8_meets_187 : decode cX8_meets 187 = .ok (.iaload, 1) := by decide +kernel
theorem dX8_meets_188 : decode cX8_meets 188 = .ok (.i2l, 1) := by decide +kernel
theorem dX8_meets_189 : decode cX8_meets 189 = .ok (.ldc2_w 194, 3) := by decide +kernel
theorem dX8_meets_192 : decode cX8_meets 192 = .ok (.lmul, 1) := by decide +kernel
theorem dX8_meets_193 : decode cX8_meets 193 = .ok (.aload_n 0, 1) := by decide +kernel
theorem dX8_meets_194 : decode cX8_meets 194 = .ok (.getfield 78, 3) := by decide +kernel
theorem dX8_meets_197 : decode cX8_meets 197 = .ok (.iload 6, 2) := by decide +kernel
theorem dX8_meets_199 : decode cX8_meets 199 = .ok (.laload, 1) := by decide +kernel
theorem dX8_meets_200 : decode cX8_meets 200 = .ok (.lsub, 1) := by decide +kernel
theorem dX8_meets_201 : decode cX8_meets 201 = .ok (.lstore 11, 2) := by decide +kernel
theorem dX8_meets_203 : decode cX8_meets 203 = .ok (.lload 7, 2) := by decide +kernel
theorem dX8_meets_205 : decode cX8_meets 205 = .ok (.lload 11, 2) := by decide +kernel
theorem dX8_meets_207 : decode cX8_meets 207 = .ok (.lcmp, 1) := by decide +kernel
theorem dX8_meets_208 : decode cX8_meets 208 = .ok (.ifCond .ge 8, 3) := by decide +kernel
theorem dX8_meets_211 : decode cX8_meets 211 = .ok (.lload 7, 2) := by decide +kernel
theorem dX8_meets_213 : decode cX8_meets 213 = .ok (.goto 5, 3) := by decide +kernel
theorem dX8_meets_216 : decode cX8_meets 216 = .ok (.lload 11, 2) := by decide +kernel
theorem dX8_meets_218 : decode cX8_meets 218 = .ok (.lstore 9, 2) := by decide +kernel
theorem dX8_meets_220 : decode cX8_meets 220 = .ok (.goto 51, 3) := by decide +kernel
theorem dX8_meets_223 : decode cX8_meets 223 = .ok (.lload 7, 2) := by decide +kernel
theorem dX8_meets_225 : decode cX8_meets 225 = .ok (.aload_n 0, 1) := by decide +kernel
theorem dX8_meets_226 : decode cX8_meets 226 = .ok (.getfield 34, 3) := by decide +kernel
theorem dX8_meets_229 : decode cX8_meets 229 = .ok (.iload 4, 2) := by decide +kernel
theorem dX8_meets_231 : decode cX8_meets 231 = .ok (.iaload, 1) := by decide +kernel
theorem dX8_meets_232 : decode cX8_meets 232 = .ok (.i2l, 1) := by decide +kernel
theorem dX8_meets_233 : decode cX8_meets 233 = .ok (.lmul, 1) := by decide +kernel
theorem dX8_meets_234 : decode cX8_meets 234 = .ok (.ldc2_w 192, 3) := by decide +kernel
theorem dX8_meets_237 : decode cX8_meets 237 = .ok (.ldiv, 1) := by decide +kernel
theorem dX8_meets_238 : decode cX8_meets 238 = .ok (.lstore 9, 2) := by decide +kernel
theorem dX8_meets_240 : decode cX8_meets 240 = .ok (.aload_n 0, 1) := by decide +kernel
theorem dX8_meets_241 : decode cX8_meets 241 = .ok (.getfield 84, 3) := by decide +kernel
theorem dX8_meets_244 : decode cX8_meets 244 = .ok (.iload_n 1, 1) := by decide +kernel
theorem dX8_meets_245 : decode cX8_meets 245 = .ok (.iload 4, 2) := by decide +kernel
theorem dX8_meets_247 : decode cX8_meets 247 = .ok (.iload_n 2, 1) := by decide +kernel
theorem dX8_meets_248 : decode cX8_meets 248 = .ok (.invokestatic 196, 3) := by decide +kernel
theorem dX8_meets_251 : decode cX8_meets 251 = .ok (.aload_n 0, 1) := by decide +kernel
theorem dX8_meets_252 : decode cX8_meets 252 = .ok (.getfield 84, 3) := by decide +kernel
theorem dX8_meets_255 : decode cX8_meets 255 = .ok (.iload_n 1, 1) := by decide +kernel
theorem dX8_meets_256 : decode cX8_meets 256 = .ok (.iload 4, 2) := by decide +kernel
theorem dX8_meets_258 : decode cX8_meets 258 = .ok (.iload_n 2, 1) := by decide +kernel
theorem dX8_meets_259 : decode cX8_meets 259 = .ok (.invokestatic 196, 3) := by decide +kernel
theorem dX8_meets_262 : decode cX8_meets 262 = .ok (.laload, 1) := by decide +kernel
theorem dX8_meets_263 : decode cX8_meets 263 = .ok (.lload 9, 2) := by decide +kernel
theorem dX8_meets_265 : decode cX8_meets 265 = .ok (.ladd, 1) := by decide +kernel
theorem dX8_meets_266 : decode cX8_meets 266 = .ok (.lastore, 1) := by decide +kernel
theorem dX8_meets_267 : decode cX8_meets 267 = .ok (.goto 4, 3) := by decide +kernel
theorem dX8_meets_270 : decode cX8_meets 270 = .ok (.return_, 1) := by decide +kernel
theorem dX8_meets_271 : decode cX8_meets 271 = .ok (.aload_n 0, 1) := by decide +kernel
theorem dX8_meets_272 : decode cX8_meets 272 = .ok (.getfield 81, 3) := by decide +kernel
theorem dX8_meets_275 : decode cX8_meets 275 = .ok (.iload 6, 2) := by decide +kernel
theorem dX8_meets_277 : decode cX8_meets 277 = .ok (.aload_n 0, 1) := by decide +kernel
theorem dX8_meets_278 : decode cX8_meets 278 = .ok (.getfield 81, 3) := by decide +kernel
theorem dX8_meets_281 : decode cX8_meets 281 = .ok (.iload 6, 2) := by decide +kernel
theorem dX8_meets_283 : decode cX8_meets 283 = .ok (.laload, 1) := by decide +kernel
theorem dX8_meets_284 : decode cX8_meets 284 = .ok (.lload 7, 2) := by decide +kernel
theorem dX8_meets_286 : decode cX8_meets 286 = .ok (.ladd, 1) := by decide +kernel
theorem dX8_meets_287 : decode cX8_meets 287 = .ok (.lastore, 1) := by decide +kernel
theorem dX8_meets_288 : decode cX8_meets 288 = .ok (.aload_n 0, 1) := by decide +kernel
theorem dX8_meets_289 : decode cX8_meets 289 = .ok (.getfield 78, 3) := by decide +kernel
theorem dX8_meets_292 : decode cX8_meets 292 = .ok (.iload 6, 2) := by decide +kernel
theorem dX8_meets_294 : decode cX8_meets 294 = .ok (.aload_n 0, 1) := by decide +kernel
theorem dX8_meets_295 : decode cX8_meets 295 = .ok (.getfield 78, 3) := by decide +kernel
theorem dX8_meets_298 : decode cX8_meets 298 = .ok (.iload 6, 2) := by decide +kernel
theorem dX8_meets_300 : decode cX8_meets 300 = .ok (.laload, 1) := by decide +kernel
theorem dX8_meets_301 : decode cX8_meets 301 = .ok (.lload 9, 2) := by decide +kernel
theorem dX8_meets_303 : decode cX8_meets 303 = .ok (.ladd, 1) := by decide +kernel
theorem dX8_meets_304 : decode cX8_meets 304 = .ok (.lastore, 1) := by decide +kernel
theorem dX8_meets_305 : decode cX8_meets 305 = .ok (.aload_n 0, 1) := by decide +kernel
theorem dX8_meets_306 : decode cX8_meets 306 = .ok (.getfield 105, 3) := by decide +kernel
theorem dX8_meets_309 : decode cX8_meets 309 = .ok (.iload 5, 2) := by decide +kernel
theorem dX8_meets_311 : decode cX8_meets 311 = .ok (.lload 7, 2) := by decide +kernel
theorem dX8_meets_313 : decode cX8_meets 313 = .ok (.lload 9, 2) := by decide +kernel
theorem dX8_meets_315 : decode cX8_meets 315 = .ok (.lsub, 1) := by decide +kernel
theorem dX8_meets_316 : decode cX8_meets 316 = .ok (.lastore, 1) := by decide +kernel
theorem dX8_meets_317 : decode cX8_meets 317 = .ok (.aload_n 0, 1) := by decide +kernel
theorem dX8_meets_318 : decode cX8_meets 318 = .ok (.getfield 22, 3) := by decide +kernel
theorem dX8_meets_321 : decode cX8_meets 321 = .ok (.iload 4, 2) := by decide +kernel
theorem dX8_meets_323 : decode cX8_meets 323 = .ok (.iaload, 1) := by decide +kernel
theorem dX8_meets_324 : decode cX8_meets 324 = .ok (.ifCond .eq 14, 3) := by decide +kernel
theorem dX8_meets_327 : decode cX8_meets 327 = .ok (.aload_n 0, 1) := by decide +kernel
theorem dX8_meets_328 : decode cX8_meets 328 = .ok (.getfield 22, 3) := by decide +kernel
theorem dX8_meets_331 : decode cX8_meets 331 = .ok (.iload 4, 2) := by decide +kernel
theorem dX8_meets_333 : decode cX8_meets 333 = .ok (.iaload, 1) := by decide +kernel
theorem dX8_meets_334 : decode cX8_meets 334 = .ok (.iconst 3, 1) := by decide +kernel
theorem dX8_meets_335 : decode cX8_meets 335 = .ok (.if_icmp .ne 27, 3) := by decide +kernel
theorem dX8_meets_338 : decode cX8_meets 338 = .ok (.lload 9, 2) := by decide +kernel
theorem dX8_meets_340 : decode cX8_meets 340 = .ok (.lconst 0, 1) := by decide +kernel
theorem dX8_meets_341 : decode cX8_meets 341 = .ok (.lcmp, 1) := by decide +kernel
theorem dX8_meets_342 : decode cX8_meets 342 = .ok (.ifCond .le 20, 3) := by decide +kernel
theorem dX8_meets_345 : decode cX8_meets 345 = .ok (.aload_n 0, 1) := by decide +kernel
theorem dX8_meets_346 : decode cX8_meets 346 = .ok (.iload_n 1, 1) := by decide +kernel
theorem dX8_meets_347 : decode cX8_meets 347 = .ok (.iload_n 3, 1) := by decide +kernel
theorem dX8_meets_348 : decode cX8_meets 348 = .ok (.aload_n 0, 1) := by decide +kernel
theorem dX8_meets_349 : decode cX8_meets 349 = .ok (.getfield 43, 3) := by decide +kernel
theorem dX8_meets_352 : decode cX8_meets 352 = .ok (.iload 4, 2) := by decide +kernel
theorem dX8_meets_354 : decode cX8_meets 354 = .ok (.iaload, 1) := by decide +kernel
theorem dX8_meets_355 : decode cX8_meets 355 = .ok (.iload 4, 2) := by decide +kernel
theorem dX8_meets_357 : decode cX8_meets 357 = .ok (.lload 9, 2) := by decide +kernel
theorem dX8_meets_359 : decode cX8_meets 359 = .ok (.invokevirtual 184, 3) := by decide +kernel
theorem dX8_meets_362 : decode cX8_meets 362 = .ok (.return_, 1) := by decide +kernel
set_option maxRecDepth 20000 in
theorem ggX8_comes_X8_setOn : GoodIn wsX8_comes wsX8_setOn := goodIn_r _ [8, 9, 10, 52, 53, 54, 55, 56, 57, 58, 59, 60, 61, 62, 63, 64, 65, 66, 67, 68, 69, 70, 71, 72, 73, 74, 75, 76, 77, 78, 79, 80, 81, 82, 83, 84, 85, 86, 87, 88, 89, 90, 91, 92, 93, 94, 95, 96, 97, 98] rfl (by decide +kernel)
set_option maxRecDepth 20000 in
theorem gX8_comes_X8_setOn : GoodIn wsX8_comes (wsV RX8 200 RX8 yX8_setOn wsX8_setOn) := goodIn_app (goodIn_of _ (by decide +kernel)) ggX8_comes_X8_setOn
set_option maxRecDepth 20000 in
theorem ggX8_comes_X8_goes : GoodIn wsX8_comes wsX8_goes := goodIn_r _ [14, 15, 16, 17, 18, 19, 20, 21, 22, 23, 24, 25, 26, 27, 28, 29, 7, 30, 31, 32, 33, 34, 35, 36, 37, 38, 39, 40, 41, 3, 42, 43, 44, 45, 46, 47, 48, 49, 50, 51, 52, 53, 54, 55, 56, 57, 58, 59, 60, 61, 62, 63, 64, 65, 66, 67, 68, 69, 70, 71, 72, 73, 74, 75, 76, 77, 78, 79, 80, 81, 82, 83, 84, 85, 86, 87, 88, 89, 90, 91, 92, 93, 94, 95, 96, 97, 98] rfl (by decide +kernel)
set_option maxRecDepth 20000 in
theorem gX8_comes_X8_goes : GoodIn wsX8_comes (wsV RX8 204 RX8 yX8_goes wsX8_goes) := goodIn_app (goodIn_of _ (by decide +kernel)) ggX8_comes_X8_goes
theorem dX8_comes_0 : decode cX8_comes 0 = .ok (.aload_n 0, 1) := by decide +kernel
theorem dX8_comes_1 : decode cX8_comes 1 = .ok (.iload_n 3, 1) := by decide +kernel
theorem dX8_comes_2 : decode cX8_comes 2 = .ok (.iload 5, 2) := by decide +kernel
theorem dX8_comes_4 : decode cX8_comes 4 = .ok (.invokevirtual 200, 3) := by decide +kernel
theorem dX8_comes_7 : decode cX8_comes 7 = .ok (.istore 6, 2) := by decide +kernel
theorem dX8_comes_9 : decode cX8_comes 9 = .ok (.iconst 0, 1) := by decide +kernel
theorem dX8_comes_10 : decode cX8_comes 10 = .ok (.istore 7, 2) := by decide +kernel
theorem dX8_comes_12 : decode cX8_comes 12 = .ok (.iload 7, 2) := by decide +kernel
theorem dX8_comes_14 : decode cX8_comes 14 = .ok (.iconst 3, 1) := by decide +kernel
theorem dX8_comes_15 : decode cX8_comes 15 = .ok (.if_icmp .ge 59, 3) := by decide +kernel
theorem dX8_comes_18 : decode cX8_comes 18 = .ok (.aload_n 0, 1) := by decide +kernel
theorem dX8_comes_19 : decode cX8_comes 19 = .ok (.getfield 16, 3) := by decide +kernel
theorem dX8_comes_22 : decode cX8_comes 22 = .ok (.iconst 3, 1) := by decide +kernel
theorem dX8_comes_23 : decode cX8_comes 23 = .ok (.iload 6, 2) := by decide +kernel
theorem dX8_comes_25 : decode cX8_comes 25 = .ok (.imul, 1) := by decide +kernel
theorem dX8_comes_26 : decode cX8_comes 26 = .ok (.iload 7, 2) := by decide +kernel
theorem dX8_comes_28 : decode cX8_comes 28 = .ok (.iadd, 1) := by decide +kernel
theorem dX8_comes_29 : decode cX8_comes 29 = .ok (.iaload, 1) := by decide +kernel
theorem dX8_comes_30 : decode cX8_comes 30 = .ok (.istore 8, 2) := by decide +kernel
theorem dX8_comes_32 : decode cX8_comes 32 = .ok (.iload 8, 2) := by decide +kernel
theorem dX8_comes_34 : decode cX8_comes 34 = .ok (.iconst (-1), 1) := by decide +kernel
theorem dX8_comes_35 : decode cX8_comes 35 = .ok (.if_icmp .eq 33, 3) := by decide +kernel
theorem dX8_comes_38 : decode cX8_comes 38 = .ok (.aload_n 0, 1) := by decide +kernel
theorem dX8_comes_39 : decode cX8_comes 39 = .ok (.iload_n 1, 1) := by decide +kernel
theorem dX8_comes_40 : decode cX8_comes 40 = .ok (.iload_n 2, 1) := by decide +kernel
theorem dX8_comes_41 : decode cX8_comes 41 = .ok (.iload_n 3, 1) := by decide +kernel
theorem dX8_comes_42 : decode cX8_comes 42 = .ok (.iload 8, 2) := by decide +kernel
theorem dX8_comes_44 : decode cX8_comes 44 = .ok (.iload 4, 2) := by decide +kernel
theorem dX8_comes_46 : decode cX8_comes 46 = .ok (.i2l, 1) := by decide +kernel
theorem dX8_comes_47 : decode cX8_comes 47 = .ok (.aload_n 0, 1) := by decide +kernel
theorem dX8_comes_48 : decode cX8_comes 48 = .ok (.getfield 19, 3) := by decide +kernel
theorem dX8_comes_51 : decode cX8_comes 51 = .ok (.iconst 3, 1) := by decide +kernel
theorem dX8_comes_52 : decode cX8_comes 52 = .ok (.iload 6, 2) := by decide +kernel
theorem dX8_comes_54 : decode cX8_comes 54 = .ok (.imul, 1) := by decide +kernel
theorem dX8_comes_55 : decode cX8_comes 55 = .ok (.iload 7, 2) := by decide +kernel
theorem dX8_comes_57 : decode cX8_comes 57 = .ok (.iadd, 1) := by decide +kernel
theorem dX8_comes_58 : decode cX8_comes 58 = .ok (.iaload, 1) := by decide +kernel
theorem dX8_comes_59 : decode cX8_comes 59 = .ok (.i2l, 1) := by decide +kernel
theorem dX8_comes_60 : decode cX8_comes 60 = .ok (.lmul, 1) := by decide +kernel
theorem dX8_comes_61 : decode cX8_comes 61 = .ok (.ldc2_w 192, 3) := by decide +kernel
theorem dX8_comes_64 : decode cX8_comes 64 = .ok (.lmul, 1) := by decide +kernel
theorem dX8_comes_65 : decode cX8_comes 65 = .ok (.invokevirtual 204, 3) := by decide +kernel
theorem dX8_comes_68 : decode cX8_comes 68 = .ok (.iinc 7 1, 3) := by decide +kernel
theorem dX8_comes_71 : decode cX8_comes 71 = .ok (.goto (-59), 3) := by decide +kernel
theorem dX8_comes_74 : decode cX8_comes 74 = .ok (.return_, 1) := by decide +kernel
set_option maxRecDepth 20000 in
theorem ggX8_closes_X8_isOpen : GoodIn wsX8_closes wsX8_isOpen := goodIn_r _ [18, 19, 20, 82, 83, 84, 85, 86, 87, 88, 89, 90, 91, 92, 93, 94, 95, 96, 97, 98, 99, 100, 101, 102, 103, 104, 105, 106, 107, 108, 109, 110, 111, 112, 113, 114, 115, 116, 117, 118, 119, 120, 121, 122, 123, 124, 125, 126, 127, 128] rfl (by decide +kernel)
set_option maxRecDepth 20000 in
theorem gX8_closes_X8_isOpen : GoodIn wsX8_closes (wsV RX8 175 RX8 yX8_isOpen wsX8_isOpen) := goodIn_app (goodIn_of _ (by decide +kernel)) ggX8_closes_X8_isOpen
set_option maxRecDepth 20000 in
theorem ggX8_closes_X8_comes : GoodIn wsX8_closes wsX8_comes := goodIn_r _ [24, 25, 26, 27, 28, 29, 30, 17, 31, 32, 33, 34, 35, 36, 37, 38, 39, 40, 7, 41, 42, 11, 43, 44, 10, 45, 13, 46, 47, 48, 49, 50, 51, 52, 53, 54, 55, 56, 57, 58, 8, 59, 9, 60, 61, 62, 63, 12, 64, 65, 66, 67, 82, 83, 84, 85, 86, 87, 88, 89, 90, 91, 92, 93, 94, 95, 96, 97, 98, 99, 100, 101, 102, 103, 104, 105, 106, 107, 108, 109, 110, 111, 112, 113, 114, 115, 116, 117, 118, 119, 120, 121, 122, 123, 124, 125, 126, 127, 128] rfl (by decide +kernel)
set_option maxRecDepth 20000 in
theorem gX8_closes_X8_comes : GoodIn wsX8_closes (wsV RX8 207 RX8 yX8_comes wsX8_comes) := goodIn_app (goodIn_of _ (by decide +kernel)) ggX8_closes_X8_comes
set_option maxRecDepth 20000 in
theorem ggX8_closes_X8_bag : GoodIn wsX8_closes wsX8_bag := goodIn_r _ [67] rfl (by decide +kernel)
set_option maxRecDepth 20000 in
theorem gX8_closes_X8_bag : GoodIn wsX8_closes (va_wsS RX8 196 yX8_bag wsX8_bag) := goodIn_app (goodIn_of _ (by decide +kernel)) ggX8_closes_X8_bag
set_option maxRecDepth 20000 in
theorem ggX8_closes_X8_pays : GoodIn wsX8_closes wsX8_pays := goodIn_r _ [71, 72, 11, 60, 73, 74, 75, 17, 76, 82, 83, 84, 85, 86, 87, 88, 89, 90, 91, 92, 93, 94, 95, 96, 97, 98, 99, 100, 101, 102, 103, 104, 105, 106, 107, 108, 109, 110, 111, 112, 113, 114, 115, 116, 117, 118, 119, 120, 121, 122, 123, 124, 125, 126, 127, 128] rfl (by decide +kernel)
set_option maxRecDepth 20000 in
theorem gX8_closes_X8_pays : GoodIn wsX8_closes (wsV RX8 210 RX8 yX8_pays wsX8_pays) := goodIn_app (goodIn_of _ (by decide +kernel)) ggX8_closes_X8_pays
set_option maxRecDepth 20000 in
theorem ggX8_closes_X8_fills : GoodIn wsX8_closes wsX8_fills := goodIn_r _ [80, 10, 73, 59, 81, 74, 75, 17, 76, 82, 83, 84, 85, 86, 87, 88, 89, 90, 91, 92, 93, 94, 95, 96, 97, 98, 99, 100, 101, 102, 103, 104, 105, 106, 107, 108, 109, 110, 111, 112, 113, 114, 115, 116, 117, 118, 119, 120, 121, 122, 123, 124, 125, 126, 127, 128] rfl (by decide +kernel)
set_option maxRecDepth 20000 in
theorem gX8_closes_X8_fills : GoodIn wsX8_closes (wsV RX8 214 RX8 yX8_fills wsX8_fills) := goodIn_app (goodIn_of _ (by decide +kernel)) ggX8_closes_X8_fills
theorem dX8_closes_0 : decode cX8_closes 0 = .ok (.iconst 0, 1) := by decide +kernel
theorem dX8_closes_1 : decode cX8_closes 1 = .ok (.istore_n 3, 1) := by decide +kernel
theorem dX8_closes_2 : decode cX8_closes 2 = .ok (.iload_n 3, 1) := by decide +kernel
theorem dX8_closes_3 : decode cX8_closes 3 = .ok (.aload_n 0, 1) := by decide +kernel
theorem dX8_closes_4 : decode cX8_closes 4 = .ok (.getfield 61, 3) := by decide +kernel
theorem dX8_closes_7 : decode cX8_closes 7 = .ok (.iload_n 2, 1) := by decide +kernel
theorem dX8_closes_8 : decode cX8_closes 8 = .ok (.iaload, 1) := by decide +kernel
theorem dX8_closes_9 : decode cX8_closes 9 = .ok (.if_icmp .ge 146, 3) := by decide +kernel
theorem dX8_closes_12 : decode cX8_closes 12 = .ok (.aload_n 0, 1) := by decide +kernel
theorem dX8_closes_13 : decode cX8_closes 13 = .ok (.getfield 58, 3) := by decide +kernel
theorem dX8_closes_16 : decode cX8_closes 16 = .ok (.bipush 12, 2) := by decide +kernel
theorem dX8_closes_18 : decode cX8_closes 18 = .ok (.iload_n 2, 1) := by decide +kernel
theorem dX8_closes_19 : decode cX8_closes 19 = .ok (.imul, 1) := by decide +kernel
theorem dX8_closes_20 : decode cX8_closes 20 = .ok (.iload_n 3, 1) := by decide +kernel
theorem dX8_closes_21 : decode cX8_closes 21 = .ok (.iadd, 1) := by decide +kernel
theorem dX8_closes_22 : decode cX8_closes 22 = .ok (.iaload, 1) := by decide +kernel
theorem dX8_closes_23 : decode cX8_closes 23 = .ok (.istore 4, 2) := by decide +kernel
theorem dX8_closes_25 : decode cX8_closes 25 = .ok (.bipush 12, 2) := by decide +kernel
theorem dX8_closes_27 : decode cX8_closes 27 = .ok (.iload_n 2, 1) := by decide +kernel
theorem dX8_closes_28 : decode cX8_closes 28 = .ok (.imul, 1) := by decide +kernel
theorem dX8_closes_29 : decode cX8_closes 29 = .ok (.iload 4, 2) := by decide +kernel
theorem dX8_closes_31 : decode cX8_closes 31 = .ok (.iadd, 1) := by decide +kernel
theorem dX8_closes_32 : decode cX8_closes 32 = .ok (.istore 5, 2) := by decide +kernel
theorem dX8_closes_34 : decode cX8_closes 34 = .ok (.aload_n 0, 1) := by decide +kernel
theorem dX8_closes_35 : decode cX8_closes 35 = .ok (.iload_n 2, 1) := by decide +kernel
theorem dX8_closes_36 : decode cX8_closes 36 = .ok (.iload 4, 2) := by decide +kernel
theorem dX8_closes_38 : decode cX8_closes 38 = .ok (.invokevirtual 175, 3) := by decide +kernel
theorem dX8_closes_41 : decode cX8_closes 41 = .ok (.ifCond .eq 6, 3) := by decide +kernel
theorem dX8_closes_44 : decode cX8_closes 44 = .ok (.goto 105, 3) := by decide +kernel
theorem dX8_closes_47 : decode cX8_closes 47 = .ok (.aload_n 0, 1) := by decide +kernel
theorem dX8_closes_48 : decode cX8_closes 48 = .ok (.getfield 55, 3) := by decide +kernel
theorem dX8_closes_51 : decode cX8_closes 51 = .ok (.iload 5, 2) := by decide +kernel
theorem dX8_closes_53 : decode cX8_closes 53 = .ok (.iaload, 1) := by decide +kernel
theorem dX8_closes_54 : decode cX8_closes 54 = .ok (.iconst 2, 1) := by decide +kernel
theorem dX8_closes_55 : decode cX8_closes 55 = .ok (.if_icmp .ne 72, 3) := by decide +kernel
theorem dX8_closes_58 : decode cX8_closes 58 = .ok (.aload_n 0, 1) := by decide +kernel
theorem dX8_closes_59 : decode cX8_closes 59 = .ok (.iload_n 1, 1) := by decide +kernel
theorem dX8_closes_60 : decode cX8_closes 60 = .ok (.iload_n 2, 1) := by decide +kernel
theorem dX8_closes_61 : decode cX8_closes 61 = .ok (.iload 4, 2) := by decide +kernel
theorem dX8_closes_63 : decode cX8_closes 63 = .ok (.aload_n 0, 1) := by decide +kernel
theorem dX8_closes_64 : decode cX8_closes 64 = .ok (.getfield 46, 3) := by decide +kernel
theorem dX8_closes_67 : decode cX8_closes 67 = .ok (.iload 5, 2) := by decide +kernel
theorem dX8_closes_69 : decode cX8_closes 69 = .ok (.iaload, 1) := by decide +kernel
theorem dX8_closes_70 : decode cX8_closes 70 = .ok (.bipush 90, 2) := by decide +kernel
theorem dX8_closes_72 : decode cX8_closes 72 = .ok (.iload_n 2, 1) := by decide +kernel
theorem dX8_closes_73 : decode cX8_closes 73 = .ok (.imul, 1) := by decide +kernel
theorem dX8_closes_74 : decode cX8_closes 74 = .ok (.bipush 29, 2) := by decide +kernel
theorem dX8_closes_76 : decode cX8_closes 76 = .ok (.iadd, 1) := by decide +kernel
theorem dX8_closes_77 : decode cX8_closes 77 = .ok (.invokevirtual 207, 3) := by decide +kernel
theorem dX8_closes_80 : decode cX8_closes 80 = .ok (.aload_n 0, 1) := by decide +kernel
theorem dX8_closes_81 : decode cX8_closes 81 = .ok (.iload_n 1, 1) := by decide +kernel
theorem dX8_closes_82 : decode cX8_closes 82 = .ok (.iload_n 2, 1) := by decide +kernel
theorem dX8_closes_83 : decode cX8_closes 83 = .ok (.iload 4, 2) := by decide +kernel
theorem dX8_closes_85 : decode cX8_closes 85 = .ok (.aload_n 0, 1) := by decide +kernel
theorem dX8_closes_86 : decode cX8_closes 86 = .ok (.getfield 49, 3) := by decide +kernel
theorem dX8_closes_89 : decode cX8_closes 89 = .ok (.iload 5, 2) := by decide +kernel
theorem dX8_closes_91 : decode cX8_closes 91 = .ok (.iaload, 1) := by decide +kernel
theorem dX8_closes_92 : decode cX8_closes 92 = .ok (.bipush 90, 2) := by decide +kernel
theorem dX8_closes_94 : decode cX8_closes 94 = .ok (.iload_n 2, 1) := by decide +kernel
theorem dX8_closes_95 : decode cX8_closes 95 = .ok (.imul, 1) := by decide +kernel
theorem dX8_closes_96 : decode cX8_closes 96 = .ok (.bipush 59, 2) := by decide +kernel
theorem dX8_closes_98 : decode cX8_closes 98 = .ok (.iadd, 1) := by decide +kernel
theorem dX8_closes_99 : decode cX8_closes 99 = .ok (.invokevirtual 207, 3) := by decide +kernel
theorem dX8_closes_102 : decode cX8_closes 102 = .ok (.aload_n 0, 1) := by decide +kernel
theorem dX8_closes_103 : decode cX8_closes 103 = .ok (.iload_n 1, 1) := by decide +kernel
theorem dX8_closes_104 : decode cX8_closes 104 = .ok (.iload_n 2, 1) := by decide +kernel
theorem dX8_closes_105 : decode cX8_closes 105 = .ok (.iload 4, 2) := by decide +kernel
theorem dX8_closes_107 : decode cX8_closes 107 = .ok (.aload_n 0, 1) := by decide +kernel
theorem dX8_closes_108 : decode cX8_closes 108 = .ok (.getfield 52, 3) := by decide +kernel
theorem dX8_closes_111 : decode cX8_closes 111 = .ok (.iload 5, 2) := by decide +kernel
theorem dX8_closes_113 : decode cX8_closes 113 = .ok (.iaload, 1) := by decide +kernel
theorem dX8_closes_114 : decode cX8_closes 114 = .ok (.bipush 90, 2) := by decide +kernel
theorem dX8_closes_116 : decode cX8_closes 116 = .ok (.iload_n 2, 1) := by decide +kernel
theorem dX8_closes_117 : decode cX8_closes 117 = .ok (.imul, 1) := by decide +kernel
theorem dX8_closes_118 : decode cX8_closes 118 = .ok (.bipush 89, 2) := by decide +kernel
theorem dX8_closes_120 : decode cX8_closes 120 = .ok (.iadd, 1) := by decide +kernel
theorem dX8_closes_121 : decode cX8_closes 121 = .ok (.invokevirtual 207, 3) := by decide +kernel
theorem dX8_closes_124 : decode cX8_closes 124 = .ok (.goto 25, 3) := by decide +kernel
theorem dX8_closes_127 : decode cX8_closes 127 = .ok (.aload_n 0, 1) := by decide +kernel
theorem dX8_closes_128 : decode cX8_closes 128 = .ok (.iload_n 1, 1) := by decide +kernel
theorem dX8_closes_129 : decode cX8_closes 129 = .ok (.iload_n 2, 1) := by decide +kernel
theorem dX8_closes_130 : decode cX8_closes 130 = .ok (.iload 4, 2) := by decide +kernel
theorem dX8_closes_132 : decode cX8_closes 132 = .ok (.aload_n 0, 1) := by decide +kernel
theorem dX8_closes_133 : decode cX8_closes 133 = .ok (.getfield 46, 3) := by decide +kernel
theorem dX8_closes_136 : decode cX8_closes 136 = .ok (.iload 5, 2) := by decide +kernel
theorem dX8_closes_138 : decode cX8_closes 138 = .ok (.iaload, 1) := by decide +kernel
theorem dX8_closes_139 : decode cX8_closes 139 = .ok (.bipush 90, 2) := by decide +kernel
theorem dX8_closes_141 : decode cX8_closes 141 = .ok (.iload_n 2, 1) := by decide +kernel
theorem dX8_closes_142 : decode cX8_closes 142 = .ok (.imul, 1) := by decide +kernel
theorem dX8_closes_143 : decode cX8_closes 143 = .ok (.bipush 89, 2) := by decide +kernel
theorem dX8_closes_145 : decode cX8_closes 145 = .ok (.iadd, 1) := by decide +kernel
theorem dX8_closes_146 : decode cX8_closes 146 = .ok (.invokevirtual 207, 3) := by decide +kernel
theorem dX8_closes_149 : decode cX8_closes 149 = .ok (.iinc 3 1, 3) := by decide +kernel
theorem dX8_closes_152 : decode cX8_closes 152 = .ok (.goto (-150), 3) := by decide +kernel
theorem dX8_closes_155 : decode cX8_closes 155 = .ok (.iconst 0, 1) := by decide +kernel
theorem dX8_closes_156 : decode cX8_closes 156 = .ok (.istore_n 3, 1) := by decide +kernel
theorem dX8_closes_157 : decode cX8_closes 157 = .ok (.iload_n 3, 1) := by decide +kernel
theorem dX8_closes_158 : decode cX8_closes 158 = .ok (.aload_n 0, 1) := by decide +kernel
theorem dX8_closes_159 : decode cX8_closes 159 = .ok (.getfield 157, 3) := by decide +kernel
theorem dX8_closes_162 : decode cX8_closes 162 = .ok (.if_icmp .ge 90, 3) := by decide +kernel
theorem dX8_closes_165 : decode cX8_closes 165 = .ok (.aload_n 0, 1) := by decide +kernel
theorem dX8_closes_166 : decode cX8_closes 166 = .ok (.getfield 22, 3) := by decide +kernel
theorem dX8_closes_169 : decode cX8_closes 169 = .ok (.iload_n 3, 1) := by decide +kernel
theorem dX8_closes_170 : decode cX8_closes 170 = .ok (.iaload, 1) := by decide +kernel
theorem dX8_closes_171 : decode cX8_closes 171 = .ok (.iconst 4, 1) := by decide +kernel
theorem dX8_closes_172 : decode cX8_closes 172 = .ok (.if_icmp .ne 74, 3) := by decide +kernel
theorem dX8_closes_175 : decode cX8_closes 175 = .ok (.iload_n 2, 1) := by decide +kernel
theorem dX8_closes_176 : decode cX8_closes 176 = .ok (.aload_n 0, 1) := by decide +kernel
theorem dX8_closes_177 : decode cX8_closes 177 = .ok (.getfield 37, 3) := by decide +kernel
theorem dX8_closes_180 : decode cX8_closes 180 = .ok (.iload_n 3, 1) := by decide +kernel
theorem dX8_closes_181 : decode cX8_closes 181 = .ok (.iaload, 1) := by decide +kernel
theorem dX8_closes_182 : decode cX8_closes 182 = .ok (.if_icmp .ge 6, 3) := by decide +kernel
theorem dX8_closes_185 : decode cX8_closes 185 = .ok (.goto 61, 3) := by decide +kernel
theorem dX8_closes_188 : decode cX8_closes 188 = .ok (.iload_n 1, 1) := by decide +kernel
theorem dX8_closes_189 : decode cX8_closes 189 = .ok (.iload_n 3, 1) := by decide +kernel
theorem dX8_closes_190 : decode cX8_closes 190 = .ok (.iload_n 2, 1) := by decide +kernel
theorem dX8_closes_191 : decode cX8_closes 191 = .ok (.aload_n 0, 1) := by decide +kernel
theorem dX8_closes_192 : decode cX8_closes 192 = .ok (.getfield 37, 3) := by decide +kernel
theorem dX8_closes_195 : decode cX8_closes 195 = .ok (.iload_n 3, 1) := by decide +kernel
theorem dX8_closes_196 : decode cX8_closes 196 = .ok (.iaload, 1) := by decide +kernel
theorem dX8_closes_197 : decode cX8_closes 197 = .ok (.isub, 1) := by decide +kernel
theorem dX8_closes_198 : decode cX8_closes 198 = .ok (.invokestatic 196, 3) := by decide +kernel
theorem dX8_closes_201 : decode cX8_closes 201 = .ok (.istore 4, 2) := by decide +kernel
theorem dX8_closes_203 : decode cX8_closes 203 = .ok (.bipush 12, 2) := by decide +kernel
theorem dX8_closes_205 : decode cX8_closes 205 = .ok (.iload_n 1, 1) := by decide +kernel
theorem dX8_closes_206 : decode cX8_closes 206 = .ok (.imul, 1) := by decide +kernel
theorem dX8_closes_207 : decode cX8_closes 207 = .ok (.aload_n 0, 1) := by decide +kernel
theorem dX8_closes_208 : decode cX8_closes 208 = .ok (.getfield 25, 3) := by decide +kernel
theorem dX8_closes_211 : decode cX8_closes 211 = .ok (.iload_n 3, 1) := by decide +kernel
theorem dX8_closes_212 : decode cX8_closes 212 = .ok (.iaload, 1) := by decide +kernel
theorem dX8_closes_213 : decode cX8_closes 213 = .ok (.iadd, 1) := by decide +kernel
theorem dX8_closes_214 : decode cX8_closes 214 = .ok (.istore 5, 2) := by decide +kernel
theorem dX8_closes_216 : decode cX8_closes 216 = .ok (.aload_n 0, 1) := by decide +kernel
theorem dX8_closes_217 : decode cX8_closes 217 = .ok (.getfield 71, 3) := by decide +kernel
theorem dX8_closes_220 : decode cX8_closes 220 = .ok (.iload 5, 2) := by decide +kernel
theorem dX8_closes_222 : decode cX8_closes 222 = .ok (.aload_n 0, 1) := by decide +kernel
theorem dX8_closes_223 : decode cX8_closes 223 = .ok (.getfield 71, 3) := by decide +kernel
theorem dX8_closes_226 : decode cX8_closes 226 = .ok (.iload 5, 2) := by decide +kernel
theorem dX8_closes_228 : decode cX8_closes 228 = .ok (.laload, 1) := by decide +kernel
theorem dX8_closes_229 : decode cX8_closes 229 = .ok (.aload_n 0, 1) := by decide +kernel
theorem dX8_closes_230 : decode cX8_closes 230 = .ok (.getfield 84, 3) := by decide +kernel
theorem dX8_closes_233 : decode cX8_closes 233 = .ok (.iload 4, 2) := by decide +kernel
theorem dX8_closes_235 : decode cX8_closes 235 = .ok (.laload, 1) := by decide +kernel
theorem dX8_closes_236 : decode cX8_closes 236 = .ok (.ladd, 1) := by decide +kernel
theorem dX8_closes_237 : decode cX8_closes 237 = .ok (.lastore, 1) := by decide +kernel
theorem dX8_closes_238 : decode cX8_closes 238 = .ok (.aload_n 0, 1) := by decide +kernel
theorem dX8_closes_239 : decode cX8_closes 239 = .ok (.getfield 84, 3) := by decide +kernel
theorem dX8_closes_242 : decode cX8_closes 242 = .ok (.iload 4, 2) := by decide +kernel
theorem dX8_closes_244 : decode cX8_closes 244 = .ok (.lconst 0, 1) := by decide +kernel
theorem dX8_closes_245 : decode cX8_closes 245 = .ok (.lastore, 1) := by decide +kernel
theorem dX8_closes_246 : decode cX8_closes 246 = .ok (.iinc 3 1, 3) := by decide +kernel
theorem dX8_closes_249 : decode cX8_closes 249 = .ok (.goto (-92), 3) := by decide +kernel
theorem dX8_closes_252 : decode cX8_closes 252 = .ok (.iconst 0, 1) := by decide +kernel
theorem dX8_closes_253 : decode cX8_closes 253 = .ok (.istore_n 3, 1) := by decide +kernel
theorem dX8_closes_254 : decode cX8_closes 254 = .ok (.iload_n 3, 1) := by decide +kernel
theorem dX8_closes_255 : decode cX8_closes 255 = .ok (.bipush 12, 2) := by decide +kernel
theorem dX8_closes_257 : decode cX8_closes 257 = .ok (.if_icmp .ge 16, 3) := by decide +kernel
theorem dX8_closes_260 : decode cX8_closes 260 = .ok (.aload_n 0, 1) := by decide +kernel
theorem dX8_closes_261 : decode cX8_closes 261 = .ok (.iload_n 1, 1) := by decide +kernel
theorem dX8_closes_262 : decode cX8_closes 262 = .ok (.iload_n 2, 1) := by decide +kernel
theorem dX8_closes_263 : decode cX8_closes 263 = .ok (.iload_n 3, 1) := by decide +kernel
theorem dX8_closes_264 : decode cX8_closes 264 = .ok (.invokevirtual 210, 3) := by decide +kernel
theorem dX8_closes_267 : decode cX8_closes 267 = .ok (.iinc 3 1, 3) := by decide +kernel
theorem dX8_closes_270 : decode cX8_closes 270 = .ok (.goto (-16), 3) := by decide +kernel
theorem dX8_closes_273 : decode cX8_closes 273 = .ok (.iconst 0, 1) := by decide +kernel
theorem dX8_closes_274 : decode cX8_closes 274 = .ok (.istore_n 3, 1) := by decide +kernel
theorem dX8_closes_275 : decode cX8_closes 275 = .ok (.iload_n 3, 1) := by decide +kernel
theorem dX8_closes_276 : decode cX8_closes 276 = .ok (.aload_n 0, 1) := by decide +kernel
theorem dX8_closes_277 : decode cX8_closes 277 = .ok (.getfield 157, 3) := by decide +kernel
theorem dX8_closes_280 : decode cX8_closes 280 = .ok (.if_icmp .ge 49, 3) := by decide +kernel
theorem dX8_closes_283 : decode cX8_closes 283 = .ok (.iload_n 2, 1) := by decide +kernel
theorem dX8_closes_284 : decode cX8_closes 284 = .ok (.iconst 4, 1) := by decide +kernel
theorem dX8_closes_285 : decode cX8_closes 285 = .ok (.irem, 1) := by decide +kernel
theorem dX8_closes_286 : decode cX8_closes 286 = .ok (.iconst 3, 1) := by decide +kernel
theorem dX8_closes_287 : decode cX8_closes 287 = .ok (.if_icmp .ne 42, 3) := by decide +kernel
theorem dX8_closes_290 : decode cX8_closes 290 = .ok (.aload_n 0, 1) := by decide +kernel
theorem dX8_closes_291 : decode cX8_closes 291 = .ok (.getfield 22, 3) := by decide +kernel
theorem dX8_closes_294 : decode cX8_closes 294 = .ok (.iload_n 3, 1) := by decide +kernel
theorem dX8_closes_295 : decode cX8_closes 295 = .ok (.iaload, 1) := by decide +kernel
theorem dX8_closes_296 : decode cX8_closes 296 = .ok (.iconst 2, 1) := by decide +kernel
theorem dX8_closes_297 : decode cX8_closes 297 = .ok (.if_icmp .ne 26, 3) := by decide +kernel
theorem dX8_closes_300 : decode cX8_closes 300 = .ok (.aload_n 0, 1) := by decide +kernel
theorem dX8_closes_301 : decode cX8_closes 301 = .ok (.getfield 31, 3) := by decide +kernel
theorem dX8_closes_304 : decode cX8_closes 304 = .ok (.iload_n 3, 1) := by decide +kernel
theorem dX8_closes_305 : decode cX8_closes 305 = .ok (.iaload, 1) := by decide +kernel
theorem dX8_closes_306 : decode cX8_closes 306 = .ok (.bipush 90, 2) := by decide +kernel
theorem dX8_closes_308 : decode cX8_closes 308 = .ok (.iload_n 2, 1) := by decide +kernel
theorem dX8_closes_309 : decode cX8_closes 309 = .ok (.imul, 1) := by decide +kernel
theorem dX8_closes_310 : decode cX8_closes 310 = .ok (.bipush 89, 2) := by decide +kernel
theorem dX8_closes_312 : decode cX8_closes 312 = .ok (.iadd, 1) := by decide +kernel
theorem dX8_closes_313 : decode cX8_closes 313 = .ok (.if_icmp .gt 10, 3) := by decide +kernel
theorem dX8_closes_316 : decode cX8_closes 316 = .ok (.aload_n 0, 1) := by decide +kernel
theorem dX8_closes_317 : decode cX8_closes 317 = .ok (.iload_n 1, 1) := by decide +kernel
theorem dX8_closes_318 : decode cX8_closes 318 = .ok (.iload_n 2, 1) := by decide +kernel
theorem dX8_closes_319 : decode cX8_closes 319 = .ok (.iload_n 3, 1) := by decide +kernel
theorem dX8_closes_320 : decode cX8_closes 320 = .ok (.invokevirtual 214, 3) := by decide +kernel
theorem dX8_closes_323 : decode cX8_closes 323 = .ok (.iinc 3 1, 3) := by decide +kernel
theorem dX8_closes_326 : decode cX8_closes 326 = .ok (.goto (-51), 3) := by decide +kernel
theorem dX8_closes_329 : decode cX8_closes 329 = .ok (.return_, 1) := by decide +kernel
set_option maxRecDepth 20000 in
theorem ggX8_pays_X8_dueAt : GoodIn wsX8_pays wsX8_dueAt := goodIn_r _ [8] rfl (by decide +kernel)
set_option maxRecDepth 20000 in
theorem gX8_pays_X8_dueAt : GoodIn wsX8_pays (va_wsS RX8 217 yX8_dueAt wsX8_dueAt) := goodIn_app (goodIn_of _ (by decide +kernel)) ggX8_pays_X8_dueAt
theorem dX8_pays_0 : decode cX8_pays 0 = .ok (.bipush 12, 2) := by decide +kernel
theorem dX8_pays_2 : decode cX8_pays 2 = .ok (.iload_n 1, 1) := by decide +kernel
theorem dX8_pays_3 : decode cX8_pays 3 = .ok (.imul, 1) := by decide +kernel
theorem dX8_pays_4 : decode cX8_pays 4 = .ok (.iload_n 3, 1) := by decide +kernel
theorem dX8_pays_5 : decode cX8_pays 5 = .ok (.iadd, 1) := by decide +kernel
theorem dX8_pays_6 : decode cX8_pays 6 = .ok (.istore 4, 2) := by decide +kernel
theorem dX8_pays_8 : decode cX8_pays 8 = .ok (.aload_n 0, 1) := by decide +kernel
theorem dX8_pays_9 : decode cX8_pays 9 = .ok (.getfield 75, 3) := by decide +kernel
theorem dX8_pays_12 : decode cX8_pays 12 = .ok (.iload 4, 2) := by decide +kernel
theorem dX8_pays_14 : decode cX8_pays 14 = .ok (.laload, 1) := by decide +kernel
theorem dX8_pays_15 : decode cX8_pays 15 = .ok (.lconst 0, 1) := by decide +kernel
theorem dX8_pays_16 : decode cX8_pays 16 = .ok (.lcmp, 1) := by decide +kernel
theorem dX8_pays_17 : decode cX8_pays 17 = .ok (.ifCond .le 86, 3) := by decide +kernel
theorem dX8_pays_20 : decode cX8_pays 20 = .ok (.aload_n 0, 1) := by decide +kernel
theorem dX8_pays_21 : decode cX8_pays 21 = .ok (.getfield 71, 3) := by decide +kernel
theorem dX8_pays_24 : decode cX8_pays 24 = .ok (.iload 4, 2) := by decide +kernel
theorem dX8_pays_26 : decode cX8_pays 26 = .ok (.laload, 1) := by decide +kernel
theorem dX8_pays_27 : decode cX8_pays 27 = .ok (.lconst 0, 1) := by decide +kernel
theorem dX8_pays_28 : decode cX8_pays 28 = .ok (.lcmp, 1) := by decide +kernel
theorem dX8_pays_29 : decode cX8_pays 29 = .ok (.ifCond .le 74, 3) := by decide +kernel
theorem dX8_pays_32 : decode cX8_pays 32 = .ok (.aload_n 0, 1) := by decide +kernel
theorem dX8_pays_33 : decode cX8_pays 33 = .ok (.getfield 71, 3) := by decide +kernel
theorem dX8_pays_36 : decode cX8_pays 36 = .ok (.iload 4, 2) := by decide +kernel
theorem dX8_pays_38 : decode cX8_pays 38 = .ok (.laload, 1) := by decide +kernel
theorem dX8_pays_39 : decode cX8_pays 39 = .ok (.aload_n 0, 1) := by decide +kernel
theorem dX8_pays_40 : decode cX8_pays 40 = .ok (.getfield 75, 3) := by decide +kernel
theorem dX8_pays_43 : decode cX8_pays 43 = .ok (.iload 4, 2) := by decide +kernel
theorem dX8_pays_45 : decode cX8_pays 45 = .ok (.laload, 1) := by decide +kernel
theorem dX8_pays_46 : decode cX8_pays 46 = .ok (.lcmp, 1) := by decide +kernel
theorem dX8_pays_47 : decode cX8_pays 47 = .ok (.ifCond .ge 13, 3) := by decide +kernel
theorem dX8_pays_50 : decode cX8_pays 50 = .ok (.aload_n 0, 1) := by decide +kernel
theorem dX8_pays_51 : decode cX8_pays 51 = .ok (.getfield 71, 3) := by decide +kernel
theorem dX8_pays_54 : decode cX8_pays 54 = .ok (.iload 4, 2) := by decide +kernel
theorem dX8_pays_56 : decode cX8_pays 56 = .ok (.laload, 1) := by decide +kernel
theorem dX8_pays_57 : decode cX8_pays 57 = .ok (.goto 10, 3) := by decide +kernel
theorem dX8_pays_60 : decode cX8_pays 60 = .ok (.aload_n 0, 1) := by decide +kernel
theorem dX8_pays_61 : decode cX8_pays 61 = .ok (.getfield 75, 3) := by decide +kernel
theorem dX8_pays_64 : decode cX8_pays 64 = .ok (.iload 4, 2) := by decide +kernel
theorem dX8_pays_66 : decode cX8_pays 66 = .ok (.laload, 1) := by decide +kernel
theorem dX8_pays_67 : decode cX8_pays 67 = .ok (.lstore 5, 2) := by decide +kernel
theorem dX8_pays_69 : decode cX8_pays 69 = .ok (.aload_n 0, 1) := by decide +kernel
theorem dX8_pays_70 : decode cX8_pays 70 = .ok (.getfield 71, 3) := by decide +kernel
theorem dX8_pays_73 : decode cX8_pays 73 = .ok (.iload 4, 2) := by decide +kernel
theorem dX8_pays_75 : decode cX8_pays 75 = .ok (.aload_n 0, 1) := by decide +kernel
theorem dX8_pays_76 : decode cX8_pays 76 = .ok (.getfield 71, 3) := by decide +kernel
theorem dX8_pays_79 : decode cX8_pays 79 = .ok (.iload 4, 2) := by decide +kernel
theorem dX8_pays_81 : decode cX8_pays 81 = .ok (.laload, 1) := by decide +kernel
theorem dX8_pays_82 : decode cX8_pays 82 = .ok (.lload 5, 2) := by decide +kernel
theorem dX8_pays_84 : decode cX8_pays 84 = .ok (.lsub, 1) := by decide +kernel
theorem dX8_pays_85 : decode cX8_pays 85 = .ok (.lastore, 1) := by decide +kernel
theorem dX8_pays_86 : decode cX8_pays 86 = .ok (.aload_n 0, 1) := by decide +kernel
theorem dX8_pays_87 : decode cX8_pays 87 = .ok (.getfield 75, 3) := by decide +kernel
theorem dX8_pays_90 : decode cX8_pays 90 = .ok (.iload 4, 2) := by decide +kernel
theorem dX8_pays_92 : decode cX8_pays 92 = .ok (.aload_n 0, 1) := by decide +kernel
theorem dX8_pays_93 : decode cX8_pays 93 = .ok (.getfield 75, 3) := by decide +kernel
theorem dX8_pays_96 : decode cX8_pays 96 = .ok (.iload 4, 2) := by decide +kernel
theorem dX8_pays_98 : decode cX8_pays 98 = .ok (.laload, 1) := by decide +kernel
theorem dX8_pays_99 : decode cX8_pays 99 = .ok (.lload 5, 2) := by decide +kernel
theorem dX8_pays_101 : decode cX8_pays 101 = .ok (.lsub, 1) := by decide +kernel
theorem dX8_pays_102 : decode cX8_pays 102 = .ok (.lastore, 1) := by decide +kernel
theorem dX8_pays_103 : decode cX8_pays 103 = .ok (.aload_n 0, 1) := by decide +kernel
theorem dX8_pays_104 : decode cX8_pays 104 = .ok (.getfield 71, 3) := by decide +kernel
theorem dX8_pays_107 : decode cX8_pays 107 = .ok (.iload 4, 2) := by decide +kernel
theorem dX8_pays_109 : decode cX8_pays 109 = .ok (.laload, 1) := by decide +kernel
theorem dX8_pays_110 : decode cX8_pays 110 = .ok (.ldc2_w 194, 3) := by decide +kernel
theorem dX8_pays_113 : decode cX8_pays 113 = .ok (.lcmp, 1) := by decide +kernel
theorem dX8_pays_114 : decode cX8_pays 114 = .ok (.ifCond .ge 7, 3) := by decide +kernel
theorem dX8_pays_117 : decode cX8_pays 117 = .ok (.iconst 0, 1) := by decide +kernel
theorem dX8_pays_118 : decode cX8_pays 118 = .ok (.goto 15, 3) := by decide +kernel
theorem dX8_pays_121 : decode cX8_pays 121 = .ok (.aload_n 0, 1) := by decide +kernel
theorem dX8_pays_122 : decode cX8_pays 122 = .ok (.getfield 71, 3) := by decide +kernel
theorem dX8_pays_125 : decode cX8_pays 125 = .ok (.iload 4, 2) := by decide +kernel
theorem dX8_pays_127 : decode cX8_pays 127 = .ok (.laload, 1) := by decide +kernel
theorem dX8_pays_128 : decode cX8_pays 128 = .ok (.ldc2_w 194, 3) := by decide +kernel
theorem dX8_pays_131 : decode cX8_pays 131 = .ok (.ldiv, 1) := by decide +kernel
theorem dX8_pays_132 : decode cX8_pays 132 = .ok (.l2i, 1) := by decide +kernel
theorem dX8_pays_133 : decode cX8_pays 133 = .ok (.istore 5, 2) := by decide +kernel
theorem dX8_pays_135 : decode cX8_pays 135 = .ok (.aload_n 0, 1) := by decide +kernel
theorem dX8_pays_136 : decode cX8_pays 136 = .ok (.getfield 87, 3) := by decide +kernel
theorem dX8_pays_139 : decode cX8_pays 139 = .ok (.iload_n 1, 1) := by decide +kernel
theorem dX8_pays_140 : decode cX8_pays 140 = .ok (.iload_n 3, 1) := by decide +kernel
theorem dX8_pays_141 : decode cX8_pays 141 = .ok (.iload_n 2, 1) := by decide +kernel
theorem dX8_pays_142 : decode cX8_pays 142 = .ok (.invokestatic 217, 3) := by decide +kernel
theorem dX8_pays_145 : decode cX8_pays 145 = .ok (.iload 5, 2) := by decide +kernel
theorem dX8_pays_147 : decode cX8_pays 147 = .ok (.iastore, 1) := by decide +kernel
theorem dX8_pays_148 : decode cX8_pays 148 = .ok (.aload_n 0, 1) := by decide +kernel
theorem dX8_pays_149 : decode cX8_pays 149 = .ok (.getfield 71, 3) := by decide +kernel
theorem dX8_pays_152 : decode cX8_pays 152 = .ok (.iload 4, 2) := by decide +kernel
theorem dX8_pays_154 : decode cX8_pays 154 = .ok (.aload_n 0, 1) := by decide +kernel
theorem dX8_pays_155 : decode cX8_pays 155 = .ok (.getfield 71, 3) := by decide +kernel
theorem dX8_pays_158 : decode cX8_pays 158 = .ok (.iload 4, 2) := by decide +kernel
theorem dX8_pays_160 : decode cX8_pays 160 = .ok (.laload, 1) := by decide +kernel
theorem dX8_pays_161 : decode cX8_pays 161 = .ok (.iload 5, 2) := by decide +kernel
theorem dX8_pays_163 : decode cX8_pays 163 = .ok (.i2l, 1) := by decide +kernel
theorem dX8_pays_164 : decode cX8_pays 164 = .ok (.ldc2_w 194, 3) := by decide +kernel
theorem dX8_pays_167 : decode cX8_pays 167 = .ok (.lmul, 1) := by decide +kernel
theorem dX8_pays_168 : decode cX8_pays 168 = .ok (.lsub, 1) := by decide +kernel
theorem dX8_pays_169 : decode cX8_pays 169 = .ok (.lastore, 1) := by decide +kernel
theorem dX8_pays_170 : decode cX8_pays 170 = .ok (.return_, 1) := by decide +kernel
set_option maxRecDepth 20000 in
theorem ggX8_fills_X8_dueAt : GoodIn wsX8_fills wsX8_dueAt := goodIn_r _ [8] rfl (by decide +kernel)
set_option maxRecDepth 20000 in
theorem gX8_fills_X8_dueAt : GoodIn wsX8_fills (va_wsS RX8 217 yX8_dueAt wsX8_dueAt) := goodIn_app (goodIn_of _ (by decide +kernel)) ggX8_fills_X8_dueAt
theorem dX8_fills_0 : decode cX8_fills 0 = .ok (.aload_n 0, 1) := by decide +kernel
theorem dX8_fills_1 : decode cX8_fills 1 = .ok (.getfield 25, 3) := by decide +kernel
theorem dX8_fills_4 : decode cX8_fills 4 = .ok (.iload_n 3, 1) := by decide +kernel
theorem dX8_fills_5 : decode cX8_fills 5 = .ok (.iaload, 1) := by decide +kernel
theorem dX8_fills_6 : decode cX8_fills 6 = .ok (.istore 4, 2) := by decide +kernel
theorem dX8_fills_8 : decode cX8_fills 8 = .ok (.lconst 0, 1) := by decide +kernel
theorem dX8_fills_9 : decode cX8_fills 9 = .ok (.lstore 5, 2) := by decide +kernel
theorem dX8_fills_11 : decode cX8_fills 11 = .ok (.iload_n 2, 1) := by decide +kernel
theorem dX8_fills_12 : decode cX8_fills 12 = .ok (.iconst 3, 1) := by decide +kernel
theorem dX8_fills_13 : decode cX8_fills 13 = .ok (.isub, 1) := by decide +kernel
theorem dX8_fills_14 : decode cX8_fills 14 = .ok (.istore 7, 2) := by decide +kernel
theorem dX8_fills_16 : decode cX8_fills 16 = .ok (.iload 7, 2) := by decide +kernel
theorem dX8_fills_18 : decode cX8_fills 18 = .ok (.iload_n 2, 1) := by decide +kernel
theorem dX8_fills_19 : decode cX8_fills 19 = .ok (.if_icmp .gt 28, 3) := by decide +kernel
theorem dX8_fills_22 : decode cX8_fills 22 = .ok (.lload 5, 2) := by decide +kernel
theorem dX8_fills_24 : decode cX8_fills 24 = .ok (.aload_n 0, 1) := by decide +kernel
theorem dX8_fills_25 : decode cX8_fills 25 = .ok (.getfield 87, 3) := by decide +kernel
theorem dX8_fills_28 : decode cX8_fills 28 = .ok (.iload_n 1, 1) := by decide +kernel
theorem dX8_fills_29 : decode cX8_fills 29 = .ok (.iload 4, 2) := by decide +kernel
theorem dX8_fills_31 : decode cX8_fills 31 = .ok (.iload 7, 2) := by decide +kernel
theorem dX8_fills_33 : decode cX8_fills 33 = .ok (.invokestatic 217, 3) := by decide +kernel
theorem dX8_fills_36 : decode cX8_fills 36 = .ok (.iaload, 1) := by decide +kernel
theorem dX8_fills_37 : decode cX8_fills 37 = .ok (.i2l, 1) := by decide +kernel
theorem dX8_fills_38 : decode cX8_fills 38 = .ok (.ladd, 1) := by decide +kernel
theorem dX8_fills_39 : decode cX8_fills 39 = .ok (.lstore 5, 2) := by decide +kernel
theorem dX8_fills_41 : decode cX8_fills 41 = .ok (.iinc 7 1, 3) := by decide +kernel
theorem dX8_fills_44 : decode cX8_fills 44 = .ok (.goto (-28), 3) := by decide +kernel
theorem dX8_fills_47 : decode cX8_fills 47 = .ok (.lload 5, 2) := by decide +kernel
theorem dX8_fills_49 : decode cX8_fills 49 = .ok (.aload_n 0, 1) := by decide +kernel
theorem dX8_fills_50 : decode cX8_fills 50 = .ok (.getfield 34, 3) := by decide +kernel
theorem dX8_fills_53 : decode cX8_fills 53 = .ok (.iload_n 3, 1) := by decide +kernel
theorem dX8_fills_54 : decode cX8_fills 54 = .ok (.iaload, 1) := by decide +kernel
theorem dX8_fills_55 : decode cX8_fills 55 = .ok (.i2l, 1) := by decide +kernel
theorem dX8_fills_56 : decode cX8_fills 56 = .ok (.lcmp, 1) := by decide +kernel
theorem dX8_fills_57 : decode cX8_fills 57 = .ok (.ifCond .lt 4, 3) := by decide +kernel
theorem dX8_fills_60 : decode cX8_fills 60 = .ok (.return_, 1) := by decide +kernel
theorem dX8_fills_61 : decode cX8_fills 61 = .ok (.aload_n 0, 1) := by decide +kernel
theorem dX8_fills_62 : decode cX8_fills 62 = .ok (.getfield 34, 3) := by decide +kernel
theorem dX8_fills_65 : decode cX8_fills 65 = .ok (.iload_n 3, 1) := by decide +kernel
theorem dX8_fills_66 : decode cX8_fills 66 = .ok (.iaload, 1) := by decide +kernel
theorem dX8_fills_67 : decode cX8_fills 67 = .ok (.i2l, 1) := by decide +kernel
theorem dX8_fills_68 : decode cX8_fills 68 = .ok (.lload 5, 2) := by decide +kernel
theorem dX8_fills_70 : decode cX8_fills 70 = .ok (.lsub, 1) := by decide +kernel
theorem dX8_fills_71 : decode cX8_fills 71 = .ok (.l2i, 1) := by decide +kernel
theorem dX8_fills_72 : decode cX8_fills 72 = .ok (.istore 7, 2) := by decide +kernel
theorem dX8_fills_74 : decode cX8_fills 74 = .ok (.aload_n 0, 1) := by decide +kernel
theorem dX8_fills_75 : decode cX8_fills 75 = .ok (.getfield 87, 3) := by decide +kernel
theorem dX8_fills_78 : decode cX8_fills 78 = .ok (.iload_n 1, 1) := by decide +kernel
theorem dX8_fills_79 : decode cX8_fills 79 = .ok (.iload 4, 2) := by decide +kernel
theorem dX8_fills_81 : decode cX8_fills 81 = .ok (.iload_n 2, 1) := by decide +kernel
theorem dX8_fills_82 : decode cX8_fills 82 = .ok (.invokestatic 217, 3) := by decide +kernel
theorem dX8_fills_85 : decode cX8_fills 85 = .ok (.aload_n 0, 1) := by decide +kernel
theorem dX8_fills_86 : decode cX8_fills 86 = .ok (.getfield 87, 3) := by decide +kernel
theorem dX8_fills_89 : decode cX8_fills 89 = .ok (.iload_n 1, 1) := by decide +kernel
theorem dX8_fills_90 : decode cX8_fills 90 = .ok (.iload 4, 2) := by decide +kernel
theorem dX8_fills_92 : decode cX8_fills 92 = .ok (.iload_n 2, 1) := by decide +kernel
theorem dX8_fills_93 : decode cX8_fills 93 = .ok (.invokestatic 217, 3) := by decide +kernel
theorem dX8_fills_96 : decode cX8_fills 96 = .ok (.iaload, 1) := by decide +kernel
theorem dX8_fills_97 : decode cX8_fills 97 = .ok (.iload 7, 2) := by decide +kernel
theorem dX8_fills_99 : decode cX8_fills 99 = .ok (.iadd, 1) := by decide +kernel
theorem dX8_fills_100 : decode cX8_fills 100 = .ok (.iastore, 1) := by decide +kernel
theorem dX8_fills_101 : decode cX8_fills 101 = .ok (.aload_n 0, 1) := by decide +kernel
theorem dX8_fills_102 : decode cX8_fills 102 = .ok (.getfield 90, 3) := by decide +kernel
theorem dX8_fills_105 : decode cX8_fills 105 = .ok (.bipush 12, 2) := by decide +kernel
theorem dX8_fills_107 : decode cX8_fills 107 = .ok (.iload_n 1, 1) := by decide +kernel
theorem dX8_fills_108 : decode cX8_fills 108 = .ok (.imul, 1) := by decide +kernel
theorem dX8_fills_109 : decode cX8_fills 109 = .ok (.iload 4, 2) := by decide +kernel
theorem dX8_fills_111 : decode cX8_fills 111 = .ok (.iadd, 1) := by decide +kernel
theorem dX8_fills_112 : decode cX8_fills 112 = .ok (.aload_n 0, 1) := by decide +kernel
theorem dX8_fills_113 : decode cX8_fills 113 = .ok (.getfield 90, 3) := by decide +kernel
theorem dX8_fills_116 : decode cX8_fills 116 = .ok (.bipush 12, 2) := by decide +kernel
theorem dX8_fills_118 : decode cX8_fills 118 = .ok (.iload_n 1, 1) := by decide +kernel
theorem dX8_fills_119 : decode cX8_fills 119 = .ok (.imul, 1) := by decide +kernel
theorem dX8_fills_120 : decode cX8_fills 120 = .ok (.iload 4, 2) := by decide +kernel
theorem dX8_fills_122 : decode cX8_fills 122 = .ok (.iadd, 1) := by decide +kernel
theorem dX8_fills_123 : decode cX8_fills 123 = .ok (.iaload, 1) := by decide +kernel
theorem dX8_fills_124 : decode cX8_fills 124 = .ok (.iload 7, 2) := by decide +kernel
theorem dX8_fills_126 : decode cX8_fills 126 = .ok (.iadd, 1) := by decide +kernel
theorem dX8_fills_127 : decode cX8_fills 127 = .ok (.iastore, 1) := by decide +kernel
theorem dX8_fills_128 : decode cX8_fills 128 = .ok (.return_, 1) := by decide +kernel
set_option maxRecDepth 20000 in
theorem ggX8_close_X8_closes : GoodIn wsX8_close wsX8_closes := goodIn_r _ [7, 8, 9, 10, 11, 12, 13, 14, 15, 16, 17, 18, 19, 20, 21, 22, 23, 6, 24, 25, 26, 27, 28, 29, 30, 31, 32, 33, 34, 35, 36, 37, 38, 39, 40, 41, 42, 43, 44, 45, 46, 47, 48, 49, 50, 51, 52, 53, 54, 55, 2, 56, 57, 58, 59, 60, 61, 62, 63, 64, 65, 66, 67, 68, 69, 70, 71, 72, 73, 74, 75, 76, 77, 78, 79, 80, 81, 82, 83, 84, 85, 86, 87, 88, 89, 90, 91, 92, 93, 94, 95, 96, 97, 98, 99, 100, 101, 102, 103, 104, 105, 106, 107, 108, 109, 110, 111, 112, 113, 114, 115, 116, 117, 118, 119, 120, 121, 122, 123, 124, 125, 126, 127, 128, 129, 130, 131, 132, 133] rfl (by decide +kernel)
set_option maxRecDepth 20000 in
theorem gX8_close_X8_closes : GoodIn wsX8_close (wsV RX8 220 RX8 yX8_closes wsX8_closes) := goodIn_app (goodIn_of _ (by decide +kernel)) ggX8_close_X8_closes
theorem dX8_close_0 : decode cX8_close 0 = .ok (.aload_n 0, 1) := by decide +kernel
theorem dX8_close_1 : decode cX8_close 1 = .ok (.getfield 136, 3) := by decide +kernel
theorem dX8_close_4 : decode cX8_close 4 = .ok (.bipush 40, 2) := by decide +kernel
theorem dX8_close_6 : decode cX8_close 6 = .ok (.if_icmp .ne 5, 3) := by decide +kernel
theorem dX8_close_9 : decode cX8_close 9 = .ok (.iconst (-1), 1) := by decide +kernel
theorem dX8_close_10 : decode cX8_close 10 = .ok (.ireturn, 1) := by decide +kernel
theorem dX8_close_11 : decode cX8_close 11 = .ok (.aload_n 0, 1) := by decide +kernel
theorem dX8_close_12 : decode cX8_close 12 = .ok (.iconst 0, 1) := by decide +kernel
theorem dX8_close_13 : decode cX8_close 13 = .ok (.putfield 178, 3) := by decide +kernel
theorem dX8_close_16 : decode cX8_close 16 = .ok (.aload_n 0, 1) := by decide +kernel
theorem dX8_close_17 : decode cX8_close 17 = .ok (.iconst 0, 1) := by decide +kernel
theorem dX8_close_18 : decode cX8_close 18 = .ok (.aload_n 0, 1) := by decide +kernel
theorem dX8_close_19 : decode cX8_close 19 = .ok (.getfield 136, 3) := by decide +kernel
theorem dX8_close_22 : decode cX8_close 22 = .ok (.invokevirtual 220, 3) := by decide +kernel
theorem dX8_close_25 : decode cX8_close 25 = .ok (.aload_n 0, 1) := by decide +kernel
theorem dX8_close_26 : decode cX8_close 26 = .ok (.aload_n 0, 1) := by decide +kernel
theorem dX8_close_27 : decode cX8_close 27 = .ok (.getfield 136, 3) := by decide +kernel
theorem dX8_close_30 : decode cX8_close 30 = .ok (.iconst 1, 1) := by decide +kernel
theorem dX8_close_31 : decode cX8_close 31 = .ok (.iadd, 1) := by decide +kernel
theorem dX8_close_32 : decode cX8_close 32 = .ok (.putfield 136, 3) := by decide +kernel
theorem dX8_close_35 : decode cX8_close 35 = .ok (.aload_n 0, 1) := by decide +kernel
theorem dX8_close_36 : decode cX8_close 36 = .ok (.getfield 136, 3) := by decide +kernel
theorem dX8_close_39 : decode cX8_close 39 = .ok (.iconst 1, 1) := by decide +kernel
theorem dX8_close_40 : decode cX8_close 40 = .ok (.isub, 1) := by decide +kernel
theorem dX8_close_41 : decode cX8_close 41 = .ok (.ireturn, 1) := by decide +kernel
set_option maxRecDepth 20000 in
theorem ggX8_takes_X8_bag : GoodIn wsX8_takes wsX8_bag := goodIn_r _ [10] rfl (by decide +kernel)
set_option maxRecDepth 20000 in
theorem gX8_takes_X8_bag : GoodIn wsX8_takes (va_wsS RX8 196 yX8_bag wsX8_bag) := goodIn_app (goodIn_of _ (by decide +kernel)) ggX8_takes_X8_bag
theorem dX8_takes_0 : decode cX8_takes 0 = .ok (.iload_n 3, 1) := by decide +kernel
theorem dX8_takes_1 : decode cX8_takes 1 = .ok (.i2l, 1) := by decide +kernel
theorem dX8_takes_2 : decode cX8_takes 2 = .ok (.ldc2_w 194, 3) := by decide +kernel
theorem dX8_takes_5 : decode cX8_takes 5 = .ok (.lmul, 1) := by decide +kernel
theorem dX8_takes_6 : decode cX8_takes 6 = .ok (.lstore 4, 2) := by decide +kernel
theorem dX8_takes_8 : decode cX8_takes 8 = .ok (.iconst 0, 1) := by decide +kernel
theorem dX8_takes_9 : decode cX8_takes 9 = .ok (.istore 6, 2) := by decide +kernel
theorem dX8_takes_11 : decode cX8_takes 11 = .ok (.iload 6, 2) := by decide +kernel
theorem dX8_takes_13 : decode cX8_takes 13 = .ok (.bipush 40, 2) := by decide +kernel
theorem dX8_takes_15 : decode cX8_takes 15 = .ok (.if_icmp .ge 113, 3) := by decide +kernel
theorem dX8_takes_18 : decode cX8_takes 18 = .ok (.iconst 0, 1) := by decide +kernel
theorem dX8_takes_19 : decode cX8_takes 19 = .ok (.istore 7, 2) := by decide +kernel
theorem dX8_takes_21 : decode cX8_takes 21 = .ok (.iload 7, 2) := by decide +kernel
theorem dX8_takes_23 : decode cX8_takes 23 = .ok (.aload_n 0, 1) := by decide +kernel
theorem dX8_takes_24 : decode cX8_takes 24 = .ok (.getfield 157, 3) := by decide +kernel
theorem dX8_takes_27 : decode cX8_takes 27 = .ok (.if_icmp .ge 95, 3) := by decide +kernel
theorem dX8_takes_30 : decode cX8_takes 30 = .ok (.aload_n 0, 1) := by decide +kernel
theorem dX8_takes_31 : decode cX8_takes 31 = .ok (.getfield 22, 3) := by decide +kernel
theorem dX8_takes_34 : decode cX8_takes 34 = .ok (.iload 7, 2) := by decide +kernel
theorem dX8_takes_36 : decode cX8_takes 36 = .ok (.iaload, 1) := by decide +kernel
theorem dX8_takes_37 : decode cX8_takes 37 = .ok (.iconst 4, 1) := by decide +kernel
theorem dX8_takes_38 : decode cX8_takes 38 = .ok (.if_icmp .ne 78, 3) := by decide +kernel
theorem dX8_takes_41 : decode cX8_takes 41 = .ok (.aload_n 0, 1) := by decide +kernel
theorem dX8_takes_42 : decode cX8_takes 42 = .ok (.getfield 25, 3) := by decide +kernel
theorem dX8_takes_45 : decode cX8_takes 45 = .ok (.iload 7, 2) := by decide +kernel
theorem dX8_takes_47 : decode cX8_takes 47 = .ok (.iaload, 1) := by decide +kernel
theorem dX8_takes_48 : decode cX8_takes 48 = .ok (.iload_n 2, 1) := by decide +kernel
theorem dX8_takes_49 : decode cX8_takes 49 = .ok (.if_icmp .eq 6, 3) := by decide +kernel
theorem dX8_takes_52 : decode cX8_takes 52 = .ok (.goto 64, 3) := by decide +kernel
theorem dX8_takes_55 : decode cX8_takes 55 = .ok (.iload_n 1, 1) := by decide +kernel
theorem dX8_takes_56 : decode cX8_takes 56 = .ok (.iload 7, 2) := by decide +kernel
theorem dX8_takes_58 : decode cX8_takes 58 = .ok (.iload 6, 2) := by decide +kernel
theorem dX8_takes_60 : decode cX8_takes 60 = .ok (.invokestatic 196, 3) := by decide +kernel
theorem dX8_takes_63 : decode cX8_takes 63 = .ok (.istore 8, 2) := by decide +kernel
theorem dX8_takes_65 : decode cX8_takes 65 = .ok (.aload_n 0, 1) := by decide +kernel
theorem dX8_takes_66 : decode cX8_takes 66 = .ok (.getfield 84, 3) := by decide +kernel
theorem dX8_takes_69 : decode cX8_takes 69 = .ok (.iload 8, 2) := by decide +kernel
theorem dX8_takes_71 : decode cX8_takes 71 = .ok (.laload, 1) := by decide +kernel
theorem dX8_takes_72 : decode cX8_takes 72 = .ok (.lload 4, 2) := by decide +kernel
theorem dX8_takes_74 : decode cX8_takes 74 = .ok (.lcmp, 1) := by decide +kernel
theorem dX8_takes_75 : decode cX8_takes 75 = .ok (.ifCond .ge 13, 3) := by decide +kernel
theorem dX8_takes_78 : decode cX8_takes 78 = .ok (.aload_n 0, 1) := by decide +kernel
theorem dX8_takes_79 : decode cX8_takes 79 = .ok (.getfield 84, 3) := by decide +kernel
theorem dX8_takes_82 : decode cX8_takes 82 = .ok (.iload 8, 2) := by decide +kernel
theorem dX8_takes_84 : decode cX8_takes 84 = .ok (.laload, 1) := by decide +kernel
theorem dX8_takes_85 : decode cX8_takes 85 = .ok (.goto 5, 3) := by decide +kernel
theorem dX8_takes_88 : decode cX8_takes 88 = .ok (.lload 4, 2) := by decide +kernel
theorem dX8_takes_90 : decode cX8_takes 90 = .ok (.lstore 9, 2) := by decide +kernel
theorem dX8_takes_92 : decode cX8_takes 92 = .ok (.aload_n 0, 1) := by decide +kernel
theorem dX8_takes_93 : decode cX8_takes 93 = .ok (.getfield 84, 3) := by decide +kernel
theorem dX8_takes_96 : decode cX8_takes 96 = .ok (.iload 8, 2) := by decide +kernel
theorem dX8_takes_98 : decode cX8_takes 98 = .ok (.aload_n 0, 1) := by decide +kernel
theorem dX8_takes_99 : decode cX8_takes 99 = .ok (.getfield 84, 3) := by decide +kernel
theorem dX8_takes_102 : decode cX8_takes 102 = .ok (.iload 8, 2) := by decide +kernel
theorem dX8_takes_104 : decode cX8_takes 104 = .ok (.laload, 1) := by decide +kernel
theorem dX8_takes_105 : decode cX8_takes 105 = .ok (.lload 9, 2) := by decide +kernel
theorem dX8_takes_107 : decode cX8_takes 107 = .ok (.lsub, 1) := by decide +kernel
theorem dX8_takes_108 : decode cX8_takes 108 = .ok (.lastore, 1) := by decide +kernel
theorem dX8_takes_109 : decode cX8_takes 109 = .ok (.lload 4, 2) := by decide +kernel
theorem dX8_takes_111 : decode cX8_takes 111 = .ok (.lload 9, 2) := by decide +kernel
theorem dX8_takes_113 : decode cX8_takes 113 = .ok (.lsub, 1) := by decide +kernel
theorem dX8_takes_114 : decode cX8_takes 114 = .ok (.lstore 4, 2) := by decide +kernel
theorem dX8_takes_116 : decode cX8_takes 116 = .ok (.iinc 7 1, 3) := by decide +kernel
theorem dX8_takes_119 : decode cX8_takes 119 = .ok (.goto (-98), 3) := by decide +kernel
theorem dX8_takes_122 : decode cX8_takes 122 = .ok (.iinc 6 1, 3) := by decide +kernel
theorem dX8_takes_125 : decode cX8_takes 125 = .ok (.goto (-114), 3) := by decide +kernel
theorem dX8_takes_128 : decode cX8_takes 128 = .ok (.aload_n 0, 1) := by decide +kernel
theorem dX8_takes_129 : decode cX8_takes 129 = .ok (.getfield 75, 3) := by decide +kernel
theorem dX8_takes_132 : decode cX8_takes 132 = .ok (.bipush 12, 2) := by decide +kernel
theorem dX8_takes_134 : decode cX8_takes 134 = .ok (.iload_n 1, 1) := by decide +kernel
theorem dX8_takes_135 : decode cX8_takes 135 = .ok (.imul, 1) := by decide +kernel
theorem dX8_takes_136 : decode cX8_takes 136 = .ok (.iload_n 2, 1) := by decide +kernel
theorem dX8_takes_137 : decode cX8_takes 137 = .ok (.iadd, 1) := by decide +kernel
theorem dX8_takes_138 : decode cX8_takes 138 = .ok (.aload_n 0, 1) := by decide +kernel
theorem dX8_takes_139 : decode cX8_takes 139 = .ok (.getfield 75, 3) := by decide +kernel
theorem dX8_takes_142 : decode cX8_takes 142 = .ok (.bipush 12, 2) := by decide +kernel
theorem dX8_takes_144 : decode cX8_takes 144 = .ok (.iload_n 1, 1) := by decide +kernel
