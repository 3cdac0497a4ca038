theorem dX8_share_244 : decode cX8_share 244 = .ok (.iadd, 1) := by decide +kernel
theorem dX8_share_245 : decode cX8_share 245 = .ok (.iastore, 1) := by decide +kernel
theorem dX8_share_246 : decode cX8_share 246 = .ok (.iload 9, 2) := by decide +kernel
theorem dX8_share_248 : decode cX8_share 248 = .ok (.iconst 1, 1) := by decide +kernel
theorem dX8_share_249 : decode cX8_share 249 = .ok (.iadd, 1) := by decide +kernel
theorem dX8_share_250 : decode cX8_share 250 = .ok (.ireturn, 1) := by decide +kernel
theorem dX8_setOn_0 : decode cX8_setOn 0 = .ok (.bipush 6, 2) := by decide +kernel
theorem dX8_setOn_2 : decode cX8_setOn 2 = .ok (.iload_n 1, 1) := by decide +kernel
theorem dX8_setOn_3 : decode cX8_setOn 3 = .ok (.imul, 1) := by decide +kernel
theorem dX8_setOn_4 : decode cX8_setOn 4 = .ok (.istore_n 3, 1) := by decide +kernel
theorem dX8_setOn_5 : decode cX8_setOn 5 = .ok (.iconst 0, 1) := by decide +kernel
theorem dX8_setOn_6 : decode cX8_setOn 6 = .ok (.istore 4, 2) := by decide +kernel
theorem dX8_setOn_8 : decode cX8_setOn 8 = .ok (.iload 4, 2) := by decide +kernel
theorem dX8_setOn_10 : decode cX8_setOn 10 = .ok (.aload_n 0, 1) := by decide +kernel
theorem dX8_setOn_11 : decode cX8_setOn 11 = .ok (.getfield 7, 3) := by decide +kernel
theorem dX8_setOn_14 : decode cX8_setOn 14 = .ok (.iload_n 1, 1) := by decide +kernel
theorem dX8_setOn_15 : decode cX8_setOn 15 = .ok (.iaload, 1) := by decide +kernel
theorem dX8_setOn_16 : decode cX8_setOn 16 = .ok (.if_icmp .ge 33, 3) := by decide +kernel
theorem dX8_setOn_19 : decode cX8_setOn 19 = .ok (.aload_n 0, 1) := by decide +kernel
theorem dX8_setOn_20 : decode cX8_setOn 20 = .ok (.getfield 13, 3) := by decide +kernel
theorem dX8_setOn_23 : decode cX8_setOn 23 = .ok (.bipush 6, 2) := by decide +kernel
theorem dX8_setOn_25 : decode cX8_setOn 25 = .ok (.iload_n 1, 1) := by decide +kernel
theorem dX8_setOn_26 : decode cX8_setOn 26 = .ok (.imul, 1) := by decide +kernel
theorem dX8_setOn_27 : decode cX8_setOn 27 = .ok (.iload 4, 2) := by decide +kernel
theorem dX8_setOn_29 : decode cX8_setOn 29 = .ok (.iadd, 1) := by decide +kernel
theorem dX8_setOn_30 : decode cX8_setOn 30 = .ok (.iaload, 1) := by decide +kernel
theorem dX8_setOn_31 : decode cX8_setOn 31 = .ok (.iload_n 2, 1) := by decide +kernel
theorem dX8_setOn_32 : decode cX8_setOn 32 = .ok (.if_icmp .gt 11, 3) := by decide +kernel
theorem dX8_setOn_35 : decode cX8_setOn 35 = .ok (.bipush 6, 2) := by decide +kernel
theorem dX8_setOn_37 : decode cX8_setOn 37 = .ok (.iload_n 1, 1) := by decide +kernel
theorem dX8_setOn_38 : decode cX8_setOn 38 = .ok (.imul, 1) := by decide +kernel
theorem dX8_setOn_39 : decode cX8_setOn 39 = .ok (.iload 4, 2) := by decide +kernel
theorem dX8_setOn_41 : decode cX8_setOn 41 = .ok (.iadd, 1) := by decide +kernel
theorem dX8_setOn_42 : decode cX8_setOn 42 = .ok (.istore_n 3, 1) := by decide +kernel
theorem dX8_setOn_43 : decode cX8_setOn 43 = .ok (.iinc 4 1, 3) := by decide +kernel
theorem dX8_setOn_46 : decode cX8_setOn 46 = .ok (.goto (-38), 3) := by decide +kernel
theorem dX8_setOn_49 : decode cX8_setOn 49 = .ok (.iload_n 3, 1) := by decide +kernel
theorem dX8_setOn_50 : decode cX8_setOn 50 = .ok (.ireturn, 1) := by decide +kernel
theorem dX8_isSum_0 : decode cX8_isSum 0 = .ok (.iload_n 0, 1) := by decide +kernel
theorem dX8_isSum_1 : decode cX8_isSum 1 = .ok (.iconst 1, 1) := by decide +kernel
theorem dX8_isSum_2 : decode cX8_isSum 2 = .ok (.if_icmp .lt 13, 3) := by decide +kernel
theorem dX8_isSum_5 : decode cX8_isSum 5 = .ok (.iload_n 0, 1) := by decide +kernel
theorem dX8_isSum_6 : decode cX8_isSum 6 = .ok (.ldc 150, 2) := by decide +kernel
theorem dX8_isSum_8 : decode cX8_isSum 8 = .ok (.if_icmp .gt 7, 3) := by decide +kernel
theorem dX8_isSum_11 : decode cX8_isSum 11 = .ok (.iconst 1, 1) := by decide +kernel
theorem dX8_isSum_12 : decode cX8_isSum 12 = .ok (.goto 4, 3) := by decide +kernel
theorem dX8_isSum_15 : decode cX8_isSum 15 = .ok (.iconst 0, 1) := by decide +kernel
theorem dX8_isSum_16 : decode cX8_isSum 16 = .ok (.ireturn, 1) := by decide +kernel
theorem dX8_isThousandth_0 : decode cX8_isThousandth 0 = .ok (.iload_n 0, 1) := by decide +kernel
theorem dX8_isThousandth_1 : decode cX8_isThousandth 1 = .ok (.iconst 1, 1) := by decide +kernel
theorem dX8_isThousandth_2 : decode cX8_isThousandth 2 = .ok (.if_icmp .lt 14, 3) := by decide +kernel
theorem dX8_isThousandth_5 : decode cX8_isThousandth 5 = .ok (.iload_n 0, 1) := by decide +kernel
theorem dX8_isThousandth_6 : decode cX8_isThousandth 6 = .ok (.sipush 1000, 3) := by decide +kernel
theorem dX8_isThousandth_9 : decode cX8_isThousandth 9 = .ok (.if_icmp .gt 7, 3) := by decide +kernel
theorem dX8_isThousandth_12 : decode cX8_isThousandth 12 = .ok (.iconst 1, 1) := by decide +kernel
theorem dX8_isThousandth_13 : decode cX8_isThousandth 13 = .ok (.goto 4, 3) := by decide +kernel
theorem dX8_isThousandth_16 : decode cX8_isThousandth 16 = .ok (.iconst 0, 1) := by decide +kernel
theorem dX8_isThousandth_17 : decode cX8_isThousandth 17 = .ok (.ireturn, 1) := by decide +kernel
set_option maxRecDepth 20000 in
theorem ggX8_areGood_X8_isHand : GoodIn wsX8_areGood wsX8_isHand := goodIn_r _ [4] (by decide +kernel) (by decide +kernel)
set_option maxRecDepth 20000 in
theorem gX8_areGood_X8_isHand : GoodIn wsX8_areGood (va_wsS RX8 132 yX8_isHand wsX8_isHand) := goodIn_app (goodIn_of _ (by decide +kernel)) ggX8_areGood_X8_isHand
set_option maxRecDepth 20000 in
theorem ggX8_areGood_X8_isThousandth : GoodIn wsX8_areGood wsX8_isThousandth := goodIn_r _ [7] (by decide +kernel) (by decide +kernel)
set_option maxRecDepth 20000 in
theorem gX8_areGood_X8_isThousandth : GoodIn wsX8_areGood (va_wsS RX8 151 yX8_isThousandth wsX8_isThousandth) := goodIn_app (goodIn_of _ (by decide +kernel)) ggX8_areGood_X8_isThousandth
set_option maxRecDepth 20000 in
theorem ggX8_areGood_X8_isSum : GoodIn wsX8_areGood wsX8_isSum := goodIn_r _ [10, 11] (by decide +kernel) (by decide +kernel)
set_option maxRecDepth 20000 in
theorem gX8_areGood_X8_isSum : GoodIn wsX8_areGood (va_wsS RX8 154 yX8_isSum wsX8_isSum) := goodIn_app (goodIn_of _ (by decide +kernel)) ggX8_areGood_X8_isSum
theorem dX8_areGood_0 : decode cX8_areGood 0 = .ok (.iload 5, 2) := by decide +kernel
theorem dX8_areGood_2 : decode cX8_areGood 2 = .ok (.invokestatic 132, 3) := by decide +kernel
theorem dX8_areGood_5 : decode cX8_areGood 5 = .ok (.ifCond .eq 13, 3) := by decide +kernel
theorem dX8_areGood_8 : decode cX8_areGood 8 = .ok (.iload 5, 2) := by decide +kernel
theorem dX8_areGood_10 : decode cX8_areGood 10 = .ok (.iload_n 1, 1) := by decide +kernel
theorem dX8_areGood_11 : decode cX8_areGood 11 = .ok (.if_icmp .eq 7, 3) := by decide +kernel
theorem dX8_areGood_14 : decode cX8_areGood 14 = .ok (.iconst 1, 1) := by decide +kernel
theorem dX8_areGood_15 : decode cX8_areGood 15 = .ok (.goto 4, 3) := by decide +kernel
theorem dX8_areGood_18 : decode cX8_areGood 18 = .ok (.iconst 0, 1) := by decide +kernel
theorem dX8_areGood_19 : decode cX8_areGood 19 = .ok (.istore 6, 2) := by decide +kernel
theorem dX8_areGood_21 : decode cX8_areGood 21 = .ok (.iload_n 0, 1) := by decide +kernel
theorem dX8_areGood_22 : decode cX8_areGood 22 = .ok (.tableswitch 119 0 4 #[34, 52, 52, 57, 95], 34) := by decide +kernel
theorem dX8_areGood_56 : decode cX8_areGood 56 = .ok (.iload_n 2, 1) := by decide +kernel
theorem dX8_areGood_57 : decode cX8_areGood 57 = .ok (.invokestatic 151, 3) := by decide +kernel
theorem dX8_areGood_60 : decode cX8_areGood 60 = .ok (.ifCond .eq 12, 3) := by decide +kernel
theorem dX8_areGood_63 : decode cX8_areGood 63 = .ok (.iload 6, 2) := by decide +kernel
theorem dX8_areGood_65 : decode cX8_areGood 65 = .ok (.ifCond .eq 7, 3) := by decide +kernel
theorem dX8_areGood_68 : decode cX8_areGood 68 = .ok (.iconst 1, 1) := by decide +kernel
theorem dX8_areGood_69 : decode cX8_areGood 69 = .ok (.goto 4, 3) := by decide +kernel
theorem dX8_areGood_72 : decode cX8_areGood 72 = .ok (.iconst 0, 1) := by decide +kernel
theorem dX8_areGood_73 : decode cX8_areGood 73 = .ok (.ireturn, 1) := by decide +kernel
theorem dX8_areGood_74 : decode cX8_areGood 74 = .ok (.iload_n 2, 1) := by decide +kernel
theorem dX8_areGood_75 : decode cX8_areGood 75 = .ok (.invokestatic 154, 3) := by decide +kernel
theorem dX8_areGood_78 : decode cX8_areGood 78 = .ok (.ireturn, 1) := by decide +kernel
theorem dX8_areGood_79 : decode cX8_areGood 79 = .ok (.iload_n 2, 1) := by decide +kernel
theorem dX8_areGood_80 : decode cX8_areGood 80 = .ok (.invokestatic 151, 3) := by decide +kernel
theorem dX8_areGood_83 : decode cX8_areGood 83 = .ok (.ifCond .eq 32, 3) := by decide +kernel
theorem dX8_areGood_86 : decode cX8_areGood 86 = .ok (.iload_n 3, 1) := by decide +kernel
theorem dX8_areGood_87 : decode cX8_areGood 87 = .ok (.invokestatic 154, 3) := by decide +kernel
theorem dX8_areGood_90 : decode cX8_areGood 90 = .ok (.ifCond .eq 25, 3) := by decide +kernel
theorem dX8_areGood_93 : decode cX8_areGood 93 = .ok (.iload 4, 2) := by decide +kernel
theorem dX8_areGood_95 : decode cX8_areGood 95 = .ok (.ifCond .lt 20, 3) := by decide +kernel
theorem dX8_areGood_98 : decode cX8_areGood 98 = .ok (.iload 4, 2) := by decide +kernel
theorem dX8_areGood_100 : decode cX8_areGood 100 = .ok (.sipush 1000, 3) := by decide +kernel
theorem dX8_areGood_103 : decode cX8_areGood 103 = .ok (.if_icmp .gt 12, 3) := by decide +kernel
theorem dX8_areGood_106 : decode cX8_areGood 106 = .ok (.iload 6, 2) := by decide +kernel
theorem dX8_areGood_108 : decode cX8_areGood 108 = .ok (.ifCond .eq 7, 3) := by decide +kernel
theorem dX8_areGood_111 : decode cX8_areGood 111 = .ok (.iconst 1, 1) := by decide +kernel
theorem dX8_areGood_112 : decode cX8_areGood 112 = .ok (.goto 4, 3) := by decide +kernel
theorem dX8_areGood_115 : decode cX8_areGood 115 = .ok (.iconst 0, 1) := by decide +kernel
theorem dX8_areGood_116 : decode cX8_areGood 116 = .ok (.ireturn, 1) := by decide +kernel
theorem dX8_areGood_117 : decode cX8_areGood 117 = .ok (.iload_n 2, 1) := by decide +kernel
theorem dX8_areGood_118 : decode cX8_areGood 118 = .ok (.invokestatic 151, 3) := by decide +kernel
theorem dX8_areGood_121 : decode cX8_areGood 121 = .ok (.ifCond .eq 18, 3) := by decide +kernel
theorem dX8_areGood_124 : decode cX8_areGood 124 = .ok (.iload_n 3, 1) := by decide +kernel
theorem dX8_areGood_125 : decode cX8_areGood 125 = .ok (.iconst 1, 1) := by decide +kernel
theorem dX8_areGood_126 : decode cX8_areGood 126 = .ok (.if_icmp .lt 13, 3) := by decide +kernel
theorem dX8_areGood_129 : decode cX8_areGood 129 = .ok (.iload_n 3, 1) := by decide +kernel
theorem dX8_areGood_130 : decode cX8_areGood 130 = .ok (.bipush 8, 2) := by decide +kernel
theorem dX8_areGood_132 : decode cX8_areGood 132 = .ok (.if_icmp .gt 7, 3) := by decide +kernel
theorem dX8_areGood_135 : decode cX8_areGood 135 = .ok (.iconst 1, 1) := by decide +kernel
theorem dX8_areGood_136 : decode cX8_areGood 136 = .ok (.goto 4, 3) := by decide +kernel
theorem dX8_areGood_139 : decode cX8_areGood 139 = .ok (.iconst 0, 1) := by decide +kernel
theorem dX8_areGood_140 : decode cX8_areGood 140 = .ok (.ireturn, 1) := by decide +kernel
theorem dX8_areGood_141 : decode cX8_areGood 141 = .ok (.iconst 0, 1) := by decide +kernel
theorem dX8_areGood_142 : decode cX8_areGood 142 = .ok (.ireturn, 1) := by decide +kernel
set_option maxRecDepth 20000 in
theorem ggX8_bargain_X8_isHand : GoodIn wsX8_bargain wsX8_isHand := goodIn_r _ [13] (by decide +kernel) (by decide +kernel)
set_option maxRecDepth 20000 in
theorem gX8_bargain_X8_isHand : GoodIn wsX8_bargain (va_wsS RX8 132 yX8_isHand wsX8_isHand) := goodIn_app (goodIn_of _ (by decide +kernel)) ggX8_bargain_X8_isHand
set_option maxRecDepth 20000 in
theorem ggX8_bargain_X8_isDay : GoodIn wsX8_bargain wsX8_isDay := goodIn_r _ [17, 18, 29, 30, 31, 32, 33, 34, 35, 36, 37, 38, 39, 40, 41, 42, 43, 44, 45, 46, 47, 48, 49, 50, 51, 52, 53, 54, 55, 56, 57, 58, 59, 60, 61, 62, 63, 64, 65, 66, 67, 68, 69, 70, 71, 72, 73, 74, 75] (by decide +kernel) (by decide +kernel)
set_option maxRecDepth 20000 in
theorem gX8_bargain_X8_isDay : GoodIn wsX8_bargain (wsV RX8 147 RX8 yX8_isDay wsX8_isDay) := goodIn_app (goodIn_of _ (by decide +kernel)) ggX8_bargain_X8_isDay
set_option maxRecDepth 20000 in
theorem ggX8_bargain_X8_areGood : GoodIn wsX8_bargain wsX8_areGood := goodIn_r _ [21, 10, 11, 12, 13, 22, 23, 24, 25, 26, 27, 28] (by decide +kernel) (by decide +kernel)
set_option maxRecDepth 20000 in
theorem gX8_bargain_X8_areGood : GoodIn wsX8_bargain (va_wsS RX8 160 yX8_areGood wsX8_areGood) := goodIn_app (goodIn_of _ (by decide +kernel)) ggX8_bargain_X8_areGood
theorem dX8_bargain_0 : decode cX8_bargain 0 = .ok (.iload_n 2, 1) := by decide +kernel
theorem dX8_bargain_1 : decode cX8_bargain 1 = .ok (.invokestatic 132, 3) := by decide +kernel
theorem dX8_bargain_4 : decode cX8_bargain 4 = .ok (.ifCond .eq 49, 3) := by decide +kernel
theorem dX8_bargain_7 : decode cX8_bargain 7 = .ok (.iload_n 3, 1) := by decide +kernel
theorem dX8_bargain_8 : decode cX8_bargain 8 = .ok (.iconst 1, 1) := by decide +kernel
theorem dX8_bargain_9 : decode cX8_bargain 9 = .ok (.if_icmp .lt 44, 3) := by decide +kernel
theorem dX8_bargain_12 : decode cX8_bargain 12 = .ok (.iload_n 3, 1) := by decide +kernel
theorem dX8_bargain_13 : decode cX8_bargain 13 = .ok (.sipush 4095, 3) := by decide +kernel
theorem dX8_bargain_16 : decode cX8_bargain 16 = .ok (.if_icmp .gt 37, 3) := by decide +kernel
theorem dX8_bargain_19 : decode cX8_bargain 19 = .ok (.aload_n 0, 1) := by decide +kernel
theorem dX8_bargain_20 : decode cX8_bargain 20 = .ok (.iload 4, 2) := by decide +kernel
theorem dX8_bargain_22 : decode cX8_bargain 22 = .ok (.invokevirtual 147, 3) := by decide +kernel
theorem dX8_bargain_25 : decode cX8_bargain 25 = .ok (.ifCond .eq 28, 3) := by decide +kernel
theorem dX8_bargain_28 : decode cX8_bargain 28 = .ok (.aload_n 0, 1) := by decide +kernel
theorem dX8_bargain_29 : decode cX8_bargain 29 = .ok (.getfield 157, 3) := by decide +kernel
theorem dX8_bargain_32 : decode cX8_bargain 32 = .ok (.bipush 24, 2) := by decide +kernel
theorem dX8_bargain_34 : decode cX8_bargain 34 = .ok (.if_icmp .eq 19, 3) := by decide +kernel
theorem dX8_bargain_37 : decode cX8_bargain 37 = .ok (.iload_n 1, 1) := by decide +kernel
theorem dX8_bargain_38 : decode cX8_bargain 38 = .ok (.iload_n 2, 1) := by decide +kernel
theorem dX8_bargain_39 : decode cX8_bargain 39 = .ok (.iload 5, 2) := by decide +kernel
theorem dX8_bargain_41 : decode cX8_bargain 41 = .ok (.iload 6, 2) := by decide +kernel
theorem dX8_bargain_43 : decode cX8_bargain 43 = .ok (.iload 7, 2) := by decide +kernel
theorem dX8_bargain_45 : decode cX8_bargain 45 = .ok (.iload 8, 2) := by decide +kernel
theorem dX8_bargain_47 : decode cX8_bargain 47 = .ok (.invokestatic 160, 3) := by decide +kernel
theorem dX8_bargain_50 : decode cX8_bargain 50 = .ok (.ifCond .ne 5, 3) := by decide +kernel
theorem dX8_bargain_53 : decode cX8_bargain 53 = .ok (.iconst (-1), 1) := by decide +kernel
theorem dX8_bargain_54 : decode cX8_bargain 54 = .ok (.ireturn, 1) := by decide +kernel
theorem dX8_bargain_55 : decode cX8_bargain 55 = .ok (.aload_n 0, 1) := by decide +kernel
theorem dX8_bargain_56 : decode cX8_bargain 56 = .ok (.getfield 157, 3) := by decide +kernel
theorem dX8_bargain_59 : decode cX8_bargain 59 = .ok (.istore 9, 2) := by decide +kernel
theorem dX8_bargain_61 : decode cX8_bargain 61 = .ok (.aload_n 0, 1) := by decide +kernel
theorem dX8_bargain_62 : decode cX8_bargain 62 = .ok (.getfield 22, 3) := by decide +kernel
theorem dX8_bargain_65 : decode cX8_bargain 65 = .ok (.iload 9, 2) := by decide +kernel
theorem dX8_bargain_67 : decode cX8_bargain 67 = .ok (.iload_n 1, 1) := by decide +kernel
theorem dX8_bargain_68 : decode cX8_bargain 68 = .ok (.iastore, 1) := by decide +kernel
theorem dX8_bargain_69 : decode cX8_bargain 69 = .ok (.aload_n 0, 1) := by decide +kernel
theorem dX8_bargain_70 : decode cX8_bargain 70 = .ok (.getfield 25, 3) := by decide +kernel
theorem dX8_bargain_73 : decode cX8_bargain 73 = .ok (.iload 9, 2) := by decide +kernel
theorem dX8_bargain_75 : decode cX8_bargain 75 = .ok (.iload_n 2, 1) := by decide +kernel
theorem dX8_bargain_76 : decode cX8_bargain 76 = .ok (.iastore, 1) := by decide +kernel
theorem dX8_bargain_77 : decode cX8_bargain 77 = .ok (.aload_n 0, 1) := by decide +kernel
theorem dX8_bargain_78 : decode cX8_bargain 78 = .ok (.getfield 28, 3) := by decide +kernel
theorem dX8_bargain_81 : decode cX8_bargain 81 = .ok (.iload 9, 2) := by decide +kernel
theorem dX8_bargain_83 : decode cX8_bargain 83 = .ok (.iload_n 3, 1) := by decide +kernel
theorem dX8_bargain_84 : decode cX8_bargain 84 = .ok (.iastore, 1) := by decide +kernel
theorem dX8_bargain_85 : decode cX8_bargain 85 = .ok (.aload_n 0, 1) := by decide +kernel
theorem dX8_bargain_86 : decode cX8_bargain 86 = .ok (.getfield 31, 3) := by decide +kernel
theorem dX8_bargain_89 : decode cX8_bargain 89 = .ok (.iload 9, 2) := by decide +kernel
theorem dX8_bargain_91 : decode cX8_bargain 91 = .ok (.iload 4, 2) := by decide +kernel
theorem dX8_bargain_93 : decode cX8_bargain 93 = .ok (.iastore, 1) := by decide +kernel
theorem dX8_bargain_94 : decode cX8_bargain 94 = .ok (.aload_n 0, 1) := by decide +kernel
theorem dX8_bargain_95 : decode cX8_bargain 95 = .ok (.getfield 34, 3) := by decide +kernel
theorem dX8_bargain_98 : decode cX8_bargain 98 = .ok (.iload 9, 2) := by decide +kernel
theorem dX8_bargain_100 : decode cX8_bargain 100 = .ok (.iload 5, 2) := by decide +kernel
theorem dX8_bargain_102 : decode cX8_bargain 102 = .ok (.iastore, 1) := by decide +kernel
theorem dX8_bargain_103 : decode cX8_bargain 103 = .ok (.aload_n 0, 1) := by decide +kernel
theorem dX8_bargain_104 : decode cX8_bargain 104 = .ok (.getfield 37, 3) := by decide +kernel
theorem dX8_bargain_107 : decode cX8_bargain 107 = .ok (.iload 9, 2) := by decide +kernel
theorem dX8_bargain_109 : decode cX8_bargain 109 = .ok (.iload 6, 2) := by decide +kernel
theorem dX8_bargain_111 : decode cX8_bargain 111 = .ok (.iastore, 1) := by decide +kernel
theorem dX8_bargain_112 : decode cX8_bargain 112 = .ok (.aload_n 0, 1) := by decide +kernel
theorem dX8_bargain_113 : decode cX8_bargain 113 = .ok (.getfield 40, 3) := by decide +kernel
theorem dX8_bargain_116 : decode cX8_bargain 116 = .ok (.iload 9, 2) := by decide +kernel
theorem dX8_bargain_118 : decode cX8_bargain 118 = .ok (.iload 7, 2) := by decide +kernel
theorem dX8_bargain_120 : decode cX8_bargain 120 = .ok (.iastore, 1) := by decide +kernel
theorem dX8_bargain_121 : decode cX8_bargain 121 = .ok (.aload_n 0, 1) := by decide +kernel
theorem dX8_bargain_122 : decode cX8_bargain 122 = .ok (.getfield 43, 3) := by decide +kernel
theorem dX8_bargain_125 : decode cX8_bargain 125 = .ok (.iload 9, 2) := by decide +kernel
theorem dX8_bargain_127 : decode cX8_bargain 127 = .ok (.iload 8, 2) := by decide +kernel
theorem dX8_bargain_129 : decode cX8_bargain 129 = .ok (.iastore, 1) := by decide +kernel
theorem dX8_bargain_130 : decode cX8_bargain 130 = .ok (.aload_n 0, 1) := by decide +kernel
theorem dX8_bargain_131 : decode cX8_bargain 131 = .ok (.iload 9, 2) := by decide +kernel
theorem dX8_bargain_133 : decode cX8_bargain 133 = .ok (.iconst 1, 1) := by decide +kernel
theorem dX8_bargain_134 : decode cX8_bargain 134 = .ok (.iadd, 1) := by decide +kernel
theorem dX8_bargain_135 : decode cX8_bargain 135 = .ok (.putfield 157, 3) := by decide +kernel
theorem dX8_bargain_138 : decode cX8_bargain 138 = .ok (.iload 9, 2) := by decide +kernel
theorem dX8_bargain_140 : decode cX8_bargain 140 = .ok (.ireturn, 1) := by decide +kernel
theorem dX8_areCoins_0 : decode cX8_areCoins 0 = .ok (.iload_n 0, 1) := by decide +kernel
theorem dX8_areCoins_1 : decode cX8_areCoins 1 = .ok (.ifCond .lt 13, 3) := by decide +kernel
theorem dX8_areCoins_4 : decode cX8_areCoins 4 = .ok (.iload_n 0, 1) := by decide +kernel
theorem dX8_areCoins_5 : decode cX8_areCoins 5 = .ok (.ldc 150, 2) := by decide +kernel
theorem dX8_areCoins_7 : decode cX8_areCoins 7 = .ok (.if_icmp .gt 7, 3) := by decide +kernel
theorem dX8_areCoins_10 : decode cX8_areCoins 10 = .ok (.iconst 1, 1) := by decide +kernel
theorem dX8_areCoins_11 : decode cX8_areCoins 11 = .ok (.goto 4, 3) := by decide +kernel
theorem dX8_areCoins_14 : decode cX8_areCoins 14 = .ok (.iconst 0, 1) := by decide +kernel
theorem dX8_areCoins_15 : decode cX8_areCoins 15 = .ok (.ireturn, 1) := by decide +kernel
set_option maxRecDepth 20000 in
theorem ggX8_isReport_X8_isWork : GoodIn wsX8_isReport wsX8_isWork := goodIn_r _ [5] (by decide +kernel) (by decide +kernel)
set_option maxRecDepth 20000 in
theorem gX8_isReport_X8_isWork : GoodIn wsX8_isReport (va_wsS RX8 140 yX8_isWork wsX8_isWork) := goodIn_app (goodIn_of _ (by decide +kernel)) ggX8_isReport_X8_isWork
set_option maxRecDepth 20000 in
theorem ggX8_isReport_X8_areCoins : GoodIn wsX8_isReport wsX8_areCoins := goodIn_r _ [8, 9] (by decide +kernel) (by decide +kernel)
set_option maxRecDepth 20000 in
theorem gX8_isReport_X8_areCoins : GoodIn wsX8_isReport (va_wsS RX8 164 yX8_areCoins wsX8_areCoins) := goodIn_app (goodIn_of _ (by decide +kernel)) ggX8_isReport_X8_areCoins
theorem dX8_isReport_0 : decode cX8_isReport 0 = .ok (.iload_n 1, 1) := by decide +kernel
theorem dX8_isReport_1 : decode cX8_isReport 1 = .ok (.invokestatic 140, 3) := by decide +kernel
theorem dX8_isReport_4 : decode cX8_isReport 4 = .ok (.ifCond .eq 43, 3) := by decide +kernel
theorem dX8_isReport_7 : decode cX8_isReport 7 = .ok (.aload_n 0, 1) := by decide +kernel
theorem dX8_isReport_8 : decode cX8_isReport 8 = .ok (.getfield 7, 3) := by decide +kernel
theorem dX8_isReport_11 : decode cX8_isReport 11 = .ok (.iload_n 1, 1) := by decide +kernel
theorem dX8_isReport_12 : decode cX8_isReport 12 = .ok (.iaload, 1) := by decide +kernel
theorem dX8_isReport_13 : decode cX8_isReport 13 = .ok (.ifCond .le 34, 3) := by decide +kernel
theorem dX8_isReport_16 : decode cX8_isReport 16 = .ok (.iload_n 2, 1) := by decide +kernel
theorem dX8_isReport_17 : decode cX8_isReport 17 = .ok (.invokestatic 164, 3) := by decide +kernel
theorem dX8_isReport_20 : decode cX8_isReport 20 = .ok (.ifCond .eq 27, 3) := by decide +kernel
theorem dX8_isReport_23 : decode cX8_isReport 23 = .ok (.iload 5, 2) := by decide +kernel
theorem dX8_isReport_25 : decode cX8_isReport 25 = .ok (.ifCond .eq 18, 3) := by decide +kernel
theorem dX8_isReport_28 : decode cX8_isReport 28 = .ok (.iload_n 3, 1) := by decide +kernel
theorem dX8_isReport_29 : decode cX8_isReport 29 = .ok (.invokestatic 164, 3) := by decide +kernel
theorem dX8_isReport_32 : decode cX8_isReport 32 = .ok (.ifCond .eq 15, 3) := by decide +kernel
theorem dX8_isReport_35 : decode cX8_isReport 35 = .ok (.iload 4, 2) := by decide +kernel
theorem dX8_isReport_37 : decode cX8_isReport 37 = .ok (.invokestatic 164, 3) := by decide +kernel
theorem dX8_isReport_40 : decode cX8_isReport 40 = .ok (.ifCond .eq 7, 3) := by decide +kernel
theorem dX8_isReport_43 : decode cX8_isReport 43 = .ok (.iconst 1, 1) := by decide +kernel
theorem dX8_isReport_44 : decode cX8_isReport 44 = .ok (.goto 4, 3) := by decide +kernel
theorem dX8_isReport_47 : decode cX8_isReport 47 = .ok (.iconst 0, 1) := by decide +kernel
theorem dX8_isReport_48 : decode cX8_isReport 48 = .ok (.ireturn, 1) := by decide +kernel
theorem dX8_puts_0 : decode cX8_puts 0 = .ok (.bipush 12, 2) := by decide +kernel
theorem dX8_puts_2 : decode cX8_puts 2 = .ok (.iload_n 1, 1) := by decide +kernel
theorem dX8_puts_3 : decode cX8_puts 3 = .ok (.imul, 1) := by decide +kernel
theorem dX8_puts_4 : decode cX8_puts 4 = .ok (.iload_n 2, 1) := by decide +kernel
theorem dX8_puts_5 : decode cX8_puts 5 = .ok (.iadd, 1) := by decide +kernel
theorem dX8_puts_6 : decode cX8_puts 6 = .ok (.istore 7, 2) := by decide +kernel
theorem dX8_puts_8 : decode cX8_puts 8 = .ok (.aload_n 0, 1) := by decide +kernel
theorem dX8_puts_9 : decode cX8_puts 9 = .ok (.getfield 55, 3) := by decide +kernel
theorem dX8_puts_12 : decode cX8_puts 12 = .ok (.iload 7, 2) := by decide +kernel
theorem dX8_puts_14 : decode cX8_puts 14 = .ok (.iaload, 1) := by decide +kernel
theorem dX8_puts_15 : decode cX8_puts 15 = .ok (.ifCond .ne 34, 3) := by decide +kernel
theorem dX8_puts_18 : decode cX8_puts 18 = .ok (.aload_n 0, 1) := by decide +kernel
theorem dX8_puts_19 : decode cX8_puts 19 = .ok (.getfield 58, 3) := by decide +kernel
theorem dX8_puts_22 : decode cX8_puts 22 = .ok (.bipush 12, 2) := by decide +kernel
theorem dX8_puts_24 : decode cX8_puts 24 = .ok (.iload_n 1, 1) := by decide +kernel
theorem dX8_puts_25 : decode cX8_puts 25 = .ok (.imul, 1) := by decide +kernel
theorem dX8_puts_26 : decode cX8_puts 26 = .ok (.aload_n 0, 1) := by decide +kernel
theorem dX8_puts_27 : decode cX8_puts 27 = .ok (.getfield 61, 3) := by decide +kernel
theorem dX8_puts_30 : decode cX8_puts 30 = .ok (.iload_n 1, 1) := by decide +kernel
theorem dX8_puts_31 : decode cX8_puts 31 = .ok (.iaload, 1) := by decide +kernel
theorem dX8_puts_32 : decode cX8_puts 32 = .ok (.iadd, 1) := by decide +kernel
theorem dX8_puts_33 : decode cX8_puts 33 = .ok (.iload_n 2, 1) := by decide +kernel
theorem dX8_puts_34 : decode cX8_puts 34 = .ok (.iastore, 1) := by decide +kernel
theorem dX8_puts_35 : decode cX8_puts 35 = .ok (.aload_n 0, 1) := by decide +kernel
theorem dX8_puts_36 : decode cX8_puts 36 = .ok (.getfield 61, 3) := by decide +kernel
theorem dX8_puts_39 : decode cX8_puts 39 = .ok (.iload_n 1, 1) := by decide +kernel
theorem dX8_puts_40 : decode cX8_puts 40 = .ok (.aload_n 0, 1) := by decide +kernel
theorem dX8_puts_41 : decode cX8_puts 41 = .ok (.getfield 61, 3) := by decide +kernel
theorem dX8_puts_44 : decode cX8_puts 44 = .ok (.iload_n 1, 1) := by decide +kernel
theorem dX8_puts_45 : decode cX8_puts 45 = .ok (.iaload, 1) := by decide +kernel
theorem dX8_puts_46 : decode cX8_puts 46 = .ok (.iconst 1, 1) := by decide +kernel
theorem dX8_puts_47 : decode cX8_puts 47 = .ok (.iadd, 1) := by decide +kernel
theorem dX8_puts_48 : decode cX8_puts 48 = .ok (.iastore, 1) := by decide +kernel
theorem dX8_puts_49 : decode cX8_puts 49 = .ok (.aload_n 0, 1) := by decide +kernel
theorem dX8_puts_50 : decode cX8_puts 50 = .ok (.getfield 55, 3) := by decide +kernel
theorem dX8_puts_53 : decode cX8_puts 53 = .ok (.iload 7, 2) := by decide +kernel
theorem dX8_puts_55 : decode cX8_puts 55 = .ok (.iload 6, 2) := by decide +kernel
theorem dX8_puts_57 : decode cX8_puts 57 = .ok (.ifCond .eq 7, 3) := by decide +kernel
theorem dX8_puts_60 : decode cX8_puts 60 = .ok (.iconst 2, 1) := by decide +kernel
theorem dX8_puts_61 : decode cX8_puts 61 = .ok (.goto 4, 3) := by decide +kernel
theorem dX8_puts_64 : decode cX8_puts 64 = .ok (.iconst 1, 1) := by decide +kernel
theorem dX8_puts_65 : decode cX8_puts 65 = .ok (.iastore, 1) := by decide +kernel
theorem dX8_puts_66 : decode cX8_puts 66 = .ok (.aload_n 0, 1) := by decide +kernel
theorem dX8_puts_67 : decode cX8_puts 67 = .ok (.getfield 46, 3) := by decide +kernel
theorem dX8_puts_70 : decode cX8_puts 70 = .ok (.iload 7, 2) := by decide +kernel
theorem dX8_puts_72 : decode cX8_puts 72 = .ok (.iload_n 3, 1) := by decide +kernel
theorem dX8_puts_73 : decode cX8_puts 73 = .ok (.iastore, 1) := by decide +kernel
theorem dX8_puts_74 : decode cX8_puts 74 = .ok (.aload_n 0, 1) := by decide +kernel
theorem dX8_puts_75 : decode cX8_puts 75 = .ok (.getfield 49, 3) := by decide +kernel
theorem dX8_puts_78 : decode cX8_puts 78 = .ok (.iload 7, 2) := by decide +kernel
theorem dX8_puts_80 : decode cX8_puts 80 = .ok (.iload 6, 2) := by decide +kernel
theorem dX8_puts_82 : decode cX8_puts 82 = .ok (.ifCond .eq 8, 3) := by decide +kernel
theorem dX8_puts_85 : decode cX8_puts 85 = .ok (.iload 4, 2) := by decide +kernel
theorem dX8_puts_87 : decode cX8_puts 87 = .ok (.goto 4, 3) := by decide +kernel
theorem dX8_puts_90 : decode cX8_puts 90 = .ok (.iconst 0, 1) := by decide +kernel
theorem dX8_puts_91 : decode cX8_puts 91 = .ok (.iastore, 1) := by decide +kernel
theorem dX8_puts_92 : decode cX8_puts 92 = .ok (.aload_n 0, 1) := by decide +kernel
theorem dX8_puts_93 : decode cX8_puts 93 = .ok (.getfield 52, 3) := by decide +kernel
theorem dX8_puts_96 : decode cX8_puts 96 = .ok (.iload 7, 2) := by decide +kernel
theorem dX8_puts_98 : decode cX8_puts 98 = .ok (.iload 6, 2) := by decide +kernel
theorem dX8_puts_100 : decode cX8_puts 100 = .ok (.ifCond .eq 8, 3) := by decide +kernel
theorem dX8_puts_103 : decode cX8_puts 103 = .ok (.iload 5, 2) := by decide +kernel
theorem dX8_puts_105 : decode cX8_puts 105 = .ok (.goto 4, 3) := by decide +kernel
theorem dX8_puts_108 : decode cX8_puts 108 = .ok (.iconst 0, 1) := by decide +kernel
theorem dX8_puts_109 : decode cX8_puts 109 = .ok (.iastore, 1) := by decide +kernel
theorem dX8_puts_110 : decode cX8_puts 110 = .ok (.return_, 1) := by decide +kernel
set_option maxRecDepth 20000 in
theorem ggX8_report_X8_isReport : GoodIn wsX8_report wsX8_isReport := goodIn_r _ [6, 7, 8, 9, 5, 10, 11, 12, 13, 14, 25, 26, 27, 28, 29, 30, 31, 32, 33, 34, 35, 36, 37, 38, 39, 40, 41, 42, 43, 44, 45, 46, 47, 48, 49, 50, 51, 52, 53, 54, 55, 56, 57, 58, 59, 60, 61, 62, 63, 64, 65, 66, 67, 68, 69, 70, 71] (by decide +kernel) (by decide +kernel)
set_option maxRecDepth 20000 in
theorem gX8_report_X8_isReport : GoodIn wsX8_report (wsV RX8 167 RX8 yX8_isReport wsX8_isReport) := goodIn_app (goodIn_of _ (by decide +kernel)) ggX8_report_X8_isReport
set_option maxRecDepth 20000 in
theorem ggX8_report_X8_puts : GoodIn wsX8_report wsX8_puts := goodIn_r _ [18, 19, 20, 21, 22, 23, 24, 25, 26, 27, 28, 29, 30, 31, 32, 33, 34, 35, 36, 37, 38, 39, 40, 41, 42, 43, 44, 45, 46, 47, 48, 49, 50, 51, 52, 53, 54, 55, 56, 57, 58, 59, 60, 61, 62, 63, 64, 65, 66, 67, 68, 69, 70, 71] (by decide +kernel) (by decide +kernel)
set_option maxRecDepth 20000 in
theorem gX8_report_X8_puts : GoodIn wsX8_report (wsV RX8 171 RX8 yX8_puts wsX8_puts) := goodIn_app (goodIn_of _ (by decide +kernel)) ggX8_report_X8_puts
theorem dX8_report_0 : decode cX8_report 0 = .ok (.aload_n 0, 1) := by decide +kernel
theorem dX8_report_1 : decode cX8_report 1 = .ok (.getfield 136, 3) := by decide +kernel
theorem dX8_report_4 : decode cX8_report 4 = .ok (.bipush 40, 2) := by decide +kernel
theorem dX8_report_6 : decode cX8_report 6 = .ok (.if_icmp .eq 17, 3) := by decide +kernel
theorem dX8_report_9 : decode cX8_report 9 = .ok (.aload_n 0, 1) := by decide +kernel
theorem dX8_report_10 : decode cX8_report 10 = .ok (.iload_n 1, 1) := by decide +kernel
theorem dX8_report_11 : decode cX8_report 11 = .ok (.iload_n 2, 1) := by decide +kernel
theorem dX8_report_12 : decode cX8_report 12 = .ok (.iload_n 3, 1) := by decide +kernel
theorem dX8_report_13 : decode cX8_report 13 = .ok (.iload 4, 2) := by decide +kernel
theorem dX8_report_15 : decode cX8_report 15 = .ok (.iload 5, 2) := by decide +kernel
theorem dX8_report_17 : decode cX8_report 17 = .ok (.invokevirtual 167, 3) := by decide +kernel
theorem dX8_report_20 : decode cX8_report 20 = .ok (.ifCond .ne 5, 3) := by decide +kernel
theorem dX8_report_23 : decode cX8_report 23 = .ok (.iconst 0, 1) := by decide +kernel
theorem dX8_report_24 : decode cX8_report 24 = .ok (.ireturn, 1) := by decide +kernel
theorem dX8_report_25 : decode cX8_report 25 = .ok (.aload_n 0, 1) := by decide +kernel
theorem dX8_report_26 : decode cX8_report 26 = .ok (.aload_n 0, 1) := by decide +kernel
theorem dX8_report_27 : decode cX8_report 27 = .ok (.getfield 136, 3) := by decide +kernel
theorem dX8_report_30 : decode cX8_report 30 = .ok (.iload_n 1, 1) := by decide +kernel
theorem dX8_report_31 : decode cX8_report 31 = .ok (.iload_n 2, 1) := by decide +kernel
theorem dX8_report_32 : decode cX8_report 32 = .ok (.iload_n 3, 1) := by decide +kernel
theorem dX8_report_33 : decode cX8_report 33 = .ok (.iload 4, 2) := by decide +kernel
theorem dX8_report_35 : decode cX8_report 35 = .ok (.iload 5, 2) := by decide +kernel
theorem dX8_report_37 : decode cX8_report 37 = .ok (.invokevirtual 171, 3) := by decide +kernel
theorem dX8_report_40 : decode cX8_report 40 = .ok (.iconst 1, 1) := by decide +kernel
theorem dX8_report_41 : decode cX8_report 41 = .ok (.ireturn, 1) := by decide +kernel
set_option maxRecDepth 20000 in
theorem ggX8_mend_X8_isReport : GoodIn wsX8_mend wsX8_isReport := goodIn_r _ [7, 8, 9, 10, 6, 11, 12, 13, 14, 15, 26, 27, 28, 29, 30, 31, 32, 33, 34, 35, 36, 37, 38, 39, 40, 41, 42, 43, 44, 45, 46, 47, 48, 49, 50, 51, 52, 53, 54, 55, 56, 57, 58, 59, 60, 61, 62, 63, 64, 65, 66, 67, 68, 69, 70, 71, 72] (by decide +kernel) (by decide +kernel)
set_option maxRecDepth 20000 in
theorem gX8_mend_X8_isReport : GoodIn wsX8_mend (wsV RX8 167 RX8 yX8_isReport wsX8_isReport) := goodIn_app (goodIn_of _ (by decide +kernel)) ggX8_mend_X8_isReport
set_option maxRecDepth 20000 in
theorem ggX8_mend_X8_puts : GoodIn wsX8_mend wsX8_puts := goodIn_r _ [19, 20, 21, 22, 23, 24, 25, 26, 27, 28, 29, 30, 31, 32, 33, 34, 35, 36, 37, 38, 39, 40, 41, 42, 43, 44, 45, 46, 47, 48, 49, 50, 51, 52, 53, 54, 55, 56, 57, 58, 59, 60, 61, 62, 63, 64, 65, 66, 67, 68, 69, 70, 71, 72] (by decide +kernel) (by decide +kernel)
set_option maxRecDepth 20000 in
theorem gX8_mend_X8_puts : GoodIn wsX8_mend (wsV RX8 171 RX8 yX8_puts wsX8_puts) := goodIn_app (goodIn_of _ (by decide +kernel)) ggX8_mend_X8_puts
theorem dX8_mend_0 : decode cX8_mend 0 = .ok (.iload_n 1, 1) := by decide +kernel
theorem dX8_mend_1 : decode cX8_mend 1 = .ok (.ifCond .lt 26, 3) := by decide +kernel
theorem dX8_mend_4 : decode cX8_mend 4 = .ok (.iload_n 1, 1) := by decide +kernel
theorem dX8_mend_5 : decode cX8_mend 5 = .ok (.aload_n 0, 1) := by decide +kernel
theorem dX8_mend_6 : decode cX8_mend 6 = .ok (.getfield 136, 3) := by decide +kernel
theorem dX8_mend_9 : decode cX8_mend 9 = .ok (.if_icmp .ge 18, 3) := by decide +kernel
theorem dX8_mend_12 : decode cX8_mend 12 = .ok (.aload_n 0, 1) := by decide +kernel
theorem dX8_mend_13 : decode cX8_mend 13 = .ok (.iload_n 2, 1) := by decide +kernel
theorem dX8_mend_14 : decode cX8_mend 14 = .ok (.iload_n 3, 1) := by decide +kernel
theorem dX8_mend_15 : decode cX8_mend 15 = .ok (.iload 4, 2) := by decide +kernel
theorem dX8_mend_17 : decode cX8_mend 17 = .ok (.iload 5, 2) := by decide +kernel
theorem dX8_mend_19 : decode cX8_mend 19 = .ok (.iload 6, 2) := by decide +kernel
theorem dX8_mend_21 : decode cX8_mend 21 = .ok (.invokevirtual 167, 3) := by decide +kernel
theorem dX8_mend_24 : decode cX8_mend 24 = .ok (.ifCond .ne 5, 3) := by decide +kernel
theorem dX8_mend_27 : decode cX8_mend 27 = .ok (.iconst 0, 1) := by decide +kernel
theorem dX8_mend_28 : decode cX8_mend 28 = .ok (.ireturn, 1) := by decide +kernel
theorem dX8_mend_29 : decode cX8_mend 29 = .ok (.aload_n 0, 1) := by decide +kernel
theorem dX8_mend_30 : decode cX8_mend 30 = .ok (.iload_n 1, 1) := by decide +kernel
theorem dX8_mend_31 : decode cX8_mend 31 = .ok (.iload_n 2, 1) := by decide +kernel
theorem dX8_mend_32 : decode cX8_mend 32 = .ok (.iload_n 3, 1) := by decide +kernel
theorem dX8_mend_33 : decode cX8_mend 33 = .ok (.iload 4, 2) := by decide +kernel
theorem dX8_mend_35 : decode cX8_mend 35 = .ok (.iload 5, 2) := by decide +kernel
theorem dX8_mend_37 : decode cX8_mend 37 = .ok (.iload 6, 2) := by decide +kernel
theorem dX8_mend_39 : decode cX8_mend 39 = .ok (.invokevirtual 171, 3) := by decide +kernel
theorem dX8_mend_42 : decode cX8_mend 42 = .ok (.aload_n 0, 1) := by decide +kernel
theorem dX8_mend_43 : decode cX8_mend 43 = .ok (.getfield 67, 3) := by decide +kernel
theorem dX8_mend_46 : decode cX8_mend 46 = .ok (.bipush 12, 2) := by decide +kernel
theorem dX8_mend_48 : decode cX8_mend 48 = .ok (.iload_n 1, 1) := by decide +kernel
theorem dX8_mend_49 : decode cX8_mend 49 = .ok (.imul, 1) := by decide +kernel
theorem dX8_mend_50 : decode cX8_mend 50 = .ok (.iload_n 2, 1) := by decide +kernel
theorem dX8_mend_51 : decode cX8_mend 51 = .ok (.iadd, 1) := by decide +kernel
theorem dX8_mend_52 : decode cX8_mend 52 = .ok (.iconst 1, 1) := by decide +kernel
theorem dX8_mend_53 : decode cX8_mend 53 = .ok (.bastore, 1) := by decide +kernel
theorem dX8_mend_54 : decode cX8_mend 54 = .ok (.iconst 1, 1) := by decide +kernel
theorem dX8_mend_55 : decode cX8_mend 55 = .ok (.ireturn, 1) := by decide +kernel
theorem dX8_tear_0 : decode cX8_tear 0 = .ok (.iload_n 1, 1) := by decide +kernel
theorem dX8_tear_1 : decode cX8_tear 1 = .ok (.iconst (-1), 1) := by decide +kernel
theorem dX8_tear_2 : decode cX8_tear 2 = .ok (.if_icmp .lt 18, 3) := by decide +kernel
theorem dX8_tear_5 : decode cX8_tear 5 = .ok (.iload_n 1, 1) := by decide +kernel
theorem dX8_tear_6 : decode cX8_tear 6 = .ok (.bipush 12, 2) := by decide +kernel
theorem dX8_tear_8 : decode cX8_tear 8 = .ok (.if_icmp .gt 12, 3) := by decide +kernel
theorem dX8_tear_11 : decode cX8_tear 11 = .ok (.aload_n 0, 1) := by decide +kernel
theorem dX8_tear_12 : decode cX8_tear 12 = .ok (.getfield 136, 3) := by decide +kernel
theorem dX8_tear_15 : decode cX8_tear 15 = .ok (.bipush 40, 2) := by decide +kernel
theorem dX8_tear_17 : decode cX8_tear 17 = .ok (.if_icmp .ne 5, 3) := by decide +kernel
theorem dX8_tear_20 : decode cX8_tear 20 = .ok (.iconst 0, 1) := by decide +kernel
theorem dX8_tear_21 : decode cX8_tear 21 = .ok (.ireturn, 1) := by decide +kernel
theorem dX8_tear_22 : decode cX8_tear 22 = .ok (.aload_n 0, 1) := by decide +kernel
theorem dX8_tear_23 : decode cX8_tear 23 = .ok (.getfield 64, 3) := by decide +kernel
theorem dX8_tear_26 : decode cX8_tear 26 = .ok (.aload_n 0, 1) := by decide +kernel
theorem dX8_tear_27 : decode cX8_tear 27 = .ok (.getfield 136, 3) := by decide +kernel
theorem dX8_tear_30 : decode cX8_tear 30 = .ok (.iload_n 1, 1) := by decide +kernel
theorem dX8_tear_31 : decode cX8_tear 31 = .ok (.ifCond .ge 7, 3) := by decide +kernel
theorem dX8_tear_34 : decode cX8_tear 34 = .ok (.iconst 0, 1) := by decide +kernel
theorem dX8_tear_35 : decode cX8_tear 35 = .ok (.goto 4, 3) := by decide +kernel
theorem dX8_tear_38 : decode cX8_tear 38 = .ok (.iload_n 1, 1) := by decide +kernel
theorem dX8_tear_39 : decode cX8_tear 39 = .ok (.iastore, 1) := by decide +kernel
theorem dX8_tear_40 : decode cX8_tear 40 = .ok (.iconst 1, 1) := by decide +kernel
theorem dX8_tear_41 : decode cX8_tear 41 = .ok (.ireturn, 1) := by decide +kernel
theorem dX8_isOpen_0 : decode cX8_isOpen 0 = .ok (.iload_n 2, 1) := by decide +kernel
theorem dX8_isOpen_1 : decode cX8_isOpen 1 = .ok (.aload_n 0, 1) := by decide +kernel
theorem dX8_isOpen_2 : decode cX8_isOpen 2 = .ok (.getfield 64, 3) := by decide +kernel
theorem dX8_isOpen_5 : decode cX8_isOpen 5 = .ok (.iload_n 1, 1) := by decide +kernel
theorem dX8_isOpen_6 : decode cX8_isOpen 6 = .ok (.iaload, 1) := by decide +kernel
theorem dX8_isOpen_7 : decode cX8_isOpen 7 = .ok (.if_icmp .lt 21, 3) := by decide +kernel
theorem dX8_isOpen_10 : decode cX8_isOpen 10 = .ok (.aload_n 0, 1) := by decide +kernel
theorem dX8_isOpen_11 : decode cX8_isOpen 11 = .ok (.getfield 67, 3) := by decide +kernel
theorem dX8_isOpen_14 : decode cX8_isOpen 14 = .ok (.bipush 12, 2) := by decide +kernel
theorem dX8_isOpen_16 : decode cX8_isOpen 16 = .ok (.iload_n 1, 1) := by decide +kernel
theorem dX8_isOpen_17 : decode cX8_isOpen 17 = .ok (.imul, 1) := by decide +kernel
theorem dX8_isOpen_18 : decode cX8_isOpen 18 = .ok (.iload_n 2, 1) := by decide +kernel
theorem dX8_isOpen_19 : decode cX8_isOpen 19 = .ok (.iadd, 1) := by decide +kernel
theorem dX8_isOpen_20 : decode cX8_isOpen 20 = .ok (.baload, 1) := by decide +kernel
theorem dX8_isOpen_21 : decode cX8_isOpen 21 = .ok (.ifCond .ne 7, 3) := by decide +kernel
theorem dX8_isOpen_24 : decode cX8_isOpen 24 = .ok (.iconst 1, 1) := by decide +kernel
theorem dX8_isOpen_25 : decode cX8_isOpen 25 = .ok (.goto 4, 3) := by decide +kernel
theorem dX8_isOpen_28 : decode cX8_isOpen 28 = .ok (.iconst 0, 1) := by decide +kernel
theorem dX8_isOpen_29 : decode cX8_isOpen 29 = .ok (.ireturn, 1) := by decide +kernel
set_option maxRecDepth 20000 in
theorem ggX8_told_X8_isWork : GoodIn wsX8_told wsX8_isWork := goodIn_r _ [11] (by decide +kernel) (by decide +kernel)
set_option maxRecDepth 20000 in
theorem gX8_told_X8_isWork : GoodIn wsX8_told (va_wsS RX8 140 yX8_isWork wsX8_isWork) := goodIn_app (goodIn_of _ (by decide +kernel)) ggX8_told_X8_isWork
set_option maxRecDepth 20000 in
theorem ggX8_told_X8_isOpen : GoodIn wsX8_told wsX8_isOpen := goodIn_r _ [15, 16, 17, 18, 19, 20, 21, 22, 23, 24, 25, 26, 27, 28, 29, 30, 31, 32, 33, 34, 35, 36, 37, 38, 39, 40, 41, 42, 43, 44, 45, 46, 47, 48, 49, 50, 51, 52, 53, 54, 55, 56, 57, 58, 59, 60, 61, 62, 63, 64] (by decide +kernel) (by decide +kernel)
set_option maxRecDepth 20000 in
theorem gX8_told_X8_isOpen : GoodIn wsX8_told (wsV RX8 175 RX8 yX8_isOpen wsX8_isOpen) := goodIn_app (goodIn_of _ (by decide +kernel)) ggX8_told_X8_isOpen
theorem dX8_told_0 : decode cX8_told 0 = .ok (.iload_n 1, 1) := by decide +kernel
theorem dX8_told_1 : decode cX8_told 1 = .ok (.ifCond .lt 24, 3) := by decide +kernel
theorem dX8_told_4 : decode cX8_told 4 = .ok (.iload_n 1, 1) := by decide +kernel
theorem dX8_told_5 : decode cX8_told 5 = .ok (.aload_n 0, 1) := by decide +kernel
theorem dX8_told_6 : decode cX8_told 6 = .ok (.getfield 136, 3) := by decide +kernel
theorem dX8_told_9 : decode cX8_told 9 = .ok (.if_icmp .gt 16, 3) := by decide +kernel
theorem dX8_told_12 : decode cX8_told 12 = .ok (.iload_n 1, 1) := by decide +kernel
theorem dX8_told_13 : decode cX8_told 13 = .ok (.bipush 40, 2) := by decide +kernel
theorem dX8_told_15 : decode cX8_told 15 = .ok (.if_icmp .ge 10, 3) := by decide +kernel
theorem dX8_told_18 : decode cX8_told 18 = .ok (.iload_n 2, 1) := by decide +kernel
theorem dX8_told_19 : decode cX8_told 19 = .ok (.invokestatic 140, 3) := by decide +kernel
theorem dX8_told_22 : decode cX8_told 22 = .ok (.ifCond .ne 5, 3) := by decide +kernel
theorem dX8_told_25 : decode cX8_told 25 = .ok (.iconst (-1), 1) := by decide +kernel
theorem dX8_told_26 : decode cX8_told 26 = .ok (.ireturn, 1) := by decide +kernel
theorem dX8_told_27 : decode cX8_told 27 = .ok (.bipush 12, 2) := by decide +kernel
theorem dX8_told_29 : decode cX8_told 29 = .ok (.iload_n 1, 1) := by decide +kernel
theorem dX8_told_30 : decode cX8_told 30 = .ok (.imul, 1) := by decide +kernel
theorem dX8_told_31 : decode cX8_told 31 = .ok (.iload_n 2, 1) := by decide +kernel
theorem dX8_told_32 : decode cX8_told 32 = .ok (.iadd, 1) := by decide +kernel
theorem dX8_told_33 : decode cX8_told 33 = .ok (.istore 4, 2) := by decide +kernel
theorem dX8_told_35 : decode cX8_told 35 = .ok (.iload_n 3, 1) := by decide +kernel
theorem dX8_told_36 : decode cX8_told 36 = .ok (.tableswitch 124 0 4 #[36, 44, 52, 60, 83], 36) := by decide +kernel
theorem dX8_told_72 : decode cX8_told 72 = .ok (.aload_n 0, 1) := by decide +kernel
theorem dX8_told_73 : decode cX8_told 73 = .ok (.getfield 46, 3) := by decide +kernel
theorem dX8_told_76 : decode cX8_told 76 = .ok (.iload 4, 2) := by decide +kernel
theorem dX8_told_78 : decode cX8_told 78 = .ok (.iaload, 1) := by decide +kernel
theorem dX8_told_79 : decode cX8_told 79 = .ok (.ireturn, 1) := by decide +kernel
theorem dX8_told_80 : decode cX8_told 80 = .ok (.aload_n 0, 1) := by decide +kernel
theorem dX8_told_81 : decode cX8_told 81 = .ok (.getfield 49, 3) := by decide +kernel
theorem dX8_told_84 : decode cX8_told 84 = .ok (.iload 4, 2) := by decide +kernel
theorem dX8_told_86 : decode cX8_told 86 = .ok (.iaload, 1) := by decide +kernel
theorem dX8_told_87 : decode cX8_told 87 = .ok (.ireturn, 1) := by decide +kernel
theorem dX8_told_88 : decode cX8_told 88 = .ok (.aload_n 0, 1) := by decide +kernel
theorem dX8_told_89 : decode cX8_told 89 = .ok (.getfield 52, 3) := by decide +kernel
theorem dX8_told_92 : decode cX8_told 92 = .ok (.iload 4, 2) := by decide +kernel
theorem dX8_told_94 : decode cX8_told 94 = .ok (.iaload, 1) := by decide +kernel
theorem dX8_told_95 : decode cX8_told 95 = .ok (.ireturn, 1) := by decide +kernel
theorem dX8_told_96 : decode cX8_told 96 = .ok (.aload_n 0, 1) := by decide +kernel
theorem dX8_told_97 : decode cX8_told 97 = .ok (.getfield 55, 3) := by decide +kernel
theorem dX8_told_100 : decode cX8_told 100 = .ok (.iload 4, 2) := by decide +kernel
theorem dX8_told_102 : decode cX8_told 102 = .ok (.iaload, 1) := by decide +kernel
theorem dX8_told_103 : decode cX8_told 103 = .ok (.aload_n 0, 1) := by decide +kernel
theorem dX8_told_104 : decode cX8_told 104 = .ok (.iload_n 1, 1) := by decide +kernel
theorem dX8_told_105 : decode cX8_told 105 = .ok (.iload_n 2, 1) := by decide +kernel
theorem dX8_told_106 : decode cX8_told 106 = .ok (.invokevirtual 175, 3) := by decide +kernel
theorem dX8_told_109 : decode cX8_told 109 = .ok (.ifCond .eq 7, 3) := by decide +kernel
theorem dX8_told_112 : decode cX8_told 112 = .ok (.iconst 4, 1) := by decide +kernel
theorem dX8_told_113 : decode cX8_told 113 = .ok (.goto 4, 3) := by decide +kernel
theorem dX8_told_116 : decode cX8_told 116 = .ok (.iconst 0, 1) := by decide +kernel
theorem dX8_told_117 : decode cX8_told 117 = .ok (.iadd, 1) := by decide +kernel
theorem dX8_told_118 : decode cX8_told 118 = .ok (.ireturn, 1) := by decide +kernel
theorem dX8_told_119 : decode cX8_told 119 = .ok (.iconst 0, 1) := by decide +kernel
theorem dX8_told_120 : decode cX8_told 120 = .ok (.istore 5, 2) := by decide +kernel
theorem dX8_told_122 : decode cX8_told 122 = .ok (.iload 5, 2) := by decide +kernel
theorem dX8_told_124 : decode cX8_told 124 = .ok (.aload_n 0, 1) := by decide +kernel
theorem dX8_told_125 : decode cX8_told 125 = .ok (.getfield 61, 3) := by decide +kernel
theorem dX8_told_128 : decode cX8_told 128 = .ok (.iload_n 1, 1) := by decide +kernel
theorem dX8_told_129 : decode cX8_told 129 = .ok (.iaload, 1) := by decide +kernel
theorem dX8_told_130 : decode cX8_told 130 = .ok (.if_icmp .ge 28, 3) := by decide +kernel
theorem dX8_told_133 : decode cX8_told 133 = .ok (.aload_n 0, 1) := by decide +kernel
theorem dX8_told_134 : decode cX8_told 134 = .ok (.getfield 58, 3) := by decide +kernel
theorem dX8_told_137 : decode cX8_told 137 = .ok (.bipush 12, 2) := by decide +kernel
theorem dX8_told_139 : decode cX8_told 139 = .ok (.iload_n 1, 1) := by decide +kernel
theorem dX8_told_140 : decode cX8_told 140 = .ok (.imul, 1) := by decide +kernel
theorem dX8_told_141 : decode cX8_told 141 = .ok (.iload 5, 2) := by decide +kernel
theorem dX8_told_143 : decode cX8_told 143 = .ok (.iadd, 1) := by decide +kernel
theorem dX8_told_144 : decode cX8_told 144 = .ok (.iaload, 1) := by decide +kernel
theorem dX8_told_145 : decode cX8_told 145 = .ok (.iload_n 2, 1) := by decide +kernel
theorem dX8_told_146 : decode cX8_told 146 = .ok (.if_icmp .ne 6, 3) := by decide +kernel
theorem dX8_told_149 : decode cX8_told 149 = .ok (.iload 5, 2) := by decide +kernel
theorem dX8_told_151 : decode cX8_told 151 = .ok (.ireturn, 1) := by decide +kernel
theorem dX8_told_152 : decode cX8_told 152 = .ok (.iinc 5 1, 3) := by decide +kernel
theorem dX8_told_155 : decode cX8_told 155 = .ok (.goto (-33), 3) := by decide +kernel
theorem dX8_told_158 : decode cX8_told 158 = .ok (.iconst (-1), 1) := by decide +kernel
theorem dX8_told_159 : decode cX8_told 159 = .ok (.ireturn, 1) := by decide +kernel
theorem dX8_told_160 : decode cX8_told 160 = .ok (.iconst (-1), 1) := by decide +kernel
theorem dX8_told_161 : decode cX8_told 161 = .ok (.ireturn, 1) := by decide +kernel
theorem dX8_empties_0 : decode cX8_empties 0 = .ok (.bipush 12, 2) := by decide +kernel
theorem dX8_empties_2 : decode cX8_empties 2 = .ok (.istore_n 1, 1) := by decide +kernel
theorem dX8_empties_3 : decode cX8_empties 3 = .ok (.iload_n 1, 1) := by decide +kernel
theorem dX8_empties_4 : decode cX8_empties 4 = .ok (.bipush 24, 2) := by decide +kernel
theorem dX8_empties_6 : decode cX8_empties 6 = .ok (.if_icmp .ge 30, 3) := by decide +kernel
theorem dX8_empties_9 : decode cX8_empties 9 = .ok (.aload_n 0, 1) := by decide +kernel
theorem dX8_empties_10 : decode cX8_empties 10 = .ok (.getfield 71, 3) := by decide +kernel
theorem dX8_empties_13 : decode cX8_empties 13 = .ok (.iload_n 1, 1) := by decide +kernel
theorem dX8_empties_14 : decode cX8_empties 14 = .ok (.lconst 0, 1) := by decide +kernel
theorem dX8_empties_15 : decode cX8_empties 15 = .ok (.lastore, 1) := by decide +kernel
theorem dX8_empties_16 : decode cX8_empties 16 = .ok (.aload_n 0, 1) := by decide +kernel
theorem dX8_empties_17 : decode cX8_empties 17 = .ok (.getfield 75, 3) := by decide +kernel
theorem dX8_empties_20 : decode cX8_empties 20 = .ok (.iload_n 1, 1) := by decide +kernel
theorem dX8_empties_21 : decode cX8_empties 21 = .ok (.lconst 0, 1) := by decide +kernel
theorem dX8_empties_22 : decode cX8_empties 22 = .ok (.lastore, 1) := by decide +kernel
theorem dX8_empties_23 : decode cX8_empties 23 = .ok (.aload_n 0, 1) := by decide +kernel
theorem dX8_empties_24 : decode cX8_empties 24 = .ok (.getfield 90, 3) := by decide +kernel
theorem dX8_empties_27 : decode cX8_empties 27 = .ok (.iload_n 1, 1) := by decide +kernel
theorem dX8_empties_28 : decode cX8_empties 28 = .ok (.iconst 0, 1) := by decide +kernel
theorem dX8_empties_29 : decode cX8_empties 29 = .ok (.iastore, 1) := by decide +kernel
theorem dX8_empties_30 : decode cX8_empties 30 = .ok (.iinc 1 1, 3) := by decide +kernel
theorem dX8_empties_33 : decode cX8_empties 33 = .ok (.goto (-30), 3) := by decide +kernel
theorem dX8_empties_36 : decode cX8_empties 36 = .ok (.bipush 24, 2) := by decide +kernel
theorem dX8_empties_38 : decode cX8_empties 38 = .ok (.istore_n 1, 1) := by decide +kernel
theorem dX8_empties_39 : decode cX8_empties 39 = .ok (.iload_n 1, 1) := by decide +kernel
theorem dX8_empties_40 : decode cX8_empties 40 = .ok (.bipush 48, 2) := by decide +kernel
theorem dX8_empties_42 : decode cX8_empties 42 = .ok (.if_icmp .ge 23, 3) := by decide +kernel
theorem dX8_empties_45 : decode cX8_empties 45 = .ok (.aload_n 0, 1) := by decide +kernel
theorem dX8_empties_46 : decode cX8_empties 46 = .ok (.getfield 78, 3) := by decide +kernel
theorem dX8_empties_49 : decode cX8_empties 49 = .ok (.iload_n 1, 1) := by decide +kernel
theorem dX8_empties_50 : decode cX8_empties 50 = .ok (.lconst 0, 1) := by decide +kernel
theorem dX8_empties_51 : decode cX8_empties 51 = .ok (.lastore, 1) := by decide +kernel
theorem dX8_empties_52 : decode cX8_empties 52 = .ok (.aload_n 0, 1) := by decide +kernel
theorem dX8_empties_53 : decode cX8_empties 53 = .ok (.getfield 81, 3) := by decide +kernel
theorem dX8_empties_56 : decode cX8_empties 56 = .ok (.iload_n 1, 1) := by decide +kernel
theorem dX8_empties_57 : decode cX8_empties 57 = .ok (.lconst 0, 1) := by decide +kernel
theorem dX8_empties_58 : decode cX8_empties 58 = .ok (.lastore, 1) := by decide +kernel
theorem dX8_empties_59 : decode cX8_empties 59 = .ok (.iinc 1 1, 3) := by decide +kernel
theorem dX8_empties_62 : decode cX8_empties 62 = .ok (.goto (-23), 3) := by decide +kernel
theorem dX8_empties_65 : decode cX8_empties 65 = .ok (.sipush 960, 3) := by decide +kernel
theorem dX8_empties_68 : decode cX8_empties 68 = .ok (.istore_n 1, 1) := by decide +kernel
theorem dX8_empties_69 : decode cX8_empties 69 = .ok (.iload_n 1, 1) := by decide +kernel
theorem dX8_empties_70 : decode cX8_empties 70 = .ok (.sipush 1920, 3) := by decide +kernel
theorem dX8_empties_73 : decode cX8_empties 73 = .ok (.if_icmp .ge 16, 3) := by decide +kernel
theorem dX8_empties_76 : decode cX8_empties 76 = .ok (.aload_n 0, 1) := by decide +kernel
theorem dX8_empties_77 : decode cX8_empties 77 = .ok (.getfield 84, 3) := by decide +kernel
theorem dX8_empties_80 : decode cX8_empties 80 = .ok (.iload_n 1, 1) := by decide +kernel
theorem dX8_empties_81 : decode cX8_empties 81 = .ok (.lconst 0, 1) := by decide +kernel
theorem dX8_empties_82 : decode cX8_empties 82 = .ok (.lastore, 1) := by decide +kernel
theorem dX8_empties_83 : decode cX8_empties 83 = .ok (.iinc 1 1, 3) := by decide +kernel
theorem dX8_empties_86 : decode cX8_empties 86 = .ok (.goto (-17), 3) := by decide +kernel
theorem dX8_empties_89 : decode cX8_empties 89 = .ok (.sipush 480, 3) := by decide +kernel
theorem dX8_empties_92 : decode cX8_empties 92 = .ok (.istore_n 1, 1) := by decide +kernel
theorem dX8_empties_93 : decode cX8_empties 93 = .ok (.iload_n 1, 1) := by decide +kernel
theorem dX8_empties_94 : decode cX8_empties 94 = .ok (.sipush 960, 3) := by decide +kernel
theorem dX8_empties_97 : decode cX8_empties 97 = .ok (.if_icmp .ge 16, 3) := by decide +kernel
theorem dX8_empties_100 : decode cX8_empties 100 = .ok (.aload_n 0, 1) := by decide +kernel
theorem dX8_empties_101 : decode cX8_empties 101 = .ok (.getfield 87, 3) := by decide +kernel
theorem dX8_empties_104 : decode cX8_empties 104 = .ok (.iload_n 1, 1) := by decide +kernel
theorem dX8_empties_105 : decode cX8_empties 105 = .ok (.iconst 0, 1) := by decide +kernel
theorem dX8_empties_106 : decode cX8_empties 106 = .ok (.iastore, 1) := by decide +kernel
theorem dX8_empties_107 : decode cX8_empties 107 = .ok (.iinc 1 1, 3) := by decide +kernel
theorem dX8_empties_110 : decode cX8_empties 110 = .ok (.goto (-17), 3) := by decide +kernel
theorem dX8_empties_113 : decode cX8_empties 113 = .ok (.aload_n 0, 1) := by decide +kernel
theorem dX8_empties_114 : decode cX8_empties 114 = .ok (.getfield 93, 3) := by decide +kernel
theorem dX8_empties_117 : decode cX8_empties 117 = .ok (.iconst 1, 1) := by decide +kernel
theorem dX8_empties_118 : decode cX8_empties 118 = .ok (.lconst 0, 1) := by decide +kernel
theorem dX8_empties_119 : decode cX8_empties 119 = .ok (.lastore, 1) := by decide +kernel
theorem dX8_empties_120 : decode cX8_empties 120 = .ok (.return_, 1) := by decide +kernel
theorem dX8_bag_0 : decode cX8_bag 0 = .ok (.iload_n 0, 1) := by decide +kernel
theorem dX8_bag_1 : decode cX8_bag 1 = .ok (.bipush 24, 2) := by decide +kernel
theorem dX8_bag_3 : decode cX8_bag 3 = .ok (.imul, 1) := by decide +kernel
theorem dX8_bag_4 : decode cX8_bag 4 = .ok (.iload_n 1, 1) := by decide +kernel
theorem dX8_bag_5 : decode cX8_bag 5 = .ok (.iadd, 1) := by decide +kernel
theorem dX8_bag_6 : decode cX8_bag 6 = .ok (.bipush 40, 2) := by decide +kernel
theorem dX8_bag_8 : decode cX8_bag 8 = .ok (.imul, 1) := by decide +kernel
theorem dX8_bag_9 : decode cX8_bag 9 = .ok (.iload_n 2, 1) := by decide +kernel
theorem dX8_bag_10 : decode cX8_bag 10 = .ok (.iadd, 1) := by decide +kernel
theorem dX8_bag_11 : decode cX8_bag 11 = .ok (.ireturn, 1) := by decide +kernel
theorem dX8_dueAt_0 : decode cX8_dueAt 0 = .ok (.iload_n 0, 1) := by decide +kernel
theorem dX8_dueAt_1 : decode cX8_dueAt 1 = .ok (.bipush 12, 2) := by decide +kernel
theorem dX8_dueAt_3 : decode cX8_dueAt 3 = .ok (.imul, 1) := by decide +kernel
theorem dX8_dueAt_4 : decode cX8_dueAt 4 = .ok (.iload_n 1, 1) := by decide +kernel
theorem dX8_dueAt_5 : decode cX8_dueAt 5 = .ok (.iadd, 1) := by decide +kernel
theorem dX8_dueAt_6 : decode cX8_dueAt 6 = .ok (.bipush 40, 2) := by decide +kernel
theorem dX8_dueAt_8 : decode cX8_dueAt 8 = .ok (.imul, 1) := by decide +kernel
theorem dX8_dueAt_9 : decode cX8_dueAt 9 = .ok (.iload_n 2, 1) := by decide +kernel
theorem dX8_dueAt_10 : decode cX8_dueAt 10 = .ok (.iadd, 1) := by decide +kernel
theorem dX8_dueAt_11 : decode cX8_dueAt 11 = .ok (.ireturn, 1) := by decide +kernel
theorem dX8_begins_0 : decode cX8_begins 0 = .ok (.iconst (-1), 1) := by decide +kernel
theorem dX8_begins_1 : decode cX8_begins 1 = .ok (.istore 7, 2) := by decide +kernel
theorem dX8_begins_3 : decode cX8_begins 3 = .ok (.iload_n 1, 1) := by decide +kernel
theorem dX8_begins_4 : decode cX8_begins 4 = .ok (.ifCond .ne 71, 3) := by decide +kernel
theorem dX8_begins_7 : decode cX8_begins 7 = .ok (.aload_n 0, 1) := by decide +kernel
theorem dX8_begins_8 : decode cX8_begins 8 = .ok (.getfield 178, 3) := by decide +kernel
theorem dX8_begins_11 : decode cX8_begins 11 = .ok (.sipush 600, 3) := by decide +kernel
theorem dX8_begins_14 : decode cX8_begins 14 = .ok (.if_icmp .ge 51, 3) := by decide +kernel
theorem dX8_begins_17 : decode cX8_begins 17 = .ok (.aload_n 0, 1) := by decide +kernel
theorem dX8_begins_18 : decode cX8_begins 18 = .ok (.getfield 178, 3) := by decide +kernel
theorem dX8_begins_21 : decode cX8_begins 21 = .ok (.istore 7, 2) := by decide +kernel
theorem dX8_begins_23 : decode cX8_begins 23 = .ok (.aload_n 0, 1) := by decide +kernel
theorem dX8_begins_24 : decode cX8_begins 24 = .ok (.getfield 108, 3) := by decide +kernel
theorem dX8_begins_27 : decode cX8_begins 27 = .ok (.iload 7, 2) := by decide +kernel
theorem dX8_begins_29 : decode cX8_begins 29 = .ok (.iload_n 2, 1) := by decide +kernel
theorem dX8_begins_30 : decode cX8_begins 30 = .ok (.iastore, 1) := by decide +kernel
theorem dX8_begins_31 : decode cX8_begins 31 = .ok (.aload_n 0, 1) := by decide +kernel
theorem dX8_begins_32 : decode cX8_begins 32 = .ok (.getfield 111, 3) := by decide +kernel
theorem dX8_begins_35 : decode cX8_begins 35 = .ok (.iload 7, 2) := by decide +kernel
theorem dX8_begins_37 : decode cX8_begins 37 = .ok (.iload_n 3, 1) := by decide +kernel
theorem dX8_begins_38 : decode cX8_begins 38 = .ok (.iastore, 1) := by decide +kernel
theorem dX8_begins_39 : decode cX8_begins 39 = .ok (.aload_n 0, 1) := by decide +kernel
theorem dX8_begins_40 : decode cX8_begins 40 = .ok (.getfield 114, 3) := by decide +kernel
theorem dX8_begins_43 : decode cX8_begins 43 = .ok (.iload 7, 2) := by decide +kernel
theorem dX8_begins_45 : decode cX8_begins 45 = .ok (.iload 4, 2) := by decide +kernel
theorem dX8_begins_47 : decode cX8_begins 47 = .ok (.iastore, 1) := by decide +kernel
theorem dX8_begins_48 : decode cX8_begins 48 = .ok (.aload_n 0, 1) := by decide +kernel
theorem dX8_begins_49 : decode cX8_begins 49 = .ok (.getfield 117, 3) := by decide +kernel
theorem dX8_begins_52 : decode cX8_begins 52 = .ok (.iload 7, 2) := by decide +kernel
theorem dX8_begins_54 : decode cX8_begins 54 = .ok (.lload 5, 2) := by decide +kernel
theorem dX8_begins_56 : decode cX8_begins 56 = .ok (.lastore, 1) := by decide +kernel
theorem dX8_begins_57 : decode cX8_begins 57 = .ok (.aload_n 0, 1) := by decide +kernel
theorem dX8_begins_58 : decode cX8_begins 58 = .ok (.getfield 120, 3) := by decide +kernel
theorem dX8_begins_61 : decode cX8_begins 61 = .ok (.iload 7, 2) := by decide +kernel
theorem dX8_begins_63 : decode cX8_begins 63 = .ok (.lconst 0, 1) := by decide +kernel
theorem dX8_begins_64 : decode cX8_begins 64 = .ok (.lastore, 1) := by decide +kernel
theorem dX8_begins_65 : decode cX8_begins 65 = .ok (.aload_n 0, 1) := by decide +kernel
theorem dX8_begins_66 : decode cX8_begins 66 = .ok (.aload_n 0, 1) := by decide +kernel
theorem dX8_begins_67 : decode cX8_begins 67 = .ok (.getfield 178, 3) := by decide +kernel
theorem dX8_begins_70 : decode cX8_begins 70 = .ok (.iconst 1, 1) := by decide +kernel
theorem dX8_begins_71 : decode cX8_begins 71 = .ok (.iadd, 1) := by decide +kernel
theorem dX8_begins_72 : decode cX8_begins 72 = .ok (.putfield 178, 3) := by decide +kernel
theorem dX8_begins_75 : decode cX8_begins 75 = .ok (.aload_n 0, 1) := by decide +kernel
theorem dX8_begins_76 : decode cX8_begins 76 = .ok (.getfield 96, 3) := by decide +kernel
theorem dX8_begins_79 : decode cX8_begins 79 = .ok (.aload_n 0, 1) := by decide +kernel
theorem dX8_begins_80 : decode cX8_begins 80 = .ok (.getfield 181, 3) := by decide +kernel
theorem dX8_begins_83 : decode cX8_begins 83 = .ok (.iload_n 3, 1) := by decide +kernel
theorem dX8_begins_84 : decode cX8_begins 84 = .ok (.iastore, 1) := by decide +kernel
theorem dX8_begins_85 : decode cX8_begins 85 = .ok (.aload_n 0, 1) := by decide +kernel
theorem dX8_begins_86 : decode cX8_begins 86 = .ok (.getfield 99, 3) := by decide +kernel
theorem dX8_begins_89 : decode cX8_begins 89 = .ok (.aload_n 0, 1) := by decide +kernel
theorem dX8_begins_90 : decode cX8_begins 90 = .ok (.getfield 181, 3) := by decide +kernel
theorem dX8_begins_93 : decode cX8_begins 93 = .ok (.iload 4, 2) := by decide +kernel
theorem dX8_begins_95 : decode cX8_begins 95 = .ok (.iconst 1, 1) := by decide +kernel
theorem dX8_begins_96 : decode cX8_begins 96 = .ok (.iadd, 1) := by decide +kernel
theorem dX8_begins_97 : decode cX8_begins 97 = .ok (.iastore, 1) := by decide +kernel
theorem dX8_begins_98 : decode cX8_begins 98 = .ok (.aload_n 0, 1) := by decide +kernel
theorem dX8_begins_99 : decode cX8_begins 99 = .ok (.getfield 105, 3) := by decide +kernel
theorem dX8_begins_102 : decode cX8_begins 102 = .ok (.aload_n 0, 1) := by decide +kernel
theorem dX8_begins_103 : decode cX8_begins 103 = .ok (.getfield 181, 3) := by decide +kernel
theorem dX8_begins_106 : decode cX8_begins 106 = .ok (.lload 5, 2) := by decide +kernel
theorem dX8_begins_108 : decode cX8_begins 108 = .ok (.lastore, 1) := by decide +kernel
theorem dX8_begins_109 : decode cX8_begins 109 = .ok (.aload_n 0, 1) := by decide +kernel
theorem dX8_begins_110 : decode cX8_begins 110 = .ok (.getfield 102, 3) := by decide +kernel
theorem dX8_begins_113 : decode cX8_begins 113 = .ok (.aload_n 0, 1) := by decide +kernel
theorem dX8_begins_114 : decode cX8_begins 114 = .ok (.getfield 181, 3) := by decide +kernel
theorem dX8_begins_117 : decode cX8_begins 117 = .ok (.iload 7, 2) := by decide +kernel
theorem dX8_begins_119 : decode cX8_begins 119 = .ok (.iastore, 1) := by decide +kernel
theorem dX8_begins_120 : decode cX8_begins 120 = .ok (.aload_n 0, 1) := by decide +kernel
theorem dX8_begins_121 : decode cX8_begins 121 = .ok (.aload_n 0, 1) := by decide +kernel
theorem dX8_begins_122 : decode cX8_begins 122 = .ok (.getfield 181, 3) := by decide +kernel
theorem dX8_begins_125 : decode cX8_begins 125 = .ok (.iconst 1, 1) := by decide +kernel
theorem dX8_begins_126 : decode cX8_begins 126 = .ok (.iadd, 1) := by decide +kernel
theorem dX8_begins_127 : decode cX8_begins 127 = .ok (.putfield 181, 3) := by decide +kernel
theorem dX8_begins_130 : decode cX8_begins 130 = .ok (.return_, 1) := by decide +kernel
set_option maxRecDepth 20000 in
theorem ggX8_goes_X8_begins : GoodIn wsX8_goes wsX8_begins := goodIn_r _ [17, 18, 19, 20, 21, 22, 9, 6, 1, 3, 5, 8, 40, 41, 42, 43, 44, 45, 46, 47, 48, 49, 50, 51, 52, 53, 54, 55, 56, 57, 58, 59, 60, 61, 62, 63, 64, 65, 66, 67, 68, 69, 70, 71, 72, 73, 74, 75, 76, 77, 78, 79, 80, 81, 82, 83, 84, 85, 86] (by decide +kernel) (by decide +kernel)
set_option maxRecDepth 20000 in
theorem gX8_goes_X8_begins : GoodIn wsX8_goes (wsV RX8 184 RX8 yX8_begins wsX8_begins) := goodIn_app (goodIn_of _ (by decide +kernel)) ggX8_goes_X8_begins
set_option maxRecDepth 20000 in
theorem ggX8_goes_X8_meets : GoodIn wsX8_goes wsX8_meets := goodIn_r _ [26, 5, 27, 28, 29, 30, 31, 32, 33, 34, 35, 36, 37, 38, 16, 39, 13, 14, 15, 17, 18, 19, 20, 21, 22, 9, 6, 1, 3, 8, 40, 41, 42, 43, 44, 45, 46, 47, 48, 49, 50, 51, 52, 53, 54, 55, 56, 57, 58, 59, 60, 61, 62, 63, 64, 65, 66, 67, 68, 69, 70, 71, 72, 73, 74, 75, 76, 77, 78, 79, 80, 81, 82, 83, 84, 85, 86] (by decide +kernel) (by decide +kernel)
set_option maxRecDepth 20000 in
theorem gX8_goes_X8_meets : GoodIn wsX8_goes (wsV RX8 188 RX8 yX8_meets wsX8_meets) := goodIn_app (goodIn_of _ (by decide +kernel)) ggX8_goes_X8_meets
theorem dX8_goes_0 : decode cX8_goes 0 = .ok (.aload_n 0, 1) := by decide +kernel
theorem dX8_goes_1 : decode cX8_goes 1 = .ok (.iconst 0, 1) := by decide +kernel
theorem dX8_goes_2 : decode cX8_goes 2 = .ok (.putfield 181, 3) := by decide +kernel
theorem dX8_goes_5 : decode cX8_goes 5 = .ok (.lload 5, 2) := by decide +kernel
theorem dX8_goes_7 : decode cX8_goes 7 = .ok (.lconst 0, 1) := by decide +kernel
theorem dX8_goes_8 : decode cX8_goes 8 = .ok (.lcmp, 1) := by decide +kernel
theorem dX8_goes_9 : decode cX8_goes 9 = .ok (.ifCond .ne 4, 3) := by decide +kernel
theorem dX8_goes_12 : decode cX8_goes 12 = .ok (.return_, 1) := by decide +kernel
theorem dX8_goes_13 : decode cX8_goes 13 = .ok (.aload_n 0, 1) := by decide +kernel
theorem dX8_goes_14 : decode cX8_goes 14 = .ok (.getfield 93, 3) := by decide +kernel
theorem dX8_goes_17 : decode cX8_goes 17 = .ok (.iload_n 1, 1) := by decide +kernel
theorem dX8_goes_18 : decode cX8_goes 18 = .ok (.aload_n 0, 1) := by decide +kernel
theorem dX8_goes_19 : decode cX8_goes 19 = .ok (.getfield 93, 3) := by decide +kernel
theorem dX8_goes_22 : decode cX8_goes 22 = .ok (.iload_n 1, 1) := by decide +kernel
theorem dX8_goes_23 : decode cX8_goes 23 = .ok (.laload, 1) := by decide +kernel
theorem dX8_goes_24 : decode cX8_goes 24 = .ok (.lload 5, 2) := by decide +kernel
theorem dX8_goes_26 : decode cX8_goes 26 = .ok (.ladd, 1) := by decide +kernel
theorem dX8_goes_27 : decode cX8_goes 27 = .ok (.lastore, 1) := by decide +kernel
theorem dX8_goes_28 : decode cX8_goes 28 = .ok (.aload_n 0, 1) := by decide +kernel
theorem dX8_goes_29 : decode cX8_goes 29 = .ok (.iload_n 1, 1) := by decide +kernel
theorem dX8_goes_30 : decode cX8_goes 30 = .ok (.iload_n 3, 1) := by decide +kernel
theorem dX8_goes_31 : decode cX8_goes 31 = .ok (.iload 4, 2) := by decide +kernel
theorem dX8_goes_33 : decode cX8_goes 33 = .ok (.iconst (-1), 1) := by decide +kernel
theorem dX8_goes_34 : decode cX8_goes 34 = .ok (.lload 5, 2) := by decide +kernel
theorem dX8_goes_36 : decode cX8_goes 36 = .ok (.invokevirtual 184, 3) := by decide +kernel
theorem dX8_goes_39 : decode cX8_goes 39 = .ok (.aload_n 0, 1) := by decide +kernel
theorem dX8_goes_40 : decode cX8_goes 40 = .ok (.getfield 181, 3) := by decide +kernel
theorem dX8_goes_43 : decode cX8_goes 43 = .ok (.ifCond .le 190, 3) := by decide +kernel
theorem dX8_goes_46 : decode cX8_goes 46 = .ok (.aload_n 0, 1) := by decide +kernel
theorem dX8_goes_47 : decode cX8_goes 47 = .ok (.getfield 181, 3) := by decide +kernel
theorem dX8_goes_50 : decode cX8_goes 50 = .ok (.iconst 1, 1) := by decide +kernel
theorem dX8_goes_51 : decode cX8_goes 51 = .ok (.isub, 1) := by decide +kernel
theorem dX8_goes_52 : decode cX8_goes 52 = .ok (.istore 7, 2) := by decide +kernel
theorem dX8_goes_54 : decode cX8_goes 54 = .ok (.aload_n 0, 1) := by decide +kernel
theorem dX8_goes_55 : decode cX8_goes 55 = .ok (.getfield 99, 3) := by decide +kernel
theorem dX8_goes_58 : decode cX8_goes 58 = .ok (.iload 7, 2) := by decide +kernel
theorem dX8_goes_60 : decode cX8_goes 60 = .ok (.iaload, 1) := by decide +kernel
theorem dX8_goes_61 : decode cX8_goes 61 = .ok (.istore 8, 2) := by decide +kernel
theorem dX8_goes_63 : decode cX8_goes 63 = .ok (.iload 8, 2) := by decide +kernel
theorem dX8_goes_65 : decode cX8_goes 65 = .ok (.aload_n 0, 1) := by decide +kernel
theorem dX8_goes_66 : decode cX8_goes 66 = .ok (.getfield 157, 3) := by decide +kernel
theorem dX8_goes_69 : decode cX8_goes 69 = .ok (.if_icmp .eq 15, 3) := by decide +kernel
theorem dX8_goes_72 : decode cX8_goes 72 = .ok (.aload_n 0, 1) := by decide +kernel
theorem dX8_goes_73 : decode cX8_goes 73 = .ok (.getfield 105, 3) := by decide +kernel
theorem dX8_goes_76 : decode cX8_goes 76 = .ok (.iload 7, 2) := by decide +kernel
theorem dX8_goes_78 : decode cX8_goes 78 = .ok (.laload, 1) := by decide +kernel
theorem dX8_goes_79 : decode cX8_goes 79 = .ok (.lconst 0, 1) := by decide +kernel
theorem dX8_goes_80 : decode cX8_goes 80 = .ok (.lcmp, 1) := by decide +kernel
theorem dX8_goes_81 : decode cX8_goes 81 = .ok (.ifCond .ne 78, 3) := by decide +kernel
theorem dX8_goes_84 : decode cX8_goes 84 = .ok (.bipush 12, 2) := by decide +kernel
theorem dX8_goes_86 : decode cX8_goes 86 = .ok (.iload_n 1, 1) := by decide +kernel
theorem dX8_goes_87 : decode cX8_goes 87 = .ok (.imul, 1) := by decide +kernel
theorem dX8_goes_88 : decode cX8_goes 88 = .ok (.aload_n 0, 1) := by decide +kernel
theorem dX8_goes_89 : decode cX8_goes 89 = .ok (.getfield 96, 3) := by decide +kernel
theorem dX8_goes_92 : decode cX8_goes 92 = .ok (.iload 7, 2) := by decide +kernel
theorem dX8_goes_94 : decode cX8_goes 94 = .ok (.iaload, 1) := by decide +kernel
theorem dX8_goes_95 : decode cX8_goes 95 = .ok (.iadd, 1) := by decide +kernel
theorem dX8_goes_96 : decode cX8_goes 96 = .ok (.istore 9, 2) := by decide +kernel
theorem dX8_goes_98 : decode cX8_goes 98 = .ok (.aload_n 0, 1) := by decide +kernel
theorem dX8_goes_99 : decode cX8_goes 99 = .ok (.getfield 71, 3) := by decide +kernel
theorem dX8_goes_102 : decode cX8_goes 102 = .ok (.iload 9, 2) := by decide +kernel
theorem dX8_goes_104 : decode cX8_goes 104 = .ok (.aload_n 0, 1) := by decide +kernel
theorem dX8_goes_105 : decode cX8_goes 105 = .ok (.getfield 71, 3) := by decide +kernel
theorem dX8_goes_108 : decode cX8_goes 108 = .ok (.iload 9, 2) := by decide +kernel
theorem dX8_goes_110 : decode cX8_goes 110 = .ok (.laload, 1) := by decide +kernel
theorem dX8_goes_111 : decode cX8_goes 111 = .ok (.aload_n 0, 1) := by decide +kernel
theorem dX8_goes_112 : decode cX8_goes 112 = .ok (.getfield 105, 3) := by decide +kernel
theorem dX8_goes_115 : decode cX8_goes 115 = .ok (.iload 7, 2) := by decide +kernel
theorem dX8_goes_117 : decode cX8_goes 117 = .ok (.laload, 1) := by decide +kernel
theorem dX8_goes_118 : decode cX8_goes 118 = .ok (.ladd, 1) := by decide +kernel
theorem dX8_goes_119 : decode cX8_goes 119 = .ok (.lastore, 1) := by decide +kernel
theorem dX8_goes_120 : decode cX8_goes 120 = .ok (.aload_n 0, 1) := by decide +kernel
theorem dX8_goes_121 : decode cX8_goes 121 = .ok (.getfield 102, 3) := by decide +kernel
theorem dX8_goes_124 : decode cX8_goes 124 = .ok (.iload 7, 2) := by decide +kernel
theorem dX8_goes_126 : decode cX8_goes 126 = .ok (.iaload, 1) := by decide +kernel
theorem dX8_goes_127 : decode cX8_goes 127 = .ok (.iconst (-1), 1) := by decide +kernel
theorem dX8_goes_128 : decode cX8_goes 128 = .ok (.if_icmp .eq 22, 3) := by decide +kernel
theorem dX8_goes_131 : decode cX8_goes 131 = .ok (.aload_n 0, 1) := by decide +kernel
theorem dX8_goes_132 : decode cX8_goes 132 = .ok (.getfield 120, 3) := by decide +kernel
theorem dX8_goes_135 : decode cX8_goes 135 = .ok (.aload_n 0, 1) := by decide +kernel
theorem dX8_goes_136 : decode cX8_goes 136 = .ok (.getfield 102, 3) := by decide +kernel
theorem dX8_goes_139 : decode cX8_goes 139 = .ok (.iload 7, 2) := by decide +kernel
theorem dX8_goes_141 : decode cX8_goes 141 = .ok (.iaload, 1) := by decide +kernel
theorem dX8_goes_142 : decode cX8_goes 142 = .ok (.aload_n 0, 1) := by decide +kernel
theorem dX8_goes_143 : decode cX8_goes 143 = .ok (.getfield 105, 3) := by decide +kernel
theorem dX8_goes_146 : decode cX8_goes 146 = .ok (.iload 7, 2) := by decide +kernel
theorem dX8_goes_148 : decode cX8_goes 148 = .ok (.laload, 1) := by decide +kernel
theorem dX8_goes_149 : decode cX8_goes 149 = .ok (.lastore, 1) := by decide +kernel
theorem dX8_goes_150 : decode cX8_goes 150 = .ok (.aload_n 0, 1) := by decide +kernel
theorem dX8_goes_151 : decode cX8_goes 151 = .ok (.iload 7, 2) := by decide +kernel
theorem dX8_goes_153 : decode cX8_goes 153 = .ok (.putfield 181, 3) := by decide +kernel
theorem dX8_goes_156 : decode cX8_goes 156 = .ok (.goto 74, 3) := by decide +kernel
theorem dX8_goes_159 : decode cX8_goes 159 = .ok (.aload_n 0, 1) := by decide +kernel
theorem dX8_goes_160 : decode cX8_goes 160 = .ok (.getfield 99, 3) := by decide +kernel
theorem dX8_goes_163 : decode cX8_goes 163 = .ok (.iload 7, 2) := by decide +kernel
theorem dX8_goes_165 : decode cX8_goes 165 = .ok (.iload 8, 2) := by decide +kernel
theorem dX8_goes_167 : decode cX8_goes 167 = .ok (.iconst 1, 1) := by decide +kernel
theorem dX8_goes_168 : decode cX8_goes 168 = .ok (.iadd, 1) := by decide +kernel
theorem dX8_goes_169 : decode cX8_goes 169 = .ok (.iastore, 1) := by decide +kernel
theorem dX8_goes_170 : decode cX8_goes 170 = .ok (.aload_n 0, 1) := by decide +kernel
theorem dX8_goes_171 : decode cX8_goes 171 = .ok (.getfield 25, 3) := by decide +kernel
theorem dX8_goes_174 : decode cX8_goes 174 = .ok (.iload 8, 2) := by decide +kernel
theorem dX8_goes_176 : decode cX8_goes 176 = .ok (.iaload, 1) := by decide +kernel
