theorem dX8_takes_145 : decode cX8_takes 145 = .ok (.imul, 1) := by decide +kernel
theorem dX8_takes_146 : decode cX8_takes 146 = .ok (.iload_n 2, 1) := by decide +kernel
theorem dX8_takes_147 : decode cX8_takes 147 = .ok (.iadd, 1) := by decide +kernel
theorem dX8_takes_148 : decode cX8_takes 148 = .ok (.laload, 1) := by decide +kernel
theorem dX8_takes_149 : decode cX8_takes 149 = .ok (.lload 4, 2) := by decide +kernel
theorem dX8_takes_151 : decode cX8_takes 151 = .ok (.ladd, 1) := by decide +kernel
theorem dX8_takes_152 : decode cX8_takes 152 = .ok (.lastore, 1) := by decide +kernel
theorem dX8_takes_153 : decode cX8_takes 153 = .ok (.lload 4, 2) := by decide +kernel
theorem dX8_takes_155 : decode cX8_takes 155 = .ok (.lreturn, 1) := by decide +kernel
set_option maxRecDepth 20000 in
theorem ggX8_sent_X8_isHand : GoodIn wsX8_sent wsX8_isHand := goodIn_r _ [13] (by decide +kernel) (by decide +kernel)
set_option maxRecDepth 20000 in
theorem gX8_sent_X8_isHand : GoodIn wsX8_sent (va_wsS RX8 132 yX8_isHand wsX8_isHand) := goodIn_app (goodIn_of _ (by decide +kernel)) ggX8_sent_X8_isHand
set_option maxRecDepth 20000 in
theorem ggX8_sent_X8_takes : GoodIn wsX8_sent wsX8_takes := goodIn_r _ [17, 9, 18, 19, 20, 21, 22, 23, 24, 12, 25, 26, 27, 28, 29, 30, 31, 32, 33, 34, 35, 36, 37, 38, 39, 40, 41, 42, 43, 44, 45, 46, 47, 48, 49, 50, 51, 52, 53, 54, 55, 56, 57, 58, 59, 60, 61, 62, 63, 64, 65, 66, 67, 68, 69, 70, 71, 72] (by decide +kernel) (by decide +kernel)
set_option maxRecDepth 20000 in
theorem gX8_sent_X8_takes : GoodIn wsX8_sent (wsV RX8 233 RX8 yX8_takes wsX8_takes) := goodIn_app (goodIn_of _ (by decide +kernel)) ggX8_sent_X8_takes
theorem dX8_sent_0 : decode cX8_sent 0 = .ok (.iload_n 1, 1) := by decide +kernel
theorem dX8_sent_1 : decode cX8_sent 1 = .ok (.invokestatic 132, 3) := by decide +kernel
theorem dX8_sent_4 : decode cX8_sent 4 = .ok (.ifCond .eq 23, 3) := by decide +kernel
theorem dX8_sent_7 : decode cX8_sent 7 = .ok (.iload_n 2, 1) := by decide +kernel
theorem dX8_sent_8 : decode cX8_sent 8 = .ok (.iconst 1, 1) := by decide +kernel
theorem dX8_sent_9 : decode cX8_sent 9 = .ok (.if_icmp .lt 18, 3) := by decide +kernel
theorem dX8_sent_12 : decode cX8_sent 12 = .ok (.iload_n 2, 1) := by decide +kernel
theorem dX8_sent_13 : decode cX8_sent 13 = .ok (.ldc 150, 2) := by decide +kernel
theorem dX8_sent_15 : decode cX8_sent 15 = .ok (.if_icmp .gt 12, 3) := by decide +kernel
theorem dX8_sent_18 : decode cX8_sent 18 = .ok (.aload_n 0, 1) := by decide +kernel
theorem dX8_sent_19 : decode cX8_sent 19 = .ok (.getfield 224, 3) := by decide +kernel
theorem dX8_sent_22 : decode cX8_sent 22 = .ok (.bipush 60, 2) := by decide +kernel
theorem dX8_sent_24 : decode cX8_sent 24 = .ok (.if_icmp .ne 7, 3) := by decide +kernel
theorem dX8_sent_27 : decode cX8_sent 27 = .ok (.ldc2_w 227, 3) := by decide +kernel
theorem dX8_sent_30 : decode cX8_sent 30 = .ok (.lreturn, 1) := by decide +kernel
theorem dX8_sent_31 : decode cX8_sent 31 = .ok (.aload_n 0, 1) := by decide +kernel
theorem dX8_sent_32 : decode cX8_sent 32 = .ok (.getfield 123, 3) := by decide +kernel
theorem dX8_sent_35 : decode cX8_sent 35 = .ok (.aload_n 0, 1) := by decide +kernel
theorem dX8_sent_36 : decode cX8_sent 36 = .ok (.getfield 224, 3) := by decide +kernel
theorem dX8_sent_39 : decode cX8_sent 39 = .ok (.iload_n 1, 1) := by decide +kernel
theorem dX8_sent_40 : decode cX8_sent 40 = .ok (.iastore, 1) := by decide +kernel
theorem dX8_sent_41 : decode cX8_sent 41 = .ok (.aload_n 0, 1) := by decide +kernel
theorem dX8_sent_42 : decode cX8_sent 42 = .ok (.getfield 126, 3) := by decide +kernel
theorem dX8_sent_45 : decode cX8_sent 45 = .ok (.aload_n 0, 1) := by decide +kernel
theorem dX8_sent_46 : decode cX8_sent 46 = .ok (.getfield 224, 3) := by decide +kernel
theorem dX8_sent_49 : decode cX8_sent 49 = .ok (.iload_n 2, 1) := by decide +kernel
theorem dX8_sent_50 : decode cX8_sent 50 = .ok (.iastore, 1) := by decide +kernel
theorem dX8_sent_51 : decode cX8_sent 51 = .ok (.aload_n 0, 1) := by decide +kernel
theorem dX8_sent_52 : decode cX8_sent 52 = .ok (.getfield 129, 3) := by decide +kernel
theorem dX8_sent_55 : decode cX8_sent 55 = .ok (.aload_n 0, 1) := by decide +kernel
theorem dX8_sent_56 : decode cX8_sent 56 = .ok (.getfield 224, 3) := by decide +kernel
theorem dX8_sent_59 : decode cX8_sent 59 = .ok (.aload_n 0, 1) := by decide +kernel
theorem dX8_sent_60 : decode cX8_sent 60 = .ok (.getfield 136, 3) := by decide +kernel
theorem dX8_sent_63 : decode cX8_sent 63 = .ok (.iastore, 1) := by decide +kernel
theorem dX8_sent_64 : decode cX8_sent 64 = .ok (.aload_n 0, 1) := by decide +kernel
theorem dX8_sent_65 : decode cX8_sent 65 = .ok (.aload_n 0, 1) := by decide +kernel
theorem dX8_sent_66 : decode cX8_sent 66 = .ok (.getfield 224, 3) := by decide +kernel
theorem dX8_sent_69 : decode cX8_sent 69 = .ok (.iconst 1, 1) := by decide +kernel
theorem dX8_sent_70 : decode cX8_sent 70 = .ok (.iadd, 1) := by decide +kernel
theorem dX8_sent_71 : decode cX8_sent 71 = .ok (.putfield 224, 3) := by decide +kernel
theorem dX8_sent_74 : decode cX8_sent 74 = .ok (.aload_n 0, 1) := by decide +kernel
theorem dX8_sent_75 : decode cX8_sent 75 = .ok (.aload_n 0, 1) := by decide +kernel
theorem dX8_sent_76 : decode cX8_sent 76 = .ok (.getfield 229, 3) := by decide +kernel
theorem dX8_sent_79 : decode cX8_sent 79 = .ok (.iload_n 2, 1) := by decide +kernel
theorem dX8_sent_80 : decode cX8_sent 80 = .ok (.i2l, 1) := by decide +kernel
theorem dX8_sent_81 : decode cX8_sent 81 = .ok (.ldc2_w 194, 3) := by decide +kernel
theorem dX8_sent_84 : decode cX8_sent 84 = .ok (.lmul, 1) := by decide +kernel
theorem dX8_sent_85 : decode cX8_sent 85 = .ok (.ladd, 1) := by decide +kernel
theorem dX8_sent_86 : decode cX8_sent 86 = .ok (.putfield 229, 3) := by decide +kernel
theorem dX8_sent_89 : decode cX8_sent 89 = .ok (.aload_n 0, 1) := by decide +kernel
theorem dX8_sent_90 : decode cX8_sent 90 = .ok (.iconst 0, 1) := by decide +kernel
theorem dX8_sent_91 : decode cX8_sent 91 = .ok (.iload_n 1, 1) := by decide +kernel
theorem dX8_sent_92 : decode cX8_sent 92 = .ok (.iload_n 2, 1) := by decide +kernel
theorem dX8_sent_93 : decode cX8_sent 93 = .ok (.invokevirtual 233, 3) := by decide +kernel
theorem dX8_sent_96 : decode cX8_sent 96 = .ok (.lreturn, 1) := by decide +kernel
set_option maxRecDepth 20000 in
theorem ggX8_sentIn_X8_takes : GoodIn wsX8_sentIn wsX8_takes := goodIn_r _ [9, 10, 11, 12, 13, 14, 15, 16, 17, 8, 18, 19, 20, 21, 22, 23, 24, 25, 26, 27, 28, 29, 30, 31, 32, 33, 34, 35, 36, 37, 38, 39, 40, 41, 42, 43, 44, 45, 46, 47, 48, 49, 50, 51, 52, 53, 54, 55, 56, 57, 58, 59, 60, 61, 62, 63, 64, 65] (by decide +kernel) (by decide +kernel)
set_option maxRecDepth 20000 in
theorem gX8_sentIn_X8_takes : GoodIn wsX8_sentIn (wsV RX8 233 RX8 yX8_takes wsX8_takes) := goodIn_app (goodIn_of _ (by decide +kernel)) ggX8_sentIn_X8_takes
theorem dX8_sentIn_0 : decode cX8_sentIn 0 = .ok (.iconst 0, 1) := by decide +kernel
theorem dX8_sentIn_1 : decode cX8_sentIn 1 = .ok (.istore_n 2, 1) := by decide +kernel
theorem dX8_sentIn_2 : decode cX8_sentIn 2 = .ok (.iload_n 2, 1) := by decide +kernel
theorem dX8_sentIn_3 : decode cX8_sentIn 3 = .ok (.aload_n 0, 1) := by decide +kernel
theorem dX8_sentIn_4 : decode cX8_sentIn 4 = .ok (.getfield 224, 3) := by decide +kernel
theorem dX8_sentIn_7 : decode cX8_sentIn 7 = .ok (.if_icmp .ge 37, 3) := by decide +kernel
theorem dX8_sentIn_10 : decode cX8_sentIn 10 = .ok (.aload_n 0, 1) := by decide +kernel
theorem dX8_sentIn_11 : decode cX8_sentIn 11 = .ok (.getfield 129, 3) := by decide +kernel
theorem dX8_sentIn_14 : decode cX8_sentIn 14 = .ok (.iload_n 2, 1) := by decide +kernel
theorem dX8_sentIn_15 : decode cX8_sentIn 15 = .ok (.iaload, 1) := by decide +kernel
theorem dX8_sentIn_16 : decode cX8_sentIn 16 = .ok (.iload_n 1, 1) := by decide +kernel
theorem dX8_sentIn_17 : decode cX8_sentIn 17 = .ok (.if_icmp .ne 21, 3) := by decide +kernel
theorem dX8_sentIn_20 : decode cX8_sentIn 20 = .ok (.aload_n 0, 1) := by decide +kernel
theorem dX8_sentIn_21 : decode cX8_sentIn 21 = .ok (.iconst 1, 1) := by decide +kernel
theorem dX8_sentIn_22 : decode cX8_sentIn 22 = .ok (.aload_n 0, 1) := by decide +kernel
theorem dX8_sentIn_23 : decode cX8_sentIn 23 = .ok (.getfield 123, 3) := by decide +kernel
theorem dX8_sentIn_26 : decode cX8_sentIn 26 = .ok (.iload_n 2, 1) := by decide +kernel
theorem dX8_sentIn_27 : decode cX8_sentIn 27 = .ok (.iaload, 1) := by decide +kernel
theorem dX8_sentIn_28 : decode cX8_sentIn 28 = .ok (.aload_n 0, 1) := by decide +kernel
theorem dX8_sentIn_29 : decode cX8_sentIn 29 = .ok (.getfield 126, 3) := by decide +kernel
theorem dX8_sentIn_32 : decode cX8_sentIn 32 = .ok (.iload_n 2, 1) := by decide +kernel
theorem dX8_sentIn_33 : decode cX8_sentIn 33 = .ok (.iaload, 1) := by decide +kernel
theorem dX8_sentIn_34 : decode cX8_sentIn 34 = .ok (.invokevirtual 233, 3) := by decide +kernel
theorem dX8_sentIn_37 : decode cX8_sentIn 37 = .ok (.pop2, 1) := by decide +kernel
theorem dX8_sentIn_38 : decode cX8_sentIn 38 = .ok (.iinc 2 1, 3) := by decide +kernel
theorem dX8_sentIn_41 : decode cX8_sentIn 41 = .ok (.goto (-39), 3) := by decide +kernel
theorem dX8_sentIn_44 : decode cX8_sentIn 44 = .ok (.return_, 1) := by decide +kernel
set_option maxRecDepth 20000 in
theorem ggX8_anew_X8_empties : GoodIn wsX8_anew wsX8_empties := goodIn_r _ [6, 7, 8, 9, 10, 11, 12, 13, 14, 103, 104, 105, 106, 107, 108, 109, 110, 111, 112, 113, 114, 115, 116, 117, 118, 119, 120, 121, 122, 123, 124, 125, 126, 127, 128, 129, 130, 131, 132, 133, 134, 135, 136, 137, 138, 139, 140, 141, 142, 143, 144, 145, 146, 147, 148, 149] (by decide +kernel) (by decide +kernel)
set_option maxRecDepth 20000 in
theorem gX8_anew_X8_empties : GoodIn wsX8_anew (wsV RX8 237 RX8 yX8_empties wsX8_empties) := goodIn_app (goodIn_of _ (by decide +kernel)) ggX8_anew_X8_empties
set_option maxRecDepth 20000 in
theorem ggX8_anew_X8_sentIn : GoodIn wsX8_anew wsX8_sentIn := goodIn_r _ [18, 19, 20, 21, 22, 23, 24, 25, 5, 26, 27, 28, 29, 30, 12, 8, 31, 32, 33, 103, 104, 105, 106, 107, 108, 109, 110, 111, 112, 113, 114, 115, 116, 117, 118, 119, 120, 121, 122, 123, 124, 125, 126, 127, 128, 129, 130, 131, 132, 133, 134, 135, 136, 137, 138, 139, 140, 141, 142, 143, 144, 145, 146, 147, 148, 149] (by decide +kernel) (by decide +kernel)
set_option maxRecDepth 20000 in
theorem gX8_anew_X8_sentIn : GoodIn wsX8_anew (wsV RX8 240 RX8 yX8_sentIn wsX8_sentIn) := goodIn_app (goodIn_of _ (by decide +kernel)) ggX8_anew_X8_sentIn
set_option maxRecDepth 20000 in
theorem ggX8_anew_X8_closes : GoodIn wsX8_anew wsX8_closes := goodIn_r _ [37, 38, 39, 40, 41, 42, 43, 28, 29, 44, 30, 7, 12, 45, 46, 47, 48, 5, 49, 50, 51, 52, 53, 54, 55, 56, 57, 58, 59, 60, 61, 62, 63, 64, 65, 66, 67, 68, 69, 14, 70, 71, 72, 73, 74, 75, 76, 77, 78, 79, 80, 81, 82, 83, 84, 85, 86, 87, 88, 89, 27, 11, 90, 10, 91, 31, 32, 33, 92, 93, 94, 95, 8, 13, 96, 97, 98, 99, 100, 101, 102, 9, 103, 104, 105, 106, 107, 108, 109, 110, 111, 112, 113, 114, 115, 116, 117, 118, 119, 120, 121, 122, 123, 124, 125, 126, 127, 128, 129, 130, 131, 132, 133, 134, 135, 136, 137, 138, 139, 140, 141, 142, 143, 144, 145, 146, 147, 148, 149] (by decide +kernel) (by decide +kernel)
set_option maxRecDepth 20000 in
theorem gX8_anew_X8_closes : GoodIn wsX8_anew (wsV RX8 220 RX8 yX8_closes wsX8_closes) := goodIn_app (goodIn_of _ (by decide +kernel)) ggX8_anew_X8_closes
theorem dX8_anew_0 : decode cX8_anew 0 = .ok (.aload_n 0, 1) := by decide +kernel
theorem dX8_anew_1 : decode cX8_anew 1 = .ok (.invokevirtual 237, 3) := by decide +kernel
theorem dX8_anew_4 : decode cX8_anew 4 = .ok (.iconst 0, 1) := by decide +kernel
theorem dX8_anew_5 : decode cX8_anew 5 = .ok (.istore_n 1, 1) := by decide +kernel
theorem dX8_anew_6 : decode cX8_anew 6 = .ok (.iload_n 1, 1) := by decide +kernel
theorem dX8_anew_7 : decode cX8_anew 7 = .ok (.aload_n 0, 1) := by decide +kernel
theorem dX8_anew_8 : decode cX8_anew 8 = .ok (.getfield 136, 3) := by decide +kernel
theorem dX8_anew_11 : decode cX8_anew 11 = .ok (.if_icmp .ge 20, 3) := by decide +kernel
theorem dX8_anew_14 : decode cX8_anew 14 = .ok (.aload_n 0, 1) := by decide +kernel
theorem dX8_anew_15 : decode cX8_anew 15 = .ok (.iload_n 1, 1) := by decide +kernel
theorem dX8_anew_16 : decode cX8_anew 16 = .ok (.invokevirtual 240, 3) := by decide +kernel
theorem dX8_anew_19 : decode cX8_anew 19 = .ok (.aload_n 0, 1) := by decide +kernel
theorem dX8_anew_20 : decode cX8_anew 20 = .ok (.iconst 1, 1) := by decide +kernel
theorem dX8_anew_21 : decode cX8_anew 21 = .ok (.iload_n 1, 1) := by decide +kernel
theorem dX8_anew_22 : decode cX8_anew 22 = .ok (.invokevirtual 220, 3) := by decide +kernel
theorem dX8_anew_25 : decode cX8_anew 25 = .ok (.iinc 1 1, 3) := by decide +kernel
theorem dX8_anew_28 : decode cX8_anew 28 = .ok (.goto (-22), 3) := by decide +kernel
theorem dX8_anew_31 : decode cX8_anew 31 = .ok (.aload_n 0, 1) := by decide +kernel
theorem dX8_anew_32 : decode cX8_anew 32 = .ok (.aload_n 0, 1) := by decide +kernel
theorem dX8_anew_33 : decode cX8_anew 33 = .ok (.getfield 136, 3) := by decide +kernel
theorem dX8_anew_36 : decode cX8_anew 36 = .ok (.invokevirtual 240, 3) := by decide +kernel
theorem dX8_anew_39 : decode cX8_anew 39 = .ok (.return_, 1) := by decide +kernel
set_option maxRecDepth 20000 in
theorem ggX8_duesOf_X8_dueAt : GoodIn wsX8_duesOf wsX8_dueAt := goodIn_r _ [5] (by decide +kernel) (by decide +kernel)
set_option maxRecDepth 20000 in
theorem gX8_duesOf_X8_dueAt : GoodIn wsX8_duesOf (va_wsS RX8 217 yX8_dueAt wsX8_dueAt) := goodIn_app (goodIn_of _ (by decide +kernel)) ggX8_duesOf_X8_dueAt
theorem dX8_duesOf_0 : decode cX8_duesOf 0 = .ok (.lconst 0, 1) := by decide +kernel
theorem dX8_duesOf_1 : decode cX8_duesOf 1 = .ok (.lstore_n 3, 1) := by decide +kernel
theorem dX8_duesOf_2 : decode cX8_duesOf 2 = .ok (.iconst 0, 1) := by decide +kernel
theorem dX8_duesOf_3 : decode cX8_duesOf 3 = .ok (.istore 5, 2) := by decide +kernel
theorem dX8_duesOf_5 : decode cX8_duesOf 5 = .ok (.iload 5, 2) := by decide +kernel
theorem dX8_duesOf_7 : decode cX8_duesOf 7 = .ok (.bipush 40, 2) := by decide +kernel
theorem dX8_duesOf_9 : decode cX8_duesOf 9 = .ok (.if_icmp .ge 25, 3) := by decide +kernel
theorem dX8_duesOf_12 : decode cX8_duesOf 12 = .ok (.lload_n 3, 1) := by decide +kernel
theorem dX8_duesOf_13 : decode cX8_duesOf 13 = .ok (.aload_n 0, 1) := by decide +kernel
theorem dX8_duesOf_14 : decode cX8_duesOf 14 = .ok (.getfield 87, 3) := by decide +kernel
theorem dX8_duesOf_17 : decode cX8_duesOf 17 = .ok (.iload_n 1, 1) := by decide +kernel
theorem dX8_duesOf_18 : decode cX8_duesOf 18 = .ok (.iload_n 2, 1) := by decide +kernel
theorem dX8_duesOf_19 : decode cX8_duesOf 19 = .ok (.iload 5, 2) := by decide +kernel
theorem dX8_duesOf_21 : decode cX8_duesOf 21 = .ok (.invokestatic 217, 3) := by decide +kernel
theorem dX8_duesOf_24 : decode cX8_duesOf 24 = .ok (.iaload, 1) := by decide +kernel
theorem dX8_duesOf_25 : decode cX8_duesOf 25 = .ok (.i2l, 1) := by decide +kernel
theorem dX8_duesOf_26 : decode cX8_duesOf 26 = .ok (.ladd, 1) := by decide +kernel
theorem dX8_duesOf_27 : decode cX8_duesOf 27 = .ok (.lstore_n 3, 1) := by decide +kernel
theorem dX8_duesOf_28 : decode cX8_duesOf 28 = .ok (.iinc 5 1, 3) := by decide +kernel
theorem dX8_duesOf_31 : decode cX8_duesOf 31 = .ok (.goto (-26), 3) := by decide +kernel
theorem dX8_duesOf_34 : decode cX8_duesOf 34 = .ok (.lload_n 3, 1) := by decide +kernel
theorem dX8_duesOf_35 : decode cX8_duesOf 35 = .ok (.lreturn, 1) := by decide +kernel
set_option maxRecDepth 20000 in
theorem ggX8_worth_X8_duesOf : GoodIn wsX8_worth wsX8_duesOf := goodIn_r _ [8, 9, 10, 11, 7, 12, 13, 14, 15, 16, 17, 18, 19, 20, 21, 22, 23, 24, 25, 26, 27, 28, 29, 30, 31, 32, 33, 34, 35, 36, 37, 38, 39, 40, 41, 42, 43, 44, 45, 46, 47, 48, 49, 50, 51, 52, 53, 54, 55, 56, 57, 58, 59] (by decide +kernel) (by decide +kernel)
set_option maxRecDepth 20000 in
theorem gX8_worth_X8_duesOf : GoodIn wsX8_worth (wsV RX8 244 RX8 yX8_duesOf wsX8_duesOf) := goodIn_app (goodIn_of _ (by decide +kernel)) ggX8_worth_X8_duesOf
theorem dX8_worth_0 : decode cX8_worth 0 = .ok (.aload_n 0, 1) := by decide +kernel
theorem dX8_worth_1 : decode cX8_worth 1 = .ok (.iload_n 1, 1) := by decide +kernel
theorem dX8_worth_2 : decode cX8_worth 2 = .ok (.iload_n 2, 1) := by decide +kernel
theorem dX8_worth_3 : decode cX8_worth 3 = .ok (.invokevirtual 244, 3) := by decide +kernel
theorem dX8_worth_6 : decode cX8_worth 6 = .ok (.ldc2_w 194, 3) := by decide +kernel
theorem dX8_worth_9 : decode cX8_worth 9 = .ok (.lmul, 1) := by decide +kernel
theorem dX8_worth_10 : decode cX8_worth 10 = .ok (.aload_n 0, 1) := by decide +kernel
theorem dX8_worth_11 : decode cX8_worth 11 = .ok (.getfield 71, 3) := by decide +kernel
theorem dX8_worth_14 : decode cX8_worth 14 = .ok (.bipush 12, 2) := by decide +kernel
theorem dX8_worth_16 : decode cX8_worth 16 = .ok (.iload_n 1, 1) := by decide +kernel
theorem dX8_worth_17 : decode cX8_worth 17 = .ok (.imul, 1) := by decide +kernel
theorem dX8_worth_18 : decode cX8_worth 18 = .ok (.iload_n 2, 1) := by decide +kernel
theorem dX8_worth_19 : decode cX8_worth 19 = .ok (.iadd, 1) := by decide +kernel
theorem dX8_worth_20 : decode cX8_worth 20 = .ok (.laload, 1) := by decide +kernel
theorem dX8_worth_21 : decode cX8_worth 21 = .ok (.ladd, 1) := by decide +kernel
theorem dX8_worth_22 : decode cX8_worth 22 = .ok (.aload_n 0, 1) := by decide +kernel
theorem dX8_worth_23 : decode cX8_worth 23 = .ok (.getfield 75, 3) := by decide +kernel
theorem dX8_worth_26 : decode cX8_worth 26 = .ok (.bipush 12, 2) := by decide +kernel
theorem dX8_worth_28 : decode cX8_worth 28 = .ok (.iload_n 1, 1) := by decide +kernel
theorem dX8_worth_29 : decode cX8_worth 29 = .ok (.imul, 1) := by decide +kernel
theorem dX8_worth_30 : decode cX8_worth 30 = .ok (.iload_n 2, 1) := by decide +kernel
theorem dX8_worth_31 : decode cX8_worth 31 = .ok (.iadd, 1) := by decide +kernel
theorem dX8_worth_32 : decode cX8_worth 32 = .ok (.laload, 1) := by decide +kernel
theorem dX8_worth_33 : decode cX8_worth 33 = .ok (.lsub, 1) := by decide +kernel
theorem dX8_worth_34 : decode cX8_worth 34 = .ok (.lreturn, 1) := by decide +kernel
set_option maxRecDepth 20000 in
theorem ggX8_owed_X8_worth : GoodIn wsX8_owed wsX8_worth := goodIn_r _ [5, 6, 7, 8, 9, 10, 11, 4, 12, 13, 14, 15, 16, 17, 18, 19, 20, 21, 22, 23, 24, 25, 26, 27, 28, 29, 30, 31, 32, 33, 34, 35, 36, 37, 38, 39, 40, 41, 42, 43, 44, 45, 46, 47, 48, 49, 50, 51, 52, 53, 54, 55, 56, 57, 58, 59, 60, 61, 62, 63] (by decide +kernel) (by decide +kernel)
set_option maxRecDepth 20000 in
theorem gX8_owed_X8_worth : GoodIn wsX8_owed (wsV RX8 248 RX8 yX8_worth wsX8_worth) := goodIn_app (goodIn_of _ (by decide +kernel)) ggX8_owed_X8_worth
theorem dX8_owed_0 : decode cX8_owed 0 = .ok (.aload_n 0, 1) := by decide +kernel
theorem dX8_owed_1 : decode cX8_owed 1 = .ok (.iconst 1, 1) := by decide +kernel
theorem dX8_owed_2 : decode cX8_owed 2 = .ok (.iload_n 1, 1) := by decide +kernel
theorem dX8_owed_3 : decode cX8_owed 3 = .ok (.invokevirtual 248, 3) := by decide +kernel
theorem dX8_owed_6 : decode cX8_owed 6 = .ok (.aload_n 0, 1) := by decide +kernel
theorem dX8_owed_7 : decode cX8_owed 7 = .ok (.iconst 0, 1) := by decide +kernel
theorem dX8_owed_8 : decode cX8_owed 8 = .ok (.iload_n 1, 1) := by decide +kernel
theorem dX8_owed_9 : decode cX8_owed 9 = .ok (.invokevirtual 248, 3) := by decide +kernel
theorem dX8_owed_12 : decode cX8_owed 12 = .ok (.lsub, 1) := by decide +kernel
theorem dX8_owed_13 : decode cX8_owed 13 = .ok (.lreturn, 1) := by decide +kernel
set_option maxRecDepth 20000 in
theorem ggX8_owe_X8_anew : GoodIn wsX8_owe wsX8_anew := goodIn_r _ [5, 6, 7, 8, 9, 4, 10, 11, 12, 13, 14, 15, 16, 17, 18, 19, 20, 21, 22, 23, 24, 25, 26, 27, 28, 29, 30, 31, 32, 33, 34, 35, 36, 37, 38, 39, 40, 41, 42, 43, 44, 45, 46, 47, 48, 49, 50, 51, 52, 53, 54, 55, 56, 57, 58, 59, 60, 61, 62, 63, 64, 65, 66, 67, 68, 69, 70, 71, 72, 73, 74, 75, 76, 77, 78, 79, 80, 81, 82, 83, 84, 85, 86, 87, 88, 89, 90, 91, 92, 93, 94, 95, 96, 97, 98, 99, 100, 101, 102, 103, 104, 105, 106, 119, 120, 121, 122, 123, 124, 125, 126, 127, 128, 129, 130, 131, 132, 133, 134, 135, 136, 137, 138, 139, 140, 141, 142, 143, 144, 145, 146, 147, 148, 149, 150, 151, 152, 153, 154, 155, 156, 157, 158, 159, 160, 161, 162, 163, 164, 165] (by decide +kernel) (by decide +kernel)
set_option maxRecDepth 20000 in
theorem gX8_owe_X8_anew : GoodIn wsX8_owe (wsV RX8 251 RX8 yX8_anew wsX8_anew) := goodIn_app (goodIn_of _ (by decide +kernel)) ggX8_owe_X8_anew
set_option maxRecDepth 20000 in
theorem ggX8_owe_X8_owed : GoodIn wsX8_owe wsX8_owed := goodIn_r _ [110, 111, 112, 113, 4, 114, 31, 11, 12, 115, 116, 117, 118, 17, 100, 101, 102, 119, 120, 121, 122, 123, 124, 125, 126, 127, 128, 129, 130, 131, 132, 133, 134, 135, 136, 137, 138, 139, 140, 141, 142, 143, 144, 145, 146, 147, 148, 149, 150, 151, 152, 153, 154, 155, 156, 157, 158, 159, 160, 161, 162, 163, 164, 165] (by decide +kernel) (by decide +kernel)
set_option maxRecDepth 20000 in
theorem gX8_owe_X8_owed : GoodIn wsX8_owe (wsV RX8 254 RX8 yX8_owed wsX8_owed) := goodIn_app (goodIn_of _ (by decide +kernel)) ggX8_owe_X8_owed
theorem dX8_owe_0 : decode cX8_owe 0 = .ok (.aload_n 0, 1) := by decide +kernel
theorem dX8_owe_1 : decode cX8_owe 1 = .ok (.invokevirtual 251, 3) := by decide +kernel
theorem dX8_owe_4 : decode cX8_owe 4 = .ok (.lconst 0, 1) := by decide +kernel
theorem dX8_owe_5 : decode cX8_owe 5 = .ok (.lstore_n 1, 1) := by decide +kernel
theorem dX8_owe_6 : decode cX8_owe 6 = .ok (.iconst 0, 1) := by decide +kernel
theorem dX8_owe_7 : decode cX8_owe 7 = .ok (.istore_n 3, 1) := by decide +kernel
theorem dX8_owe_8 : decode cX8_owe 8 = .ok (.iload_n 3, 1) := by decide +kernel
theorem dX8_owe_9 : decode cX8_owe 9 = .ok (.bipush 12, 2) := by decide +kernel
theorem dX8_owe_11 : decode cX8_owe 11 = .ok (.if_icmp .ge 17, 3) := by decide +kernel
theorem dX8_owe_14 : decode cX8_owe 14 = .ok (.lload_n 1, 1) := by decide +kernel
theorem dX8_owe_15 : decode cX8_owe 15 = .ok (.aload_n 0, 1) := by decide +kernel
theorem dX8_owe_16 : decode cX8_owe 16 = .ok (.iload_n 3, 1) := by decide +kernel
theorem dX8_owe_17 : decode cX8_owe 17 = .ok (.invokevirtual 254, 3) := by decide +kernel
theorem dX8_owe_20 : decode cX8_owe 20 = .ok (.ladd, 1) := by decide +kernel
theorem dX8_owe_21 : decode cX8_owe 21 = .ok (.lstore_n 1, 1) := by decide +kernel
theorem dX8_owe_22 : decode cX8_owe 22 = .ok (.iinc 3 1, 3) := by decide +kernel
theorem dX8_owe_25 : decode cX8_owe 25 = .ok (.goto (-17), 3) := by decide +kernel
theorem dX8_owe_28 : decode cX8_owe 28 = .ok (.lload_n 1, 1) := by decide +kernel
theorem dX8_owe_29 : decode cX8_owe 29 = .ok (.lreturn, 1) := by decide +kernel
set_option maxRecDepth 20000 in
theorem ggX8_settle_X8_anew : GoodIn wsX8_settle wsX8_anew := goodIn_r _ [13, 14, 15, 16, 17, 12, 18, 1, 2, 3, 4, 5, 6, 19, 7, 20, 21, 22, 23, 24, 25, 26, 27, 28, 29, 30, 31, 32, 33, 34, 35, 36, 37, 38, 39, 40, 41, 42, 43, 44, 45, 46, 47, 48, 49, 50, 51, 52, 53, 54, 55, 56, 57, 58, 59, 60, 61, 62, 63, 64, 65, 66, 67, 68, 69, 70, 71, 72, 73, 74, 75, 76, 77, 78, 79, 80, 81, 82, 83, 84, 85, 86, 87, 88, 89, 90, 91, 92, 93, 94, 95, 96, 97, 98, 99, 100, 101, 102, 103, 104, 105, 106, 107, 120, 121, 122, 123, 124, 125, 126, 127, 128, 129, 130, 131, 132, 133, 134, 135, 136, 137, 138, 139, 140, 141, 142, 143, 144, 145, 146, 147, 148, 149, 150, 151, 152, 153, 154, 155, 156, 157, 158, 159, 160, 161, 162, 163, 164, 165, 166] (by decide +kernel) (by decide +kernel)
set_option maxRecDepth 20000 in
theorem gX8_settle_X8_anew : GoodIn wsX8_settle (wsV RX8 251 RX8 yX8_anew wsX8_anew) := goodIn_app (goodIn_of _ (by decide +kernel)) ggX8_settle_X8_anew
set_option maxRecDepth 20000 in
theorem ggX8_settle_X8_owed : GoodIn wsX8_settle wsX8_owed := goodIn_r _ [111, 112, 113, 114, 12, 115, 32, 1, 2, 116, 117, 118, 119, 19, 101, 102, 103, 120, 121, 122, 123, 124, 125, 126, 127, 128, 129, 130, 131, 132, 133, 134, 135, 136, 137, 138, 139, 140, 141, 142, 143, 144, 145, 146, 147, 148, 149, 150, 151, 152, 153, 154, 155, 156, 157, 158, 159, 160, 161, 162, 163, 164, 165, 166] (by decide +kernel) (by decide +kernel)
set_option maxRecDepth 20000 in
theorem gX8_settle_X8_owed : GoodIn wsX8_settle (wsV RX8 254 RX8 yX8_owed wsX8_owed) := goodIn_app (goodIn_of _ (by decide +kernel)) ggX8_settle_X8_owed
theorem dX8_settle_0 : decode cX8_settle 0 = .ok (.aload_n 0, 1) := by decide +kernel
theorem dX8_settle_1 : decode cX8_settle 1 = .ok (.invokevirtual 251, 3) := by decide +kernel
theorem dX8_settle_4 : decode cX8_settle 4 = .ok (.iconst 0, 1) := by decide +kernel
theorem dX8_settle_5 : decode cX8_settle 5 = .ok (.istore_n 1, 1) := by decide +kernel
theorem dX8_settle_6 : decode cX8_settle 6 = .ok (.iconst 0, 1) := by decide +kernel
theorem dX8_settle_7 : decode cX8_settle 7 = .ok (.istore_n 2, 1) := by decide +kernel
theorem dX8_settle_8 : decode cX8_settle 8 = .ok (.iload_n 2, 1) := by decide +kernel
theorem dX8_settle_9 : decode cX8_settle 9 = .ok (.bipush 12, 2) := by decide +kernel
theorem dX8_settle_11 : decode cX8_settle 11 = .ok (.if_icmp .ge 90, 3) := by decide +kernel
theorem dX8_settle_14 : decode cX8_settle 14 = .ok (.aload_n 0, 1) := by decide +kernel
theorem dX8_settle_15 : decode cX8_settle 15 = .ok (.iload_n 2, 1) := by decide +kernel
theorem dX8_settle_16 : decode cX8_settle 16 = .ok (.invokevirtual 254, 3) := by decide +kernel
theorem dX8_settle_19 : decode cX8_settle 19 = .ok (.lstore_n 3, 1) := by decide +kernel
theorem dX8_settle_20 : decode cX8_settle 20 = .ok (.iload_n 1, 1) := by decide +kernel
theorem dX8_settle_21 : decode cX8_settle 21 = .ok (.lload_n 3, 1) := by decide +kernel
theorem dX8_settle_22 : decode cX8_settle 22 = .ok (.lconst 0, 1) := by decide +kernel
theorem dX8_settle_23 : decode cX8_settle 23 = .ok (.lcmp, 1) := by decide +kernel
theorem dX8_settle_24 : decode cX8_settle 24 = .ok (.ifCond .eq 7, 3) := by decide +kernel
theorem dX8_settle_27 : decode cX8_settle 27 = .ok (.iconst 1, 1) := by decide +kernel
theorem dX8_settle_28 : decode cX8_settle 28 = .ok (.goto 4, 3) := by decide +kernel
theorem dX8_settle_31 : decode cX8_settle 31 = .ok (.iconst 0, 1) := by decide +kernel
theorem dX8_settle_32 : decode cX8_settle 32 = .ok (.iadd, 1) := by decide +kernel
theorem dX8_settle_33 : decode cX8_settle 33 = .ok (.istore_n 1, 1) := by decide +kernel
theorem dX8_settle_34 : decode cX8_settle 34 = .ok (.aload_n 0, 1) := by decide +kernel
theorem dX8_settle_35 : decode cX8_settle 35 = .ok (.getfield 71, 3) := by decide +kernel
theorem dX8_settle_38 : decode cX8_settle 38 = .ok (.iload_n 2, 1) := by decide +kernel
theorem dX8_settle_39 : decode cX8_settle 39 = .ok (.aload_n 0, 1) := by decide +kernel
theorem dX8_settle_40 : decode cX8_settle 40 = .ok (.getfield 71, 3) := by decide +kernel
theorem dX8_settle_43 : decode cX8_settle 43 = .ok (.iload_n 2, 1) := by decide +kernel
theorem dX8_settle_44 : decode cX8_settle 44 = .ok (.laload, 1) := by decide +kernel
theorem dX8_settle_45 : decode cX8_settle 45 = .ok (.lload_n 3, 1) := by decide +kernel
theorem dX8_settle_46 : decode cX8_settle 46 = .ok (.ladd, 1) := by decide +kernel
theorem dX8_settle_47 : decode cX8_settle 47 = .ok (.aload_n 0, 1) := by decide +kernel
theorem dX8_settle_48 : decode cX8_settle 48 = .ok (.getfield 75, 3) := by decide +kernel
theorem dX8_settle_51 : decode cX8_settle 51 = .ok (.iload_n 2, 1) := by decide +kernel
theorem dX8_settle_52 : decode cX8_settle 52 = .ok (.laload, 1) := by decide +kernel
theorem dX8_settle_53 : decode cX8_settle 53 = .ok (.lsub, 1) := by decide +kernel
theorem dX8_settle_54 : decode cX8_settle 54 = .ok (.aload_n 0, 1) := by decide +kernel
theorem dX8_settle_55 : decode cX8_settle 55 = .ok (.getfield 75, 3) := by decide +kernel
theorem dX8_settle_58 : decode cX8_settle 58 = .ok (.bipush 12, 2) := by decide +kernel
theorem dX8_settle_60 : decode cX8_settle 60 = .ok (.iload_n 2, 1) := by decide +kernel
theorem dX8_settle_61 : decode cX8_settle 61 = .ok (.iadd, 1) := by decide +kernel
theorem dX8_settle_62 : decode cX8_settle 62 = .ok (.laload, 1) := by decide +kernel
theorem dX8_settle_63 : decode cX8_settle 63 = .ok (.ladd, 1) := by decide +kernel
theorem dX8_settle_64 : decode cX8_settle 64 = .ok (.lastore, 1) := by decide +kernel
theorem dX8_settle_65 : decode cX8_settle 65 = .ok (.aload_n 0, 1) := by decide +kernel
theorem dX8_settle_66 : decode cX8_settle 66 = .ok (.getfield 75, 3) := by decide +kernel
theorem dX8_settle_69 : decode cX8_settle 69 = .ok (.iload_n 2, 1) := by decide +kernel
theorem dX8_settle_70 : decode cX8_settle 70 = .ok (.aload_n 0, 1) := by decide +kernel
theorem dX8_settle_71 : decode cX8_settle 71 = .ok (.getfield 75, 3) := by decide +kernel
theorem dX8_settle_74 : decode cX8_settle 74 = .ok (.bipush 12, 2) := by decide +kernel
theorem dX8_settle_76 : decode cX8_settle 76 = .ok (.iload_n 2, 1) := by decide +kernel
theorem dX8_settle_77 : decode cX8_settle 77 = .ok (.iadd, 1) := by decide +kernel
theorem dX8_settle_78 : decode cX8_settle 78 = .ok (.laload, 1) := by decide +kernel
theorem dX8_settle_79 : decode cX8_settle 79 = .ok (.lastore, 1) := by decide +kernel
theorem dX8_settle_80 : decode cX8_settle 80 = .ok (.aload_n 0, 1) := by decide +kernel
theorem dX8_settle_81 : decode cX8_settle 81 = .ok (.getfield 90, 3) := by decide +kernel
theorem dX8_settle_84 : decode cX8_settle 84 = .ok (.iload_n 2, 1) := by decide +kernel
theorem dX8_settle_85 : decode cX8_settle 85 = .ok (.aload_n 0, 1) := by decide +kernel
theorem dX8_settle_86 : decode cX8_settle 86 = .ok (.getfield 90, 3) := by decide +kernel
theorem dX8_settle_89 : decode cX8_settle 89 = .ok (.bipush 12, 2) := by decide +kernel
theorem dX8_settle_91 : decode cX8_settle 91 = .ok (.iload_n 2, 1) := by decide +kernel
theorem dX8_settle_92 : decode cX8_settle 92 = .ok (.iadd, 1) := by decide +kernel
theorem dX8_settle_93 : decode cX8_settle 93 = .ok (.iaload, 1) := by decide +kernel
theorem dX8_settle_94 : decode cX8_settle 94 = .ok (.iastore, 1) := by decide +kernel
theorem dX8_settle_95 : decode cX8_settle 95 = .ok (.iinc 2 1, 3) := by decide +kernel
theorem dX8_settle_98 : decode cX8_settle 98 = .ok (.goto (-90), 3) := by decide +kernel
theorem dX8_settle_101 : decode cX8_settle 101 = .ok (.iconst 0, 1) := by decide +kernel
theorem dX8_settle_102 : decode cX8_settle 102 = .ok (.istore_n 2, 1) := by decide +kernel
theorem dX8_settle_103 : decode cX8_settle 103 = .ok (.iload_n 2, 1) := by decide +kernel
theorem dX8_settle_104 : decode cX8_settle 104 = .ok (.bipush 24, 2) := by decide +kernel
theorem dX8_settle_106 : decode cX8_settle 106 = .ok (.if_icmp .ge 39, 3) := by decide +kernel
theorem dX8_settle_109 : decode cX8_settle 109 = .ok (.aload_n 0, 1) := by decide +kernel
theorem dX8_settle_110 : decode cX8_settle 110 = .ok (.getfield 78, 3) := by decide +kernel
theorem dX8_settle_113 : decode cX8_settle 113 = .ok (.iload_n 2, 1) := by decide +kernel
theorem dX8_settle_114 : decode cX8_settle 114 = .ok (.aload_n 0, 1) := by decide +kernel
theorem dX8_settle_115 : decode cX8_settle 115 = .ok (.getfield 78, 3) := by decide +kernel
theorem dX8_settle_118 : decode cX8_settle 118 = .ok (.bipush 24, 2) := by decide +kernel
theorem dX8_settle_120 : decode cX8_settle 120 = .ok (.iload_n 2, 1) := by decide +kernel
theorem dX8_settle_121 : decode cX8_settle 121 = .ok (.iadd, 1) := by decide +kernel
theorem dX8_settle_122 : decode cX8_settle 122 = .ok (.laload, 1) := by decide +kernel
theorem dX8_settle_123 : decode cX8_settle 123 = .ok (.lastore, 1) := by decide +kernel
theorem dX8_settle_124 : decode cX8_settle 124 = .ok (.aload_n 0, 1) := by decide +kernel
theorem dX8_settle_125 : decode cX8_settle 125 = .ok (.getfield 81, 3) := by decide +kernel
theorem dX8_settle_128 : decode cX8_settle 128 = .ok (.iload_n 2, 1) := by decide +kernel
theorem dX8_settle_129 : decode cX8_settle 129 = .ok (.aload_n 0, 1) := by decide +kernel
theorem dX8_settle_130 : decode cX8_settle 130 = .ok (.getfield 81, 3) := by decide +kernel
theorem dX8_settle_133 : decode cX8_settle 133 = .ok (.bipush 24, 2) := by decide +kernel
theorem dX8_settle_135 : decode cX8_settle 135 = .ok (.iload_n 2, 1) := by decide +kernel
theorem dX8_settle_136 : decode cX8_settle 136 = .ok (.iadd, 1) := by decide +kernel
theorem dX8_settle_137 : decode cX8_settle 137 = .ok (.laload, 1) := by decide +kernel
theorem dX8_settle_138 : decode cX8_settle 138 = .ok (.lastore, 1) := by decide +kernel
theorem dX8_settle_139 : decode cX8_settle 139 = .ok (.iinc 2 1, 3) := by decide +kernel
theorem dX8_settle_142 : decode cX8_settle 142 = .ok (.goto (-39), 3) := by decide +kernel
theorem dX8_settle_145 : decode cX8_settle 145 = .ok (.iconst 0, 1) := by decide +kernel
theorem dX8_settle_146 : decode cX8_settle 146 = .ok (.istore_n 2, 1) := by decide +kernel
theorem dX8_settle_147 : decode cX8_settle 147 = .ok (.iload_n 2, 1) := by decide +kernel
theorem dX8_settle_148 : decode cX8_settle 148 = .ok (.sipush 960, 3) := by decide +kernel
theorem dX8_settle_151 : decode cX8_settle 151 = .ok (.if_icmp .ge 25, 3) := by decide +kernel
theorem dX8_settle_154 : decode cX8_settle 154 = .ok (.aload_n 0, 1) := by decide +kernel
theorem dX8_settle_155 : decode cX8_settle 155 = .ok (.getfield 84, 3) := by decide +kernel
theorem dX8_settle_158 : decode cX8_settle 158 = .ok (.iload_n 2, 1) := by decide +kernel
theorem dX8_settle_159 : decode cX8_settle 159 = .ok (.aload_n 0, 1) := by decide +kernel
theorem dX8_settle_160 : decode cX8_settle 160 = .ok (.getfield 84, 3) := by decide +kernel
theorem dX8_settle_163 : decode cX8_settle 163 = .ok (.sipush 960, 3) := by decide +kernel
theorem dX8_settle_166 : decode cX8_settle 166 = .ok (.iload_n 2, 1) := by decide +kernel
theorem dX8_settle_167 : decode cX8_settle 167 = .ok (.iadd, 1) := by decide +kernel
theorem dX8_settle_168 : decode cX8_settle 168 = .ok (.laload, 1) := by decide +kernel
theorem dX8_settle_169 : decode cX8_settle 169 = .ok (.lastore, 1) := by decide +kernel
theorem dX8_settle_170 : decode cX8_settle 170 = .ok (.iinc 2 1, 3) := by decide +kernel
theorem dX8_settle_173 : decode cX8_settle 173 = .ok (.goto (-26), 3) := by decide +kernel
theorem dX8_settle_176 : decode cX8_settle 176 = .ok (.aload_n 0, 1) := by decide +kernel
theorem dX8_settle_177 : decode cX8_settle 177 = .ok (.getfield 93, 3) := by decide +kernel
theorem dX8_settle_180 : decode cX8_settle 180 = .ok (.iconst 0, 1) := by decide +kernel
theorem dX8_settle_181 : decode cX8_settle 181 = .ok (.aload_n 0, 1) := by decide +kernel
theorem dX8_settle_182 : decode cX8_settle 182 = .ok (.getfield 93, 3) := by decide +kernel
theorem dX8_settle_185 : decode cX8_settle 185 = .ok (.iconst 1, 1) := by decide +kernel
theorem dX8_settle_186 : decode cX8_settle 186 = .ok (.laload, 1) := by decide +kernel
theorem dX8_settle_187 : decode cX8_settle 187 = .ok (.lastore, 1) := by decide +kernel
theorem dX8_settle_188 : decode cX8_settle 188 = .ok (.aload_n 0, 1) := by decide +kernel
theorem dX8_settle_189 : decode cX8_settle 189 = .ok (.aload_n 0, 1) := by decide +kernel
theorem dX8_settle_190 : decode cX8_settle 190 = .ok (.getfield 258, 3) := by decide +kernel
theorem dX8_settle_193 : decode cX8_settle 193 = .ok (.iconst 1, 1) := by decide +kernel
theorem dX8_settle_194 : decode cX8_settle 194 = .ok (.iadd, 1) := by decide +kernel
theorem dX8_settle_195 : decode cX8_settle 195 = .ok (.putfield 258, 3) := by decide +kernel
theorem dX8_settle_198 : decode cX8_settle 198 = .ok (.iload_n 1, 1) := by decide +kernel
theorem dX8_settle_199 : decode cX8_settle 199 = .ok (.ireturn, 1) := by decide +kernel
set_option maxRecDepth 20000 in
theorem ggX8_due_X8_isHand : GoodIn wsX8_due wsX8_isHand := goodIn_r _ [6] (by decide +kernel) (by decide +kernel)
set_option maxRecDepth 20000 in
theorem gX8_due_X8_isHand : GoodIn wsX8_due (va_wsS RX8 132 yX8_isHand wsX8_isHand) := goodIn_app (goodIn_of _ (by decide +kernel)) ggX8_due_X8_isHand
set_option maxRecDepth 20000 in
theorem ggX8_due_X8_dueAt : GoodIn wsX8_due wsX8_dueAt := goodIn_r _ [9] (by decide +kernel) (by decide +kernel)
set_option maxRecDepth 20000 in
theorem gX8_due_X8_dueAt : GoodIn wsX8_due (va_wsS RX8 217 yX8_dueAt wsX8_dueAt) := goodIn_app (goodIn_of _ (by decide +kernel)) ggX8_due_X8_dueAt
theorem dX8_due_0 : decode cX8_due 0 = .ok (.iload_n 1, 1) := by decide +kernel
theorem dX8_due_1 : decode cX8_due 1 = .ok (.invokestatic 132, 3) := by decide +kernel
theorem dX8_due_4 : decode cX8_due 4 = .ok (.ifCond .eq 29, 3) := by decide +kernel
theorem dX8_due_7 : decode cX8_due 7 = .ok (.iload_n 2, 1) := by decide +kernel
theorem dX8_due_8 : decode cX8_due 8 = .ok (.ifCond .lt 25, 3) := by decide +kernel
theorem dX8_due_11 : decode cX8_due 11 = .ok (.iload_n 2, 1) := by decide +kernel
theorem dX8_due_12 : decode cX8_due 12 = .ok (.aload_n 0, 1) := by decide +kernel
theorem dX8_due_13 : decode cX8_due 13 = .ok (.getfield 136, 3) := by decide +kernel
theorem dX8_due_16 : decode cX8_due 16 = .ok (.if_icmp .ge 17, 3) := by decide +kernel
theorem dX8_due_19 : decode cX8_due 19 = .ok (.aload_n 0, 1) := by decide +kernel
theorem dX8_due_20 : decode cX8_due 20 = .ok (.getfield 87, 3) := by decide +kernel
theorem dX8_due_23 : decode cX8_due 23 = .ok (.iconst 0, 1) := by decide +kernel
theorem dX8_due_24 : decode cX8_due 24 = .ok (.iload_n 1, 1) := by decide +kernel
theorem dX8_due_25 : decode cX8_due 25 = .ok (.iload_n 2, 1) := by decide +kernel
theorem dX8_due_26 : decode cX8_due 26 = .ok (.invokestatic 217, 3) := by decide +kernel
theorem dX8_due_29 : decode cX8_due 29 = .ok (.iaload, 1) := by decide +kernel
theorem dX8_due_30 : decode cX8_due 30 = .ok (.goto 4, 3) := by decide +kernel
theorem dX8_due_33 : decode cX8_due 33 = .ok (.iconst (-1), 1) := by decide +kernel
theorem dX8_due_34 : decode cX8_due 34 = .ok (.ireturn, 1) := by decide +kernel
set_option maxRecDepth 20000 in
theorem ggX8_hand_X8_isHand : GoodIn wsX8_hand wsX8_isHand := goodIn_r _ [8] (by decide +kernel) (by decide +kernel)
set_option maxRecDepth 20000 in
theorem gX8_hand_X8_isHand : GoodIn wsX8_hand (va_wsS RX8 132 yX8_isHand wsX8_isHand) := goodIn_app (goodIn_of _ (by decide +kernel)) ggX8_hand_X8_isHand
set_option maxRecDepth 20000 in
theorem ggX8_hand_X8_duesOf : GoodIn wsX8_hand wsX8_duesOf := goodIn_r _ [12, 13, 14, 15, 7, 16, 123, 124, 125, 126, 127, 128, 129, 130, 131, 132, 133, 134, 135, 136, 137, 138, 139, 140, 141, 142, 143, 144, 145, 146, 147, 148, 149, 150, 151, 152, 153, 154, 155, 156, 157, 158, 159, 160, 161, 162, 163, 164, 165, 166, 167, 168, 169] (by decide +kernel) (by decide +kernel)
set_option maxRecDepth 20000 in
theorem gX8_hand_X8_duesOf : GoodIn wsX8_hand (wsV RX8 244 RX8 yX8_duesOf wsX8_duesOf) := goodIn_app (goodIn_of _ (by decide +kernel)) ggX8_hand_X8_duesOf
set_option maxRecDepth 20000 in
theorem ggX8_hand_X8_anew : GoodIn wsX8_hand wsX8_anew := goodIn_r _ [20, 21, 22, 23, 24, 7, 25, 2, 3, 4, 26, 27, 28, 13, 29, 30, 31, 32, 33, 34, 35, 36, 37, 38, 39, 40, 41, 42, 43, 44, 45, 46, 47, 48, 49, 50, 51, 52, 53, 54, 55, 56, 57, 58, 59, 60, 61, 62, 63, 64, 65, 66, 67, 68, 69, 70, 71, 72, 73, 74, 75, 76, 77, 78, 79, 80, 81, 82, 83, 84, 85, 86, 87, 88, 89, 90, 91, 92, 93, 94, 95, 96, 97, 98, 99, 100, 101, 102, 103, 104, 105, 106, 107, 108, 109, 110, 14, 15, 16, 111, 112, 113, 114, 123, 124, 125, 126, 127, 128, 129, 130, 131, 132, 133, 134, 135, 136, 137, 138, 139, 140, 141, 142, 143, 144, 145, 146, 147, 148, 149, 150, 151, 152, 153, 154, 155, 156, 157, 158, 159, 160, 161, 162, 163, 164, 165, 166, 167, 168, 169] (by decide +kernel) (by decide +kernel)
set_option maxRecDepth 20000 in
theorem gX8_hand_X8_anew : GoodIn wsX8_hand (wsV RX8 251 RX8 yX8_anew wsX8_anew) := goodIn_app (goodIn_of _ (by decide +kernel)) ggX8_hand_X8_anew
set_option maxRecDepth 20000 in
theorem ggX8_hand_X8_owed : GoodIn wsX8_hand wsX8_owed := goodIn_r _ [118, 119, 120, 121, 7, 122, 42, 2, 3, 9, 10, 11, 12, 13, 14, 15, 16, 123, 124, 125, 126, 127, 128, 129, 130, 131, 132, 133, 134, 135, 136, 137, 138, 139, 140, 141, 142, 143, 144, 145, 146, 147, 148, 149, 150, 151, 152, 153, 154, 155, 156, 157, 158, 159, 160, 161, 162, 163, 164, 165, 166, 167, 168, 169] (by decide +kernel) (by decide +kernel)
set_option maxRecDepth 20000 in
theorem gX8_hand_X8_owed : GoodIn wsX8_hand (wsV RX8 254 RX8 yX8_owed wsX8_owed) := goodIn_app (goodIn_of _ (by decide +kernel)) ggX8_hand_X8_owed
theorem dX8_hand_0 : decode cX8_hand 0 = .ok (.iload_n 1, 1) := by decide +kernel
theorem dX8_hand_1 : decode cX8_hand 1 = .ok (.invokestatic 132, 3) := by decide +kernel
theorem dX8_hand_4 : decode cX8_hand 4 = .ok (.ifCond .ne 7, 3) := by decide +kernel
theorem dX8_hand_7 : decode cX8_hand 7 = .ok (.ldc2_w 227, 3) := by decide +kernel
theorem dX8_hand_10 : decode cX8_hand 10 = .ok (.lreturn, 1) := by decide +kernel
theorem dX8_hand_11 : decode cX8_hand 11 = .ok (.iload_n 2, 1) := by decide +kernel
theorem dX8_hand_12 : decode cX8_hand 12 = .ok (.tableswitch 75 0 4 #[36, 43, 50, 57, 65], 36) := by decide +kernel
theorem dX8_hand_48 : decode cX8_hand 48 = .ok (.aload_n 0, 1) := by decide +kernel
theorem dX8_hand_49 : decode cX8_hand 49 = .ok (.getfield 71, 3) := by decide +kernel
theorem dX8_hand_52 : decode cX8_hand 52 = .ok (.iload_n 1, 1) := by decide +kernel
theorem dX8_hand_53 : decode cX8_hand 53 = .ok (.laload, 1) := by decide +kernel
theorem dX8_hand_54 : decode cX8_hand 54 = .ok (.lreturn, 1) := by decide +kernel
theorem dX8_hand_55 : decode cX8_hand 55 = .ok (.aload_n 0, 1) := by decide +kernel
theorem dX8_hand_56 : decode cX8_hand 56 = .ok (.getfield 75, 3) := by decide +kernel
theorem dX8_hand_59 : decode cX8_hand 59 = .ok (.iload_n 1, 1) := by decide +kernel
theorem dX8_hand_60 : decode cX8_hand 60 = .ok (.laload, 1) := by decide +kernel
theorem dX8_hand_61 : decode cX8_hand 61 = .ok (.lreturn, 1) := by decide +kernel
theorem dX8_hand_62 : decode cX8_hand 62 = .ok (.aload_n 0, 1) := by decide +kernel
theorem dX8_hand_63 : decode cX8_hand 63 = .ok (.iconst 0, 1) := by decide +kernel
theorem dX8_hand_64 : decode cX8_hand 64 = .ok (.iload_n 1, 1) := by decide +kernel
theorem dX8_hand_65 : decode cX8_hand 65 = .ok (.invokevirtual 244, 3) := by decide +kernel
theorem dX8_hand_68 : decode cX8_hand 68 = .ok (.lreturn, 1) := by decide +kernel
theorem dX8_hand_69 : decode cX8_hand 69 = .ok (.aload_n 0, 1) := by decide +kernel
theorem dX8_hand_70 : decode cX8_hand 70 = .ok (.getfield 90, 3) := by decide +kernel
theorem dX8_hand_73 : decode cX8_hand 73 = .ok (.iload_n 1, 1) := by decide +kernel
theorem dX8_hand_74 : decode cX8_hand 74 = .ok (.iaload, 1) := by decide +kernel
theorem dX8_hand_75 : decode cX8_hand 75 = .ok (.i2l, 1) := by decide +kernel
theorem dX8_hand_76 : decode cX8_hand 76 = .ok (.lreturn, 1) := by decide +kernel
theorem dX8_hand_77 : decode cX8_hand 77 = .ok (.aload_n 0, 1) := by decide +kernel
theorem dX8_hand_78 : decode cX8_hand 78 = .ok (.invokevirtual 251, 3) := by decide +kernel
theorem dX8_hand_81 : decode cX8_hand 81 = .ok (.aload_n 0, 1) := by decide +kernel
theorem dX8_hand_82 : decode cX8_hand 82 = .ok (.iload_n 1, 1) := by decide +kernel
theorem dX8_hand_83 : decode cX8_hand 83 = .ok (.invokevirtual 254, 3) := by decide +kernel
theorem dX8_hand_86 : decode cX8_hand 86 = .ok (.lreturn, 1) := by decide +kernel
theorem dX8_hand_87 : decode cX8_hand 87 = .ok (.ldc2_w 227, 3) := by decide +kernel
theorem dX8_hand_90 : decode cX8_hand 90 = .ok (.lreturn, 1) := by decide +kernel
set_option maxRecDepth 20000 in
theorem ggX8_inBags_X8_bag : GoodIn wsX8_inBags wsX8_bag := goodIn_r _ [5] (by decide +kernel) (by decide +kernel)
set_option maxRecDepth 20000 in
theorem gX8_inBags_X8_bag : GoodIn wsX8_inBags (va_wsS RX8 196 yX8_bag wsX8_bag) := goodIn_app (goodIn_of _ (by decide +kernel)) ggX8_inBags_X8_bag
theorem dX8_inBags_0 : decode cX8_inBags 0 = .ok (.lconst 0, 1) := by decide +kernel
theorem dX8_inBags_1 : decode cX8_inBags 1 = .ok (.lstore_n 2, 1) := by decide +kernel
theorem dX8_inBags_2 : decode cX8_inBags 2 = .ok (.iconst 0, 1) := by decide +kernel
theorem dX8_inBags_3 : decode cX8_inBags 3 = .ok (.istore 4, 2) := by decide +kernel
theorem dX8_inBags_5 : decode cX8_inBags 5 = .ok (.iload 4, 2) := by decide +kernel
theorem dX8_inBags_7 : decode cX8_inBags 7 = .ok (.bipush 40, 2) := by decide +kernel
theorem dX8_inBags_9 : decode cX8_inBags 9 = .ok (.if_icmp .ge 24, 3) := by decide +kernel
theorem dX8_inBags_12 : decode cX8_inBags 12 = .ok (.lload_n 2, 1) := by decide +kernel
theorem dX8_inBags_13 : decode cX8_inBags 13 = .ok (.aload_n 0, 1) := by decide +kernel
theorem dX8_inBags_14 : decode cX8_inBags 14 = .ok (.getfield 84, 3) := by decide +kernel
theorem dX8_inBags_17 : decode cX8_inBags 17 = .ok (.iconst 0, 1) := by decide +kernel
theorem dX8_inBags_18 : decode cX8_inBags 18 = .ok (.iload_n 1, 1) := by decide +kernel
theorem dX8_inBags_19 : decode cX8_inBags 19 = .ok (.iload 4, 2) := by decide +kernel
theorem dX8_inBags_21 : decode cX8_inBags 21 = .ok (.invokestatic 196, 3) := by decide +kernel
theorem dX8_inBags_24 : decode cX8_inBags 24 = .ok (.laload, 1) := by decide +kernel
theorem dX8_inBags_25 : decode cX8_inBags 25 = .ok (.ladd, 1) := by decide +kernel
theorem dX8_inBags_26 : decode cX8_inBags 26 = .ok (.lstore_n 2, 1) := by decide +kernel
theorem dX8_inBags_27 : decode cX8_inBags 27 = .ok (.iinc 4 1, 3) := by decide +kernel
theorem dX8_inBags_30 : decode cX8_inBags 30 = .ok (.goto (-25), 3) := by decide +kernel
theorem dX8_inBags_33 : decode cX8_inBags 33 = .ok (.lload_n 2, 1) := by decide +kernel
theorem dX8_inBags_34 : decode cX8_inBags 34 = .ok (.lreturn, 1) := by decide +kernel
set_option maxRecDepth 20000 in
theorem ggX8_has_X8_inBags : GoodIn wsX8_has wsX8_inBags := goodIn_r _ [13, 8, 14, 15, 12, 16, 17, 18, 19, 20, 21, 22, 23, 24, 25, 26, 27, 28, 29, 30, 31, 32, 33, 34, 35, 36, 37, 38, 39, 40, 41, 42, 43, 44, 45, 46, 47, 48, 49, 50, 51, 52, 53, 54, 55, 56, 57, 58, 59, 60, 61, 62, 63] (by decide +kernel) (by decide +kernel)
set_option maxRecDepth 20000 in
theorem gX8_has_X8_inBags : GoodIn wsX8_has (wsV RX8 261 RX8 yX8_inBags wsX8_inBags) := goodIn_app (goodIn_of _ (by decide +kernel)) ggX8_has_X8_inBags
set_option maxRecDepth 20000 in
theorem ggX8_has_X8_bag : GoodIn wsX8_has wsX8_bag := goodIn_r _ [16] (by decide +kernel) (by decide +kernel)
set_option maxRecDepth 20000 in
theorem gX8_has_X8_bag : GoodIn wsX8_has (va_wsS RX8 196 yX8_bag wsX8_bag) := goodIn_app (goodIn_of _ (by decide +kernel)) ggX8_has_X8_bag
theorem dX8_has_0 : decode cX8_has 0 = .ok (.iload_n 1, 1) := by decide +kernel
theorem dX8_has_1 : decode cX8_has 1 = .ok (.ifCond .lt 11, 3) := by decide +kernel
theorem dX8_has_4 : decode cX8_has 4 = .ok (.iload_n 1, 1) := by decide +kernel
theorem dX8_has_5 : decode cX8_has 5 = .ok (.aload_n 0, 1) := by decide +kernel
theorem dX8_has_6 : decode cX8_has 6 = .ok (.getfield 157, 3) := by decide +kernel
theorem dX8_has_9 : decode cX8_has 9 = .ok (.if_icmp .lt 7, 3) := by decide +kernel
theorem dX8_has_12 : decode cX8_has 12 = .ok (.ldc2_w 227, 3) := by decide +kernel
theorem dX8_has_15 : decode cX8_has 15 = .ok (.lreturn, 1) := by decide +kernel
theorem dX8_has_16 : decode cX8_has 16 = .ok (.iload_n 2, 1) := by decide +kernel
theorem dX8_has_17 : decode cX8_has 17 = .ok (.ifCond .ne 10, 3) := by decide +kernel
theorem dX8_has_20 : decode cX8_has 20 = .ok (.aload_n 0, 1) := by decide +kernel
theorem dX8_has_21 : decode cX8_has 21 = .ok (.getfield 78, 3) := by decide +kernel
theorem dX8_has_24 : decode cX8_has 24 = .ok (.iload_n 1, 1) := by decide +kernel
theorem dX8_has_25 : decode cX8_has 25 = .ok (.laload, 1) := by decide +kernel
theorem dX8_has_26 : decode cX8_has 26 = .ok (.lreturn, 1) := by decide +kernel
theorem dX8_has_27 : decode cX8_has 27 = .ok (.iload_n 2, 1) := by decide +kernel
theorem dX8_has_28 : decode cX8_has 28 = .ok (.iconst 1, 1) := by decide +kernel
theorem dX8_has_29 : decode cX8_has 29 = .ok (.if_icmp .ne 10, 3) := by decide +kernel
theorem dX8_has_32 : decode cX8_has 32 = .ok (.aload_n 0, 1) := by decide +kernel
theorem dX8_has_33 : decode cX8_has 33 = .ok (.getfield 81, 3) := by decide +kernel
theorem dX8_has_36 : decode cX8_has 36 = .ok (.iload_n 1, 1) := by decide +kernel
theorem dX8_has_37 : decode cX8_has 37 = .ok (.laload, 1) := by decide +kernel
theorem dX8_has_38 : decode cX8_has 38 = .ok (.lreturn, 1) := by decide +kernel
theorem dX8_has_39 : decode cX8_has 39 = .ok (.iload_n 2, 1) := by decide +kernel
theorem dX8_has_40 : decode cX8_has 40 = .ok (.iconst 2, 1) := by decide +kernel
theorem dX8_has_41 : decode cX8_has 41 = .ok (.if_icmp .ne 54, 3) := by decide +kernel
theorem dX8_has_44 : decode cX8_has 44 = .ok (.aload_n 0, 1) := by decide +kernel
theorem dX8_has_45 : decode cX8_has 45 = .ok (.getfield 22, 3) := by decide +kernel
theorem dX8_has_48 : decode cX8_has 48 = .ok (.iload_n 1, 1) := by decide +kernel
theorem dX8_has_49 : decode cX8_has 49 = .ok (.iaload, 1) := by decide +kernel
theorem dX8_has_50 : decode cX8_has 50 = .ok (.iconst 1, 1) := by decide +kernel
theorem dX8_has_51 : decode cX8_has 51 = .ok (.if_icmp .ne 24, 3) := by decide +kernel
theorem dX8_has_54 : decode cX8_has 54 = .ok (.aload_n 0, 1) := by decide +kernel
theorem dX8_has_55 : decode cX8_has 55 = .ok (.getfield 34, 3) := by decide +kernel
theorem dX8_has_58 : decode cX8_has 58 = .ok (.iload_n 1, 1) := by decide +kernel
theorem dX8_has_59 : decode cX8_has 59 = .ok (.iaload, 1) := by decide +kernel
theorem dX8_has_60 : decode cX8_has 60 = .ok (.i2l, 1) := by decide +kernel
theorem dX8_has_61 : decode cX8_has 61 = .ok (.ldc2_w 194, 3) := by decide +kernel
theorem dX8_has_64 : decode cX8_has 64 = .ok (.lmul, 1) := by decide +kernel
theorem dX8_has_65 : decode cX8_has 65 = .ok (.aload_n 0, 1) := by decide +kernel
theorem dX8_has_66 : decode cX8_has 66 = .ok (.getfield 78, 3) := by decide +kernel
theorem dX8_has_69 : decode cX8_has 69 = .ok (.iload_n 1, 1) := by decide +kernel
theorem dX8_has_70 : decode cX8_has 70 = .ok (.laload, 1) := by decide +kernel
theorem dX8_has_71 : decode cX8_has 71 = .ok (.lsub, 1) := by decide +kernel
theorem dX8_has_72 : decode cX8_has 72 = .ok (.goto 22, 3) := by decide +kernel
theorem dX8_has_75 : decode cX8_has 75 = .ok (.aload_n 0, 1) := by decide +kernel
theorem dX8_has_76 : decode cX8_has 76 = .ok (.getfield 22, 3) := by decide +kernel
theorem dX8_has_79 : decode cX8_has 79 = .ok (.iload_n 1, 1) := by decide +kernel
theorem dX8_has_80 : decode cX8_has 80 = .ok (.iaload, 1) := by decide +kernel
theorem dX8_has_81 : decode cX8_has 81 = .ok (.iconst 4, 1) := by decide +kernel
theorem dX8_has_82 : decode cX8_has 82 = .ok (.if_icmp .ne 11, 3) := by decide +kernel
theorem dX8_has_85 : decode cX8_has 85 = .ok (.aload_n 0, 1) := by decide +kernel
theorem dX8_has_86 : decode cX8_has 86 = .ok (.iload_n 1, 1) := by decide +kernel
theorem dX8_has_87 : decode cX8_has 87 = .ok (.invokevirtual 261, 3) := by decide +kernel
theorem dX8_has_90 : decode cX8_has 90 = .ok (.goto 4, 3) := by decide +kernel
theorem dX8_has_93 : decode cX8_has 93 = .ok (.lconst 0, 1) := by decide +kernel
theorem dX8_has_94 : decode cX8_has 94 = .ok (.lreturn, 1) := by decide +kernel
theorem dX8_has_95 : decode cX8_has 95 = .ok (.iload_n 2, 1) := by decide +kernel
theorem dX8_has_96 : decode cX8_has 96 = .ok (.bipush 20, 2) := by decide +kernel
theorem dX8_has_98 : decode cX8_has 98 = .ok (.if_icmp .lt 26, 3) := by decide +kernel
theorem dX8_has_101 : decode cX8_has 101 = .ok (.iload_n 2, 1) := by decide +kernel
theorem dX8_has_102 : decode cX8_has 102 = .ok (.bipush 60, 2) := by decide +kernel
theorem dX8_has_104 : decode cX8_has 104 = .ok (.if_icmp .ge 20, 3) := by decide +kernel
theorem dX8_has_107 : decode cX8_has 107 = .ok (.aload_n 0, 1) := by decide +kernel
theorem dX8_has_108 : decode cX8_has 108 = .ok (.getfield 84, 3) := by decide +kernel
theorem dX8_has_111 : decode cX8_has 111 = .ok (.iconst 0, 1) := by decide +kernel
theorem dX8_has_112 : decode cX8_has 112 = .ok (.iload_n 1, 1) := by decide +kernel
theorem dX8_has_113 : decode cX8_has 113 = .ok (.iload_n 2, 1) := by decide +kernel
theorem dX8_has_114 : decode cX8_has 114 = .ok (.bipush 20, 2) := by decide +kernel
theorem dX8_has_116 : decode cX8_has 116 = .ok (.isub, 1) := by decide +kernel
theorem dX8_has_117 : decode cX8_has 117 = .ok (.invokestatic 196, 3) := by decide +kernel
theorem dX8_has_120 : decode cX8_has 120 = .ok (.laload, 1) := by decide +kernel
theorem dX8_has_121 : decode cX8_has 121 = .ok (.goto 4, 3) := by decide +kernel
theorem dX8_has_124 : decode cX8_has 124 = .ok (.lconst 0, 1) := by decide +kernel
theorem dX8_has_125 : decode cX8_has 125 = .ok (.lreturn, 1) := by decide +kernel
theorem dX8_line_0 : decode cX8_line 0 = .ok (.iload_n 1, 1) := by decide +kernel
theorem dX8_line_1 : decode cX8_line 1 = .ok (.ifCond .lt 18, 3) := by decide +kernel
theorem dX8_line_4 : decode cX8_line 4 = .ok (.iload_n 1, 1) := by decide +kernel
theorem dX8_line_5 : decode cX8_line 5 = .ok (.aload_n 0, 1) := by decide +kernel
theorem dX8_line_6 : decode cX8_line 6 = .ok (.getfield 178, 3) := by decide +kernel
theorem dX8_line_9 : decode cX8_line 9 = .ok (.if_icmp .ge 10, 3) := by decide +kernel
theorem dX8_line_12 : decode cX8_line 12 = .ok (.iload_n 1, 1) := by decide +kernel
theorem dX8_line_13 : decode cX8_line 13 = .ok (.sipush 600, 3) := by decide +kernel
theorem dX8_line_16 : decode cX8_line 16 = .ok (.if_icmp .lt 7, 3) := by decide +kernel
theorem dX8_line_19 : decode cX8_line 19 = .ok (.ldc2_w 227, 3) := by decide +kernel
theorem dX8_line_22 : decode cX8_line 22 = .ok (.lreturn, 1) := by decide +kernel
theorem dX8_line_23 : decode cX8_line 23 = .ok (.iload_n 2, 1) := by decide +kernel
theorem dX8_line_24 : decode cX8_line 24 = .ok (.tableswitch 74 0 4 #[36, 44, 52, 60, 67], 36) := by decide +kernel
theorem dX8_line_60 : decode cX8_line 60 = .ok (.aload_n 0, 1) := by decide +kernel
theorem dX8_line_61 : decode cX8_line 61 = .ok (.getfield 108, 3) := by decide +kernel
theorem dX8_line_64 : decode cX8_line 64 = .ok (.iload_n 1, 1) := by decide +kernel
theorem dX8_line_65 : decode cX8_line 65 = .ok (.iaload, 1) := by decide +kernel
theorem dX8_line_66 : decode cX8_line 66 = .ok (.i2l, 1) := by decide +kernel
theorem dX8_line_67 : decode cX8_line 67 = .ok (.lreturn, 1) := by decide +kernel
theorem dX8_line_68 : decode cX8_line 68 = .ok (.aload_n 0, 1) := by decide +kernel
theorem dX8_line_69 : decode cX8_line 69 = .ok (.getfield 111, 3) := by decide +kernel
theorem dX8_line_72 : decode cX8_line 72 = .ok (.iload_n 1, 1) := by decide +kernel
theorem dX8_line_73 : decode cX8_line 73 = .ok (.iaload, 1) := by decide +kernel
theorem dX8_line_74 : decode cX8_line 74 = .ok (.i2l, 1) := by decide +kernel
theorem dX8_line_75 : decode cX8_line 75 = .ok (.lreturn, 1) := by decide +kernel
theorem dX8_line_76 : decode cX8_line 76 = .ok (.aload_n 0, 1) := by decide +kernel
theorem dX8_line_77 : decode cX8_line 77 = .ok (.getfield 114, 3) := by decide +kernel
theorem dX8_line_80 : decode cX8_line 80 = .ok (.iload_n 1, 1) := by decide +kernel
theorem dX8_line_81 : decode cX8_line 81 = .ok (.iaload, 1) := by decide +kernel
theorem dX8_line_82 : decode cX8_line 82 = .ok (.i2l, 1) := by decide +kernel
theorem dX8_line_83 : decode cX8_line 83 = .ok (.lreturn, 1) := by decide +kernel
theorem dX8_line_84 : decode cX8_line 84 = .ok (.aload_n 0, 1) := by decide +kernel
theorem dX8_line_85 : decode cX8_line 85 = .ok (.getfield 117, 3) := by decide +kernel
theorem dX8_line_88 : decode cX8_line 88 = .ok (.iload_n 1, 1) := by decide +kernel
theorem dX8_line_89 : decode cX8_line 89 = .ok (.laload, 1) := by decide +kernel
theorem dX8_line_90 : decode cX8_line 90 = .ok (.lreturn, 1) := by decide +kernel
theorem dX8_line_91 : decode cX8_line 91 = .ok (.aload_n 0, 1) := by decide +kernel
theorem dX8_line_92 : decode cX8_line 92 = .ok (.getfield 120, 3) := by decide +kernel
theorem dX8_line_95 : decode cX8_line 95 = .ok (.iload_n 1, 1) := by decide +kernel
theorem dX8_line_96 : decode cX8_line 96 = .ok (.laload, 1) := by decide +kernel
theorem dX8_line_97 : decode cX8_line 97 = .ok (.lreturn, 1) := by decide +kernel
theorem dX8_line_98 : decode cX8_line 98 = .ok (.ldc2_w 227, 3) := by decide +kernel
theorem dX8_line_101 : decode cX8_line 101 = .ok (.lreturn, 1) := by decide +kernel
theorem dX8_count_0 : decode cX8_count 0 = .ok (.lconst 0, 1) := by decide +kernel
theorem dX8_count_1 : decode cX8_count 1 = .ok (.lstore_n 2, 1) := by decide +kernel
theorem dX8_count_2 : decode cX8_count 2 = .ok (.iload_n 1, 1) := by decide +kernel
theorem dX8_count_3 : decode cX8_count 3 = .ok (.tableswitch 136 0 7 #[45, 51, 57, 63, 70, 99, 104, 130], 45) := by decide +kernel
theorem dX8_count_48 : decode cX8_count 48 = .ok (.aload_n 0, 1) := by decide +kernel
theorem dX8_count_49 : decode cX8_count 49 = .ok (.getfield 136, 3) := by decide +kernel
theorem dX8_count_52 : decode cX8_count 52 = .ok (.i2l, 1) := by decide +kernel
theorem dX8_count_53 : decode cX8_count 53 = .ok (.lreturn, 1) := by decide +kernel
theorem dX8_count_54 : decode cX8_count 54 = .ok (.aload_n 0, 1) := by decide +kernel
theorem dX8_count_55 : decode cX8_count 55 = .ok (.getfield 157, 3) := by decide +kernel
theorem dX8_count_58 : decode cX8_count 58 = .ok (.i2l, 1) := by decide +kernel
theorem dX8_count_59 : decode cX8_count 59 = .ok (.lreturn, 1) := by decide +kernel
theorem dX8_count_60 : decode cX8_count 60 = .ok (.aload_n 0, 1) := by decide +kernel
theorem dX8_count_61 : decode cX8_count 61 = .ok (.getfield 178, 3) := by decide +kernel
theorem dX8_count_64 : decode cX8_count 64 = .ok (.i2l, 1) := by decide +kernel
theorem dX8_count_65 : decode cX8_count 65 = .ok (.lreturn, 1) := by decide +kernel
theorem dX8_count_66 : decode cX8_count 66 = .ok (.aload_n 0, 1) := by decide +kernel
theorem dX8_count_67 : decode cX8_count 67 = .ok (.getfield 93, 3) := by decide +kernel
theorem dX8_count_70 : decode cX8_count 70 = .ok (.iconst 0, 1) := by decide +kernel
theorem dX8_count_71 : decode cX8_count 71 = .ok (.laload, 1) := by decide +kernel
theorem dX8_count_72 : decode cX8_count 72 = .ok (.lreturn, 1) := by decide +kernel
theorem dX8_count_73 : decode cX8_count 73 = .ok (.iconst 0, 1) := by decide +kernel
theorem dX8_count_74 : decode cX8_count 74 = .ok (.istore 4, 2) := by decide +kernel
theorem dX8_count_76 : decode cX8_count 76 = .ok (.iload 4, 2) := by decide +kernel
theorem dX8_count_78 : decode cX8_count 78 = .ok (.bipush 12, 2) := by decide +kernel
theorem dX8_count_80 : decode cX8_count 80 = .ok (.if_icmp .ge 20, 3) := by decide +kernel
theorem dX8_count_83 : decode cX8_count 83 = .ok (.lload_n 2, 1) := by decide +kernel
theorem dX8_count_84 : decode cX8_count 84 = .ok (.aload_n 0, 1) := by decide +kernel
theorem dX8_count_85 : decode cX8_count 85 = .ok (.getfield 90, 3) := by decide +kernel
theorem dX8_count_88 : decode cX8_count 88 = .ok (.iload 4, 2) := by decide +kernel
theorem dX8_count_90 : decode cX8_count 90 = .ok (.iaload, 1) := by decide +kernel
theorem dX8_count_91 : decode cX8_count 91 = .ok (.i2l, 1) := by decide +kernel
theorem dX8_count_92 : decode cX8_count 92 = .ok (.ladd, 1) := by decide +kernel
theorem dX8_count_93 : decode cX8_count 93 = .ok (.lstore_n 2, 1) := by decide +kernel
theorem dX8_count_94 : decode cX8_count 94 = .ok (.iinc 4 1, 3) := by decide +kernel
theorem dX8_count_97 : decode cX8_count 97 = .ok (.goto (-21), 3) := by decide +kernel
theorem dX8_count_100 : decode cX8_count 100 = .ok (.lload_n 2, 1) := by decide +kernel
theorem dX8_count_101 : decode cX8_count 101 = .ok (.lreturn, 1) := by decide +kernel
theorem dX8_count_102 : decode cX8_count 102 = .ok (.aload_n 0, 1) := by decide +kernel
theorem dX8_count_103 : decode cX8_count 103 = .ok (.getfield 229, 3) := by decide +kernel
theorem dX8_count_106 : decode cX8_count 106 = .ok (.lreturn, 1) := by decide +kernel
theorem dX8_count_107 : decode cX8_count 107 = .ok (.aload_n 0, 1) := by decide +kernel
theorem dX8_count_108 : decode cX8_count 108 = .ok (.getfield 136, 3) := by decide +kernel
theorem dX8_count_111 : decode cX8_count 111 = .ok (.bipush 40, 2) := by decide +kernel
theorem dX8_count_113 : decode cX8_count 113 = .ok (.if_icmp .ne 9, 3) := by decide +kernel
theorem dX8_count_116 : decode cX8_count 116 = .ok (.ldc2_w 227, 3) := by decide +kernel
theorem dX8_count_119 : decode cX8_count 119 = .ok (.goto 13, 3) := by decide +kernel
theorem dX8_count_122 : decode cX8_count 122 = .ok (.aload_n 0, 1) := by decide +kernel
theorem dX8_count_123 : decode cX8_count 123 = .ok (.getfield 64, 3) := by decide +kernel
theorem dX8_count_126 : decode cX8_count 126 = .ok (.aload_n 0, 1) := by decide +kernel
theorem dX8_count_127 : decode cX8_count 127 = .ok (.getfield 136, 3) := by decide +kernel
theorem dX8_count_130 : decode cX8_count 130 = .ok (.iaload, 1) := by decide +kernel
theorem dX8_count_131 : decode cX8_count 131 = .ok (.i2l, 1) := by decide +kernel
theorem dX8_count_132 : decode cX8_count 132 = .ok (.lreturn, 1) := by decide +kernel
theorem dX8_count_133 : decode cX8_count 133 = .ok (.aload_n 0, 1) := by decide +kernel
theorem dX8_count_134 : decode cX8_count 134 = .ok (.getfield 258, 3) := by decide +kernel
theorem dX8_count_137 : decode cX8_count 137 = .ok (.i2l, 1) := by decide +kernel
theorem dX8_count_138 : decode cX8_count 138 = .ok (.lreturn, 1) := by decide +kernel
theorem dX8_count_139 : decode cX8_count 139 = .ok (.ldc2_w 227, 3) := by decide +kernel
theorem dX8_count_142 : decode cX8_count 142 = .ok (.lreturn, 1) := by decide +kernel
theorem dJ6_bitCount_0f7a4_0 : decode cJ6_bitCount_0f7a4 0 = .ok (.iload_n 0, 1) := by decide +kernel
theorem dJ6_bitCount_0f7a4_1 : decode cJ6_bitCount_0f7a4 1 = .ok (.iload_n 0, 1) := by decide +kernel
theorem dJ6_bitCount_0f7a4_2 : decode cJ6_bitCount_0f7a4 2 = .ok (.iconst 1, 1) := by decide +kernel
theorem dJ6_bitCount_0f7a4_3 : decode cJ6_bitCount_0f7a4 3 = .ok (.iushr, 1) := by decide +kernel
theorem dJ6_bitCount_0f7a4_4 : decode cJ6_bitCount_0f7a4 4 = .ok (.ldc_w 265, 3) := by decide +kernel
theorem dJ6_bitCount_0f7a4_7 : decode cJ6_bitCount_0f7a4 7 = .ok (.iand, 1) := by decide +kernel
theorem dJ6_bitCount_0f7a4_8 : decode cJ6_bitCount_0f7a4 8 = .ok (.isub, 1) := by decide +kernel
theorem dJ6_bitCount_0f7a4_9 : decode cJ6_bitCount_0f7a4 9 = .ok (.istore_n 0, 1) := by decide +kernel
theorem dJ6_bitCount_0f7a4_10 : decode cJ6_bitCount_0f7a4 10 = .ok (.iload_n 0, 1) := by decide +kernel
theorem dJ6_bitCount_0f7a4_11 : decode cJ6_bitCount_0f7a4 11 = .ok (.ldc_w 266, 3) := by decide +kernel
theorem dJ6_bitCount_0f7a4_14 : decode cJ6_bitCount_0f7a4 14 = .ok (.iand, 1) := by decide +kernel
theorem dJ6_bitCount_0f7a4_15 : decode cJ6_bitCount_0f7a4 15 = .ok (.iload_n 0, 1) := by decide +kernel
theorem dJ6_bitCount_0f7a4_16 : decode cJ6_bitCount_0f7a4 16 = .ok (.iconst 2, 1) := by decide +kernel
theorem dJ6_bitCount_0f7a4_17 : decode cJ6_bitCount_0f7a4 17 = .ok (.iushr, 1) := by decide +kernel
theorem dJ6_bitCount_0f7a4_18 : decode cJ6_bitCount_0f7a4 18 = .ok (.ldc_w 266, 3) := by decide +kernel
theorem dJ6_bitCount_0f7a4_21 : decode cJ6_bitCount_0f7a4 21 = .ok (.iand, 1) := by decide +kernel
theorem dJ6_bitCount_0f7a4_22 : decode cJ6_bitCount_0f7a4 22 = .ok (.iadd, 1) := by decide +kernel
theorem dJ6_bitCount_0f7a4_23 : decode cJ6_bitCount_0f7a4 23 = .ok (.istore_n 0, 1) := by decide +kernel
theorem dJ6_bitCount_0f7a4_24 : decode cJ6_bitCount_0f7a4 24 = .ok (.iload_n 0, 1) := by decide +kernel
theorem dJ6_bitCount_0f7a4_25 : decode cJ6_bitCount_0f7a4 25 = .ok (.iload_n 0, 1) := by decide +kernel
theorem dJ6_bitCount_0f7a4_26 : decode cJ6_bitCount_0f7a4 26 = .ok (.iconst 4, 1) := by decide +kernel
theorem dJ6_bitCount_0f7a4_27 : decode cJ6_bitCount_0f7a4 27 = .ok (.iushr, 1) := by decide +kernel
theorem dJ6_bitCount_0f7a4_28 : decode cJ6_bitCount_0f7a4 28 = .ok (.iadd, 1) := by decide +kernel
theorem dJ6_bitCount_0f7a4_29 : decode cJ6_bitCount_0f7a4 29 = .ok (.ldc_w 267, 3) := by decide +kernel
theorem dJ6_bitCount_0f7a4_32 : decode cJ6_bitCount_0f7a4 32 = .ok (.iand, 1) := by decide +kernel
theorem dJ6_bitCount_0f7a4_33 : decode cJ6_bitCount_0f7a4 33 = .ok (.istore_n 0, 1) := by decide +kernel
theorem dJ6_bitCount_0f7a4_34 : decode cJ6_bitCount_0f7a4 34 = .ok (.iload_n 0, 1) := by decide +kernel
theorem dJ6_bitCount_0f7a4_35 : decode cJ6_bitCount_0f7a4 35 = .ok (.iload_n 0, 1) := by decide +kernel
theorem dJ6_bitCount_0f7a4_36 : decode cJ6_bitCount_0f7a4 36 = .ok (.bipush 8, 2) := by decide +kernel
theorem dJ6_bitCount_0f7a4_38 : decode cJ6_bitCount_0f7a4 38 = .ok (.iushr, 1) := by decide +kernel
theorem dJ6_bitCount_0f7a4_39 : decode cJ6_bitCount_0f7a4 39 = .ok (.iadd, 1) := by decide +kernel
theorem dJ6_bitCount_0f7a4_40 : decode cJ6_bitCount_0f7a4 40 = .ok (.istore_n 0, 1) := by decide +kernel
theorem dJ6_bitCount_0f7a4_41 : decode cJ6_bitCount_0f7a4 41 = .ok (.iload_n 0, 1) := by decide +kernel
theorem dJ6_bitCount_0f7a4_42 : decode cJ6_bitCount_0f7a4 42 = .ok (.iload_n 0, 1) := by decide +kernel
theorem dJ6_bitCount_0f7a4_43 : decode cJ6_bitCount_0f7a4 43 = .ok (.bipush 16, 2) := by decide +kernel
theorem dJ6_bitCount_0f7a4_45 : decode cJ6_bitCount_0f7a4 45 = .ok (.iushr, 1) := by decide +kernel
theorem dJ6_bitCount_0f7a4_46 : decode cJ6_bitCount_0f7a4 46 = .ok (.iadd, 1) := by decide +kernel
theorem dJ6_bitCount_0f7a4_47 : decode cJ6_bitCount_0f7a4 47 = .ok (.istore_n 0, 1) := by decide +kernel
theorem dJ6_bitCount_0f7a4_48 : decode cJ6_bitCount_0f7a4 48 = .ok (.iload_n 0, 1) := by decide +kernel
theorem dJ6_bitCount_0f7a4_49 : decode cJ6_bitCount_0f7a4 49 = .ok (.bipush 63, 2) := by decide +kernel
theorem dJ6_bitCount_0f7a4_51 : decode cJ6_bitCount_0f7a4 51 = .ok (.iand, 1) := by decide +kernel
theorem dJ6_bitCount_0f7a4_52 : decode cJ6_bitCount_0f7a4 52 = .ok (.ireturn, 1) := by decide +kernel
theorem dJ9_max_7cf53_0 : decode cJ9_max_7cf53 0 = .ok (.iload_n 0, 1) := by decide +kernel
theorem dJ9_max_7cf53_1 : decode cJ9_max_7cf53 1 = .ok (.iload_n 1, 1) := by decide +kernel
theorem dJ9_max_7cf53_2 : decode cJ9_max_7cf53 2 = .ok (.if_icmp .lt 7, 3) := by decide +kernel
theorem dJ9_max_7cf53_5 : decode cJ9_max_7cf53 5 = .ok (.iload_n 0, 1) := by decide +kernel
theorem dJ9_max_7cf53_6 : decode cJ9_max_7cf53 6 = .ok (.goto 4, 3) := by decide +kernel
theorem dJ9_max_7cf53_9 : decode cJ9_max_7cf53 9 = .ok (.iload_n 1, 1) := by decide +kernel
theorem dJ9_max_7cf53_10 : decode cJ9_max_7cf53 10 = .ok (.ireturn, 1) := by decide +kernel
theorem dJ9_max_f86c9_0 : decode cJ9_max_f86c9 0 = .ok (.lload_n 0, 1) := by decide +kernel
theorem dJ9_max_f86c9_1 : decode cJ9_max_f86c9 1 = .ok (.lload_n 2, 1) := by decide +kernel
theorem dJ9_max_f86c9_2 : decode cJ9_max_f86c9 2 = .ok (.lcmp, 1) := by decide +kernel
theorem dJ9_max_f86c9_3 : decode cJ9_max_f86c9 3 = .ok (.ifCond .lt 7, 3) := by decide +kernel
theorem dJ9_max_f86c9_6 : decode cJ9_max_f86c9 6 = .ok (.lload_n 0, 1) := by decide +kernel
theorem dJ9_max_f86c9_7 : decode cJ9_max_f86c9 7 = .ok (.goto 4, 3) := by decide +kernel
theorem dJ9_max_f86c9_10 : decode cJ9_max_f86c9 10 = .ok (.lload_n 2, 1) := by decide +kernel
theorem dJ9_max_f86c9_11 : decode cJ9_max_f86c9 11 = .ok (.lreturn, 1) := by decide +kernel
theorem dJ9_min_7cf53_0 : decode cJ9_min_7cf53 0 = .ok (.iload_n 0, 1) := by decide +kernel
theorem dJ9_min_7cf53_1 : decode cJ9_min_7cf53 1 = .ok (.iload_n 1, 1) := by decide +kernel
theorem dJ9_min_7cf53_2 : decode cJ9_min_7cf53 2 = .ok (.if_icmp .gt 7, 3) := by decide +kernel
theorem dJ9_min_7cf53_5 : decode cJ9_min_7cf53 5 = .ok (.iload_n 0, 1) := by decide +kernel
theorem dJ9_min_7cf53_6 : decode cJ9_min_7cf53 6 = .ok (.goto 4, 3) := by decide +kernel
theorem dJ9_min_7cf53_9 : decode cJ9_min_7cf53 9 = .ok (.iload_n 1, 1) := by decide +kernel
theorem dJ9_min_7cf53_10 : decode cJ9_min_7cf53 10 = .ok (.ireturn, 1) := by decide +kernel
theorem dJ9_min_f86c9_0 : decode cJ9_min_f86c9 0 = .ok (.lload_n 0, 1) := by decide +kernel
theorem dJ9_min_f86c9_1 : decode cJ9_min_f86c9 1 = .ok (.lload_n 2, 1) := by decide +kernel
theorem dJ9_min_f86c9_2 : decode cJ9_min_f86c9 2 = .ok (.lcmp, 1) := by decide +kernel
theorem dJ9_min_f86c9_3 : decode cJ9_min_f86c9 3 = .ok (.ifCond .gt 7, 3) := by decide +kernel
theorem dJ9_min_f86c9_6 : decode cJ9_min_f86c9 6 = .ok (.lload_n 0, 1) := by decide +kernel
theorem dJ9_min_f86c9_7 : decode cJ9_min_f86c9 7 = .ok (.goto 4, 3) := by decide +kernel
theorem dJ9_min_f86c9_10 : decode cJ9_min_f86c9 10 = .ok (.lload_n 2, 1) := by decide +kernel
theorem dJ9_min_f86c9_11 : decode cJ9_min_f86c9 11 = .ok (.lreturn, 1) := by decide +kernel
theorem dJ7_fill_d0a16_0 : decode cJ7_fill_d0a16 0 = .ok (.iconst 0, 1) := by decide +kernel
theorem dJ7_fill_d0a16_1 : decode cJ7_fill_d0a16 1 = .ok (.istore_n 3, 1) := by decide +kernel
theorem dJ7_fill_d0a16_2 : decode cJ7_fill_d0a16 2 = .ok (.aload_n 0, 1) := by decide +kernel
theorem dJ7_fill_d0a16_3 : decode cJ7_fill_d0a16 3 = .ok (.arraylength, 1) := by decide +kernel
theorem dJ7_fill_d0a16_4 : decode cJ7_fill_d0a16 4 = .ok (.istore 4, 2) := by decide +kernel
theorem dJ7_fill_d0a16_6 : decode cJ7_fill_d0a16 6 = .ok (.iload_n 3, 1) := by decide +kernel
theorem dJ7_fill_d0a16_7 : decode cJ7_fill_d0a16 7 = .ok (.iload 4, 2) := by decide +kernel
theorem dJ7_fill_d0a16_9 : decode cJ7_fill_d0a16 9 = .ok (.if_icmp .ge 13, 3) := by decide +kernel
theorem dJ7_fill_d0a16_12 : decode cJ7_fill_d0a16 12 = .ok (.aload_n 0, 1) := by decide +kernel
theorem dJ7_fill_d0a16_13 : decode cJ7_fill_d0a16 13 = .ok (.iload_n 3, 1) := by decide +kernel
theorem dJ7_fill_d0a16_14 : decode cJ7_fill_d0a16 14 = .ok (.lload_n 1, 1) := by decide +kernel
theorem dJ7_fill_d0a16_15 : decode cJ7_fill_d0a16 15 = .ok (.lastore, 1) := by decide +kernel
theorem dJ7_fill_d0a16_16 : decode cJ7_fill_d0a16 16 = .ok (.iinc 3 1, 3) := by decide +kernel
theorem dJ7_fill_d0a16_19 : decode cJ7_fill_d0a16 19 = .ok (.goto (-13), 3) := by decide +kernel
theorem dJ7_fill_d0a16_22 : decode cJ7_fill_d0a16 22 = .ok (.return_, 1) := by decide +kernel
theorem dJ7_fill_53178_0 : decode cJ7_fill_53178 0 = .ok (.iconst 0, 1) := by decide +kernel
theorem dJ7_fill_53178_1 : decode cJ7_fill_53178 1 = .ok (.istore_n 2, 1) := by decide +kernel
theorem dJ7_fill_53178_2 : decode cJ7_fill_53178 2 = .ok (.aload_n 0, 1) := by decide +kernel
theorem dJ7_fill_53178_3 : decode cJ7_fill_53178 3 = .ok (.arraylength, 1) := by decide +kernel
theorem dJ7_fill_53178_4 : decode cJ7_fill_53178 4 = .ok (.istore_n 3, 1) := by decide +kernel
theorem dJ7_fill_53178_5 : decode cJ7_fill_53178 5 = .ok (.iload_n 2, 1) := by decide +kernel
theorem dJ7_fill_53178_6 : decode cJ7_fill_53178 6 = .ok (.iload_n 3, 1) := by decide +kernel
theorem dJ7_fill_53178_7 : decode cJ7_fill_53178 7 = .ok (.if_icmp .ge 13, 3) := by decide +kernel
theorem dJ7_fill_53178_10 : decode cJ7_fill_53178 10 = .ok (.aload_n 0, 1) := by decide +kernel
theorem dJ7_fill_53178_11 : decode cJ7_fill_53178 11 = .ok (.iload_n 2, 1) := by decide +kernel
theorem dJ7_fill_53178_12 : decode cJ7_fill_53178 12 = .ok (.iload_n 1, 1) := by decide +kernel
theorem dJ7_fill_53178_13 : decode cJ7_fill_53178 13 = .ok (.iastore, 1) := by decide +kernel
theorem dJ7_fill_53178_14 : decode cJ7_fill_53178 14 = .ok (.iinc 2 1, 3) := by decide +kernel
theorem dJ7_fill_53178_17 : decode cJ7_fill_53178 17 = .ok (.goto (-12), 3) := by decide +kernel
theorem dJ7_fill_53178_20 : decode cJ7_fill_53178 20 = .ok (.return_, 1) := by decide +kernel
set_option maxRecDepth 20000 in
theorem ggL_law_X7_init : GoodIn wsL_law wsX7_init := goodIn_r _ [8, 9, 10, 11, 12, 13, 14, 15, 16, 17, 18, 19, 20, 21, 22, 23, 24, 25, 26, 27, 28, 29, 30, 31, 32, 33, 34, 35, 36, 37, 38, 39, 40, 41, 42, 43, 44, 45, 46, 47, 48, 49, 50, 51, 52, 53, 54, 55, 56, 57, 58, 59, 60, 61, 62, 63, 64, 65, 66, 67, 68, 69, 70, 71, 72, 73, 74, 75, 76, 77, 78, 79, 80, 81, 82, 83, 84, 85, 86, 87, 88, 89, 90, 91, 92, 93, 94, 95, 96, 97, 98, 99, 100, 101, 102, 103, 104, 105, 106, 107, 108, 109, 110, 111, 112, 113, 114, 115, 741, 742, 743, 744, 687, 688, 689, 690, 691, 692, 693, 745, 746, 747, 748, 749, 750, 751, 752, 753, 754, 755, 756, 757, 758, 759, 760, 761, 762, 763, 764, 765, 766, 767, 768, 769, 770, 771, 772, 773, 774, 775, 776, 777, 778, 779, 780, 781, 782, 783, 784, 785, 786, 787, 788, 789, 790, 791] (by decide +kernel) (by decide +kernel)
set_option maxRecDepth 20000 in
theorem gL_law_X7_init : GoodIn wsL_law (wsX7_init) := ggL_law_X7_init
set_option maxRecDepth 20000 in
theorem ggL_law_X8_init : GoodIn wsL_law wsX8_init := goodIn_r _ [118, 119, 10, 11, 39, 120, 121, 122, 123, 124, 125, 126, 127, 128, 129, 130, 131, 132, 133, 134, 135, 136, 137, 138, 139, 140, 82, 141, 142, 143, 144, 145, 146, 147, 148, 149, 150, 151, 152, 153, 154, 155, 156, 157, 158, 159, 160, 694, 695, 696, 697, 698, 699, 700, 701, 702, 703, 704, 705, 706, 707, 708, 709, 710, 711, 712, 713, 714, 715, 716, 717, 718, 719, 720, 721, 722, 723, 724, 725, 726, 727, 728, 729, 730, 731, 732, 733, 734, 735, 736, 737, 738, 739, 740] (by decide +kernel) (by decide +kernel)
set_option maxRecDepth 20000 in
theorem gL_law_X8_init : GoodIn wsL_law (wsX8_init) := ggL_law_X8_init
set_option maxRecDepth 20000 in
theorem ggL_law_X7_share : GoodIn wsL_law wsX7_share := goodIn_r _ [164, 15, 165, 166, 167, 2, 168, 169, 170, 171, 172, 34, 173, 174, 175, 176, 14, 177, 40, 41, 178, 179, 180, 181, 182, 183, 184, 185, 186, 187, 188, 189, 190, 191, 192, 193, 194, 42, 43, 687, 688, 689, 690, 691, 692, 693, 741, 742, 743, 744, 769, 770, 771, 772, 773, 774, 775, 776, 777, 778, 779, 780, 781, 782, 783, 784] (by decide +kernel) (by decide +kernel)
set_option maxRecDepth 20000 in
theorem gL_law_X7_share : GoodIn wsL_law (wsV RL 13 RX7 yX7_share wsX7_share) := goodIn_app (goodIn_of _ (by decide +kernel)) ggL_law_X7_share
set_option maxRecDepth 20000 in
theorem ggL_law_X8_share : GoodIn wsL_law wsX8_share := goodIn_r _ [198, 120, 121, 122, 123, 199, 200, 5, 201, 202, 203, 204, 205, 206, 207, 208, 209, 210, 211, 212, 694, 695, 696, 697, 698, 699, 700, 701, 702, 703, 704, 705, 706, 707, 708, 709, 710, 711, 712, 713, 714, 715, 716, 717, 718, 719, 720, 721, 722, 723, 724, 725, 726, 727, 728, 729, 730, 731, 732, 733, 734, 735, 736, 737, 738, 739, 740] (by decide +kernel) (by decide +kernel)
set_option maxRecDepth 20000 in
theorem gL_law_X8_share : GoodIn wsL_law (wsV RL 17 RX8 yX8_share wsX8_share) := goodIn_app (goodIn_of _ (by decide +kernel)) ggL_law_X8_share
set_option maxRecDepth 20000 in
theorem ggL_law_X7_bargain : GoodIn wsL_law wsX7_bargain := goodIn_r _ [216, 19, 217, 178, 179, 2, 180, 169, 170, 171, 172, 34, 173, 218, 219, 220, 181, 182, 183, 221, 222, 223, 224, 225, 226, 227, 228, 229, 230, 18, 231, 232, 47, 48, 49, 50, 233, 234, 235, 236, 51, 52, 53, 54, 687, 688, 689, 690, 691, 692, 693, 745, 746, 747, 748, 749, 750, 751, 752, 753, 769, 770, 771, 772, 773, 774, 775, 776, 777, 778, 779, 780, 781, 782, 783, 784] (by decide +kernel) (by decide +kernel)
set_option maxRecDepth 20000 in
theorem gL_law_X7_bargain : GoodIn wsL_law (wsV RL 18 RX7 yX7_bargain wsX7_bargain) := goodIn_app (goodIn_of _ (by decide +kernel)) ggL_law_X7_bargain
set_option maxRecDepth 20000 in
theorem ggL_law_X8_bargain : GoodIn wsL_law wsX8_bargain := goodIn_r _ [240, 241, 124, 125, 126, 127, 128, 129, 130, 131, 202, 203, 5, 204, 208, 209, 210, 211, 212, 242, 243, 244, 245, 246, 247, 248, 249, 250, 251, 694, 695, 696, 697, 698, 699, 700, 701, 702, 703, 704, 705, 706, 707, 708, 709, 710, 711, 712, 713, 714, 715, 716, 717, 718, 719, 720, 721, 722, 723, 724, 725, 726, 727, 728, 729, 730, 731, 732, 733, 734, 735, 736, 737, 738, 739, 740] (by decide +kernel) (by decide +kernel)
set_option maxRecDepth 20000 in
theorem gL_law_X8_bargain : GoodIn wsL_law (wsV RL 21 RX8 yX8_bargain wsX8_bargain) := goodIn_app (goodIn_of _ (by decide +kernel)) ggL_law_X8_bargain
set_option maxRecDepth 20000 in
theorem ggL_law_X7_report : GoodIn wsL_law wsX7_report := goodIn_r _ [255, 34, 173, 23, 256, 257, 258, 2, 259, 15, 165, 166, 167, 168, 260, 261, 262, 224, 263, 264, 265, 22, 266, 59, 60, 62, 61, 58, 687, 688, 689, 690, 691, 692, 693, 769, 770, 771, 772, 773, 774, 775, 776, 777, 778, 779, 780, 781, 782, 783, 784, 741, 742, 743, 744, 754, 755, 756, 757, 758, 759] (by decide +kernel) (by decide +kernel)
set_option maxRecDepth 20000 in
theorem gL_law_X7_report : GoodIn wsL_law (wsV RL 22 RX7 yX7_report wsX7_report) := goodIn_app (goodIn_of _ (by decide +kernel)) ggL_law_X7_report
set_option maxRecDepth 20000 in
theorem ggL_law_X8_report : GoodIn wsL_law wsX8_report := goodIn_r _ [270, 212, 271, 272, 273, 5, 274, 120, 199, 200, 201, 275, 276, 277, 251, 278, 279, 280, 281, 135, 136, 137, 132, 133, 134, 694, 695, 696, 697, 698, 699, 700, 701, 702, 703, 704, 705, 706, 707, 708, 709, 710, 711, 712, 713, 714, 715, 716, 717, 718, 719, 720, 721, 722, 723, 724, 725, 726, 727, 728, 729, 730, 731, 732, 733, 734, 735, 736, 737, 738, 739, 740] (by decide +kernel) (by decide +kernel)
set_option maxRecDepth 20000 in
theorem gL_law_X8_report : GoodIn wsL_law (wsV RL 26 RX8 yX8_report wsX8_report) := goodIn_app (goodIn_of _ (by decide +kernel)) ggL_law_X8_report
set_option maxRecDepth 20000 in
theorem ggL_law_X7_tear : GoodIn wsL_law wsX7_tear := goodIn_r _ [285, 34, 173, 23, 286, 107, 108, 109, 287, 288, 289, 22, 290, 63, 687, 688, 689, 690, 691, 692, 693, 769, 770, 771, 772, 773, 774, 775, 776, 777, 778, 779, 780, 781, 782, 783, 784, 754, 755, 756, 757, 758, 759] (by decide +kernel) (by decide +kernel)
set_option maxRecDepth 20000 in
theorem gL_law_X7_tear : GoodIn wsL_law (wsV RL 27 RX7 yX7_tear wsX7_tear) := goodIn_app (goodIn_of _ (by decide +kernel)) ggL_law_X7_tear
set_option maxRecDepth 20000 in
theorem ggL_law_X8_tear : GoodIn wsL_law wsX8_tear := goodIn_r _ [294, 212, 138, 694, 695, 696, 697, 698, 699, 700, 701, 702, 703, 704, 705, 706, 707, 708, 709, 710, 711, 712, 713, 714, 715, 716, 717, 718, 719, 720, 721, 722, 723, 724, 725, 726, 727, 728, 729, 730, 731, 732, 733, 734, 735, 736, 737, 738, 739, 740] (by decide +kernel) (by decide +kernel)
set_option maxRecDepth 20000 in
theorem gL_law_X8_tear : GoodIn wsL_law (wsV RL 31 RX8 yX8_tear wsX8_tear) := goodIn_app (goodIn_of _ (by decide +kernel)) ggL_law_X8_tear
set_option maxRecDepth 20000 in
theorem ggL_law_X7_sent : GoodIn wsL_law wsX7_sent := goodIn_r _ [298, 27, 299, 300, 34, 173, 301, 178, 179, 2, 180, 221, 222, 223, 224, 302, 303, 304, 26, 305, 67, 306, 68, 69, 307, 308, 309, 310, 33, 311, 312, 313, 108, 314, 315, 316, 317, 318, 319, 320, 97, 321, 322, 323, 324, 325, 326, 327, 328, 329, 93, 330, 89, 331, 332, 333, 84, 334, 335, 336, 337, 18, 338, 47, 48, 339, 340, 341, 342, 101, 343, 95, 344, 345, 346, 22, 347, 62, 348, 349, 350, 351, 61, 352, 353, 354, 355, 63, 356, 357, 358, 359, 91, 360, 361, 362, 363, 364, 365, 366, 367, 59, 368, 369, 370, 371, 58, 372, 373, 374, 375, 376, 377, 378, 14, 379, 40, 41, 380, 381, 382, 383, 384, 88, 87, 385, 83, 386, 387, 388, 100, 389, 390, 110, 111, 112, 113, 114, 226, 227, 391, 392, 393, 394, 49, 50, 395, 396, 397, 398, 399, 400, 401, 402, 403, 404, 405, 406, 407, 408, 115, 409, 410, 411, 412, 413, 414, 415, 416, 417, 86, 418, 419, 420, 421, 422, 85, 423, 424, 425, 426, 687, 688, 689, 690, 691, 692, 693, 760, 761, 762, 763, 764, 769, 770, 771, 772, 773, 774, 775, 776, 777, 778, 779, 780, 781, 782, 783, 784, 745, 746, 747, 748, 749, 750, 751, 752, 753, 785, 786, 787, 788, 789, 790, 791, 754, 755, 756, 757, 758, 759, 741, 742, 743, 744] (by decide +kernel) (by decide +kernel)
set_option maxRecDepth 20000 in
theorem gL_law_X7_sent : GoodIn wsL_law (wsV RL 32 RX7 yX7_sent wsX7_sent) := goodIn_app (goodIn_of _ (by decide +kernel)) ggL_law_X7_sent
set_option maxRecDepth 20000 in
theorem ggL_law_X8_sent : GoodIn wsL_law wsX8_sent := goodIn_r _ [430, 251, 431, 432, 158, 159, 160, 212, 433, 434, 202, 203, 5, 204, 435, 436, 437, 438, 241, 124, 125, 145, 142, 439, 440, 441, 694, 695, 696, 697, 698, 699, 700, 701, 702, 703, 704, 705, 706, 707, 708, 709, 710, 711, 712, 713, 714, 715, 716, 717, 718, 719, 720, 721, 722, 723, 724, 725, 726, 727, 728, 729, 730, 731, 732, 733, 734, 735, 736, 737, 738, 739, 740] (by decide +kernel) (by decide +kernel)
set_option maxRecDepth 20000 in
theorem gL_law_X8_sent : GoodIn wsL_law (wsV RL 36 RX8 yX8_sent wsX8_sent) := goodIn_app (goodIn_of _ (by decide +kernel)) ggL_law_X8_sent
set_option maxRecDepth 20000 in
theorem ggL_law_X7_close : GoodIn wsL_law wsX7_close := goodIn_r _ [445, 34, 173, 308, 309, 310, 33, 311, 312, 313, 108, 314, 315, 316, 317, 318, 319, 320, 97, 321, 322, 323, 324, 325, 326, 327, 328, 329, 93, 330, 89, 331, 332, 333, 84, 334, 335, 336, 337, 18, 338, 47, 48, 339, 340, 341, 342, 101, 343, 95, 344, 345, 346, 22, 347, 62, 348, 349, 350, 351, 61, 352, 353, 354, 355, 63, 356, 357, 358, 359, 91, 360, 361, 362, 363, 364, 365, 366, 367, 59, 368, 369, 370, 371, 58, 372, 373, 374, 375, 376, 377, 378, 14, 379, 40, 41, 380, 381, 382, 383, 384, 88, 87, 385, 83, 386, 387, 388, 100, 389, 390, 110, 111, 112, 113, 114, 226, 2, 227, 391, 392, 393, 394, 49, 50, 395, 396, 397, 398, 399, 400, 401, 402, 403, 404, 405, 406, 407, 408, 115, 409, 410, 411, 412, 413, 414, 415, 416, 417, 86, 418, 419, 420, 421, 422, 85, 423, 424, 425, 426, 687, 688, 689, 690, 691, 692, 693, 769, 770, 771, 772, 773, 774, 775, 776, 777, 778, 779, 780, 781, 782, 783, 784, 760, 761, 762, 763, 764, 745, 746, 747, 748, 749, 750, 751, 752, 753, 785, 786, 787, 788, 789, 790, 791, 754, 755, 756, 757, 758, 759, 741, 742, 743, 744] (by decide +kernel) (by decide +kernel)
set_option maxRecDepth 20000 in
theorem gL_law_X7_close : GoodIn wsL_law (wsV RL 37 RX7 yX7_close wsX7_close) := goodIn_app (goodIn_of _ (by decide +kernel)) ggL_law_X7_close
set_option maxRecDepth 20000 in
theorem ggL_law_X8_close : GoodIn wsL_law wsX8_close := goodIn_r _ [449, 212, 450, 451, 452, 453, 5, 454, 137, 136, 135, 132, 133, 134, 241, 124, 129, 125, 141, 145, 127, 455, 456, 457, 458, 138, 140, 459, 460, 461, 462, 122, 123, 463, 464, 465, 466, 467, 120, 121, 468, 469, 470, 471, 472, 148, 150, 152, 149, 151, 157, 126, 473, 474, 475, 476, 153, 154, 155, 156, 477, 478, 479, 480, 128, 434, 144, 130, 143, 131, 439, 440, 441, 481, 482, 483, 484, 142, 146, 485, 486, 487, 488, 489, 490, 491, 147, 694, 695, 696, 697, 698, 699, 700, 701, 702, 703, 704, 705, 706, 707, 708, 709, 710, 711, 712, 713, 714, 715, 716, 717, 718, 719, 720, 721, 722, 723, 724, 725, 726, 727, 728, 729, 730, 731, 732, 733, 734, 735, 736, 737, 738, 739, 740] (by decide +kernel) (by decide +kernel)
set_option maxRecDepth 20000 in
theorem gL_law_X8_close : GoodIn wsL_law (wsV RL 41 RX8 yX8_close wsX8_close) := goodIn_app (goodIn_of _ (by decide +kernel)) ggL_law_X8_close
set_option maxRecDepth 20000 in
theorem ggL_law_X7_due : GoodIn wsL_law wsX7_due := goodIn_r _ [495, 34, 496, 178, 179, 2, 180, 497, 498, 499, 500, 173, 687, 688, 689, 690, 691, 692, 693, 769, 770, 771, 772, 773, 774, 775, 776, 777, 778, 779, 780, 781, 782, 783, 784] (by decide +kernel) (by decide +kernel)
set_option maxRecDepth 20000 in
theorem gL_law_X7_due : GoodIn wsL_law (wsV RL 42 RX7 yX7_due wsX7_due) := goodIn_app (goodIn_of _ (by decide +kernel)) ggL_law_X7_due
set_option maxRecDepth 20000 in
theorem ggL_law_X8_due : GoodIn wsL_law wsX8_due := goodIn_r _ [504, 212, 146, 202, 203, 5, 204, 485, 486, 487, 694, 695, 696, 697, 698, 699, 700, 701, 702, 703, 704, 705, 706, 707, 708, 709, 710, 711, 712, 713, 714, 715, 716, 717, 718, 719, 720, 721, 722, 723, 724, 725, 726, 727, 728, 729, 730, 731, 732, 733, 734, 735, 736, 737, 738, 739, 740] (by decide +kernel) (by decide +kernel)
set_option maxRecDepth 20000 in
theorem gL_law_X8_due : GoodIn wsL_law (wsV RL 46 RX8 yX8_due wsX8_due) := goodIn_app (goodIn_of _ (by decide +kernel)) ggL_law_X8_due
set_option maxRecDepth 20000 in
theorem ggL_law_X7_hand : GoodIn wsL_law wsX7_hand := goodIn_r _ [508, 300, 34, 509, 510, 511, 35, 173, 178, 179, 2, 180, 512, 513, 514, 33, 515, 315, 423, 424, 425, 426, 86, 308, 309, 310, 311, 312, 313, 108, 314, 316, 317, 318, 319, 320, 97, 321, 322, 323, 324, 325, 326, 327, 328, 329, 93, 330, 89, 331, 332, 333, 84, 334, 335, 336, 337, 18, 338, 47, 48, 339, 340, 341, 342, 101, 343, 95, 344, 345, 346, 22, 347, 62, 348, 349, 350, 351, 61, 352, 353, 354, 355, 63, 356, 357, 358, 359, 91, 360, 361, 362, 363, 364, 365, 366, 367, 59, 368, 369, 370, 371, 58, 372, 373, 374, 375, 376, 377, 378, 14, 379, 40, 41, 380, 381, 382, 383, 384, 88, 87, 385, 83, 386, 387, 388, 100, 389, 390, 110, 111, 112, 113, 114, 226, 227, 391, 392, 393, 394, 49, 50, 395, 396, 397, 398, 399, 400, 401, 402, 403, 404, 405, 406, 407, 408, 115, 409, 410, 411, 412, 413, 414, 415, 416, 417, 418, 419, 420, 421, 422, 85, 516, 517, 518, 519, 520, 521, 522, 523, 524, 687, 688, 689, 690, 691, 692, 693, 769, 770, 771, 772, 773, 774, 775, 776, 777, 778, 779, 780, 781, 782, 783, 784, 760, 761, 762, 763, 764, 745, 746, 747, 748, 749, 750, 751, 752, 753, 785, 786, 787, 788, 789, 790, 791, 754, 755, 756, 757, 758, 759, 741, 742, 743, 744] (by decide +kernel) (by decide +kernel)
set_option maxRecDepth 20000 in
theorem gL_law_X7_hand : GoodIn wsL_law (wsV RL 47 RX7 yX7_hand wsX7_hand) := goodIn_app (goodIn_of _ (by decide +kernel)) ggL_law_X7_hand
set_option maxRecDepth 20000 in
theorem ggL_law_X8_hand : GoodIn wsL_law wsX8_hand := goodIn_r _ [528, 432, 141, 142, 147, 202, 203, 5, 204, 529, 530, 531, 532, 146, 485, 486, 487, 533, 534, 535, 536, 212, 537, 538, 539, 540, 143, 144, 145, 148, 541, 542, 543, 544, 431, 160, 158, 159, 435, 436, 437, 438, 434, 241, 124, 125, 439, 440, 441, 451, 452, 453, 454, 137, 136, 135, 132, 133, 134, 129, 127, 455, 456, 457, 458, 138, 140, 459, 460, 461, 462, 122, 123, 463, 464, 465, 466, 467, 120, 121, 468, 469, 470, 471, 472, 150, 152, 149, 151, 157, 126, 473, 474, 475, 476, 450, 153, 154, 155, 156, 477, 478, 479, 480, 128, 130, 131, 481, 482, 483, 484, 488, 489, 490, 491, 545, 546, 547, 548, 549, 550, 551, 552, 694, 695, 696, 697, 698, 699, 700, 701, 702, 703, 704, 705, 706, 707, 708, 709, 710, 711, 712, 713, 714, 715, 716, 717, 718, 719, 720, 721, 722, 723, 724, 725, 726, 727, 728, 729, 730, 731, 732, 733, 734, 735, 736, 737, 738, 739, 740] (by decide +kernel) (by decide +kernel)
set_option maxRecDepth 20000 in
theorem gL_law_X8_hand : GoodIn wsL_law (wsV RL 50 RX8 yX8_hand wsX8_hand) := goodIn_app (goodIn_of _ (by decide +kernel)) ggL_law_X8_hand
set_option maxRecDepth 20000 in
theorem ggL_law_X7_has : GoodIn wsL_law wsX7_has := goodIn_r _ [556, 19, 217, 300, 34, 557, 558, 559, 560, 561, 562, 33, 563, 93, 384, 399, 325, 87, 89, 687, 688, 689, 690, 691, 692, 693, 745, 746, 747, 748, 749, 750, 751, 752, 753, 769, 770, 771, 772, 773, 774, 775, 776, 777, 778, 779, 780, 781, 782, 783, 784] (by decide +kernel) (by decide +kernel)
set_option maxRecDepth 20000 in
theorem gL_law_X7_has : GoodIn wsL_law (wsV RL 51 RX7 yX7_has wsX7_has) := goodIn_app (goodIn_of _ (by decide +kernel)) ggL_law_X7_has
set_option maxRecDepth 20000 in
theorem ggL_law_X8_has : GoodIn wsL_law wsX8_has := goodIn_r _ [567, 241, 432, 143, 144, 124, 128, 434, 145, 568, 569, 570, 5, 571, 439, 440, 441, 694, 695, 696, 697, 698, 699, 700, 701, 702, 703, 704, 705, 706, 707, 708, 709, 710, 711, 712, 713, 714, 715, 716, 717, 718, 719, 720, 721, 722, 723, 724, 725, 726, 727, 728, 729, 730, 731, 732, 733, 734, 735, 736, 737, 738, 739, 740] (by decide +kernel) (by decide +kernel)
set_option maxRecDepth 20000 in
theorem gL_law_X8_has : GoodIn wsL_law (wsV RL 54 RX8 yX8_has wsX8_has) := goodIn_app (goodIn_of _ (by decide +kernel)) ggL_law_X8_has
set_option maxRecDepth 20000 in
theorem ggL_law_X7_told : GoodIn wsL_law wsX7_told := goodIn_r _ [575, 23, 497, 498, 499, 2, 500, 34, 173, 576, 577, 578, 579, 166, 167, 168, 580, 369, 370, 22, 371, 58, 581, 365, 366, 367, 59, 582, 353, 354, 355, 63, 583, 584, 585, 586, 60, 687, 688, 689, 690, 691, 692, 693, 769, 770, 771, 772, 773, 774, 775, 776, 777, 778, 779, 780, 781, 782, 783, 784, 754, 755, 756, 757, 758, 759] (by decide +kernel) (by decide +kernel)
set_option maxRecDepth 20000 in
theorem gL_law_X7_told : GoodIn wsL_law (wsV RL 55 RX7 yX7_told wsX7_told) := goodIn_app (goodIn_of _ (by decide +kernel)) ggL_law_X7_told
set_option maxRecDepth 20000 in
theorem ggL_law_X8_told : GoodIn wsL_law wsX8_told := goodIn_r _ [590, 212, 132, 133, 134, 135, 137, 136, 199, 200, 5, 201, 455, 456, 457, 458, 138, 140, 694, 695, 696, 697, 698, 699, 700, 701, 702, 703, 704, 705, 706, 707, 708, 709, 710, 711, 712, 713, 714, 715, 716, 717, 718, 719, 720, 721, 722, 723, 724, 725, 726, 727, 728, 729, 730, 731, 732, 733, 734, 735, 736, 737, 738, 739, 740] (by decide +kernel) (by decide +kernel)
set_option maxRecDepth 20000 in
theorem gL_law_X8_told : GoodIn wsL_law (wsV RL 59 RX8 yX8_told wsX8_told) := goodIn_app (goodIn_of _ (by decide +kernel)) ggL_law_X8_told
set_option maxRecDepth 20000 in
theorem ggL_law_X7_mend : GoodIn wsL_law wsX7_mend := goodIn_r _ [594, 23, 35, 173, 497, 498, 499, 2, 500, 34, 256, 257, 258, 259, 15, 165, 166, 167, 168, 260, 261, 262, 224, 263, 264, 265, 22, 266, 59, 60, 62, 61, 58, 595, 596, 597, 598, 63, 599, 600, 601, 33, 602, 83, 84, 85, 86, 87, 88, 89, 360, 315, 320, 603, 604, 605, 606, 607, 608, 609, 687, 688, 689, 690, 691, 692, 693, 769, 770, 771, 772, 773, 774, 775, 776, 777, 778, 779, 780, 781, 782, 783, 784, 741, 742, 743, 744, 754, 755, 756, 757, 758, 759] (by decide +kernel) (by decide +kernel)
set_option maxRecDepth 20000 in
theorem gL_law_X7_mend : GoodIn wsL_law (wsV RL 60 RX7 yX7_mend wsX7_mend) := goodIn_app (goodIn_of _ (by decide +kernel)) ggL_law_X7_mend
set_option maxRecDepth 20000 in
theorem ggL_law_X8_mend : GoodIn wsL_law wsX8_mend := goodIn_r _ [613, 212, 140, 271, 272, 273, 5, 274, 120, 199, 200, 201, 275, 276, 277, 251, 278, 279, 280, 281, 135, 136, 137, 132, 133, 134, 694, 695, 696, 697, 698, 699, 700, 701, 702, 703, 704, 705, 706, 707, 708, 709, 710, 711, 712, 713, 714, 715, 716, 717, 718, 719, 720, 721, 722, 723, 724, 725, 726, 727, 728, 729, 730, 731, 732, 733, 734, 735, 736, 737, 738, 739, 740] (by decide +kernel) (by decide +kernel)
set_option maxRecDepth 20000 in
theorem gL_law_X8_mend : GoodIn wsL_law (wsV RL 64 RX8 yX8_mend wsX8_mend) := goodIn_app (goodIn_of _ (by decide +kernel)) ggL_law_X8_mend
set_option maxRecDepth 20000 in
theorem ggL_law_X7_owe : GoodIn wsL_law wsX7_owe := goodIn_r _ [617, 35, 34, 173, 308, 309, 310, 33, 311, 312, 313, 108, 314, 315, 316, 317, 318, 319, 320, 97, 321, 322, 323, 324, 325, 326, 327, 328, 329, 93, 330, 89, 331, 332, 333, 84, 334, 335, 336, 337, 18, 338, 47, 48, 339, 340, 341, 342, 101, 343, 95, 344, 345, 346, 22, 347, 62, 348, 349, 350, 351, 61, 352, 353, 354, 355, 63, 356, 357, 358, 359, 91, 360, 361, 362, 363, 364, 365, 366, 367, 59, 368, 369, 370, 371, 58, 372, 373, 374, 375, 376, 377, 378, 14, 379, 40, 41, 380, 381, 382, 383, 384, 88, 87, 385, 83, 386, 387, 388, 100, 389, 390, 110, 111, 112, 113, 114, 226, 2, 227, 391, 392, 393, 394, 49, 50, 395, 396, 397, 398, 399, 400, 401, 402, 403, 404, 405, 406, 407, 408, 115, 409, 410, 411, 412, 413, 414, 415, 416, 417, 86, 418, 419, 420, 421, 422, 85, 423, 424, 425, 426, 516, 517, 518, 519, 520, 521, 522, 523, 524, 513, 514, 515, 687, 688, 689, 690, 691, 692, 693, 769, 770, 771, 772, 773, 774, 775, 776, 777, 778, 779, 780, 781, 782, 783, 784, 760, 761, 762, 763, 764, 745, 746, 747, 748, 749, 750, 751, 752, 753, 785, 786, 787, 788, 789, 790, 791, 754, 755, 756, 757, 758, 759, 741, 742, 743, 744] (by decide +kernel) (by decide +kernel)
set_option maxRecDepth 20000 in
theorem gL_law_X7_owe : GoodIn wsL_law (wsV RL 65 RX7 yX7_owe wsX7_owe) := goodIn_app (goodIn_of _ (by decide +kernel)) ggL_law_X7_owe
set_option maxRecDepth 20000 in
theorem ggL_law_X8_owe : GoodIn wsL_law wsX8_owe := goodIn_r _ [621, 533, 534, 535, 5, 536, 212, 537, 538, 539, 540, 141, 142, 147, 143, 144, 145, 146, 148, 541, 542, 543, 544, 431, 160, 158, 159, 435, 436, 437, 438, 434, 241, 124, 125, 439, 440, 441, 451, 452, 453, 454, 137, 136, 135, 132, 133, 134, 129, 127, 455, 456, 457, 458, 138, 140, 459, 460, 461, 462, 122, 123, 463, 464, 465, 466, 467, 120, 121, 468, 469, 470, 471, 472, 150, 152, 149, 151, 157, 126, 473, 474, 475, 476, 450, 153, 154, 155, 156, 477, 478, 479, 480, 128, 130, 131, 481, 482, 483, 484, 485, 486, 487, 488, 489, 490, 491, 545, 546, 547, 548, 549, 550, 551, 552, 529, 530, 531, 532, 694, 695, 696, 697, 698, 699, 700, 701, 702, 703, 704, 705, 706, 707, 708, 709, 710, 711, 712, 713, 714, 715, 716, 717, 718, 719, 720, 721, 722, 723, 724, 725, 726, 727, 728, 729, 730, 731, 732, 733, 734, 735, 736, 737, 738, 739, 740] (by decide +kernel) (by decide +kernel)
set_option maxRecDepth 20000 in
theorem gL_law_X8_owe : GoodIn wsL_law (wsV RL 69 RX8 yX8_owe wsX8_owe) := goodIn_app (goodIn_of _ (by decide +kernel)) ggL_law_X8_owe
set_option maxRecDepth 20000 in
theorem ggL_law_X7_settle : GoodIn wsL_law wsX7_settle := goodIn_r _ [625, 35, 34, 173, 626, 308, 309, 310, 33, 311, 312, 313, 108, 314, 315, 316, 317, 318, 319, 320, 97, 321, 322, 323, 324, 325, 326, 327, 328, 329, 93, 330, 89, 331, 332, 333, 84, 334, 335, 336, 337, 18, 338, 47, 48, 339, 340, 341, 342, 101, 343, 95, 344, 345, 346, 22, 347, 62, 348, 349, 350, 351, 61, 352, 353, 354, 355, 63, 356, 357, 358, 359, 91, 360, 361, 362, 363, 364, 365, 366, 367, 59, 368, 369, 370, 371, 58, 372, 373, 374, 375, 376, 377, 378, 14, 379, 40, 41, 380, 381, 382, 383, 384, 88, 87, 385, 83, 386, 387, 388, 100, 389, 390, 110, 111, 112, 113, 114, 226, 2, 227, 391, 392, 393, 394, 49, 50, 395, 396, 397, 398, 399, 400, 401, 402, 403, 404, 405, 406, 407, 408, 115, 409, 410, 411, 412, 413, 414, 415, 416, 417, 86, 418, 419, 420, 421, 422, 85, 423, 424, 425, 426, 516, 517, 518, 519, 520, 521, 522, 523, 524, 513, 514, 515, 627, 628, 629, 630, 631, 632, 633, 634, 635, 687, 688, 689, 690, 691, 692, 693, 769, 770, 771, 772, 773, 774, 775, 776, 777, 778, 779, 780, 781, 782, 783, 784, 760, 761, 762, 763, 764, 745, 746, 747, 748, 749, 750, 751, 752, 753, 785, 786, 787, 788, 789, 790, 791, 754, 755, 756, 757, 758, 759, 741, 742, 743, 744] (by decide +kernel) (by decide +kernel)
set_option maxRecDepth 20000 in
theorem gL_law_X7_settle : GoodIn wsL_law (wsV RL 70 RX7 yX7_settle wsX7_settle) := goodIn_app (goodIn_of _ (by decide +kernel)) ggL_law_X7_settle
set_option maxRecDepth 20000 in
theorem ggL_law_X8_settle : GoodIn wsL_law wsX8_settle := goodIn_r _ [639, 141, 142, 147, 143, 144, 145, 148, 640, 533, 534, 535, 5, 536, 212, 537, 538, 539, 540, 146, 541, 542, 543, 544, 431, 160, 158, 159, 435, 436, 437, 438, 434, 241, 124, 125, 439, 440, 441, 451, 452, 453, 454, 137, 136, 135, 132, 133, 134, 129, 127, 455, 456, 457, 458, 138, 140, 459, 460, 461, 462, 122, 123, 463, 464, 465, 466, 467, 120, 121, 468, 469, 470, 471, 472, 150, 152, 149, 151, 157, 126, 473, 474, 475, 476, 450, 153, 154, 155, 156, 477, 478, 479, 480, 128, 130, 131, 481, 482, 483, 484, 485, 486, 487, 488, 489, 490, 491, 545, 546, 547, 548, 549, 550, 551, 552, 529, 530, 531, 532, 694, 695, 696, 697, 698, 699, 700, 701, 702, 703, 704, 705, 706, 707, 708, 709, 710, 711, 712, 713, 714, 715, 716, 717, 718, 719, 720, 721, 722, 723, 724, 725, 726, 727, 728, 729, 730, 731, 732, 733, 734, 735, 736, 737, 738, 739, 740] (by decide +kernel) (by decide +kernel)
set_option maxRecDepth 20000 in
theorem gL_law_X8_settle : GoodIn wsL_law (wsV RL 73 RX8 yX8_settle wsX8_settle) := goodIn_app (goodIn_of _ (by decide +kernel)) ggL_law_X8_settle
set_option maxRecDepth 20000 in
theorem ggL_law_X7_line : GoodIn wsL_law wsX7_line := goodIn_r _ [644, 34, 645, 300, 646, 647, 648, 649, 650, 651, 652, 653, 100, 654, 390, 110, 655, 313, 108, 314, 687, 688, 689, 690, 691, 692, 693, 769, 770, 771, 772, 773, 774, 775, 776, 777, 778, 779, 780, 781, 782, 783, 784, 785, 786, 787, 788, 789, 790, 791] (by decide +kernel) (by decide +kernel)
set_option maxRecDepth 20000 in
theorem gL_law_X7_line : GoodIn wsL_law (wsV RL 74 RX7 yX7_line wsX7_line) := goodIn_app (goodIn_of _ (by decide +kernel)) ggL_law_X7_line
set_option maxRecDepth 20000 in
theorem ggL_law_X8_line : GoodIn wsL_law wsX8_line := goodIn_r _ [659, 450, 432, 153, 154, 155, 156, 157, 694, 695, 696, 697, 698, 699, 700, 701, 702, 703, 704, 705, 706, 707, 708, 709, 710, 711, 712, 713, 714, 715, 716, 717, 718, 719, 720, 721, 722, 723, 724, 725, 726, 727, 728, 729, 730, 731, 732, 733, 734, 735, 736, 737, 738, 739, 740] (by decide +kernel) (by decide +kernel)
set_option maxRecDepth 20000 in
theorem gL_law_X8_line : GoodIn wsL_law (wsV RL 77 RX8 yX8_line wsX8_line) := goodIn_app (goodIn_of _ (by decide +kernel)) ggL_law_X8_line
set_option maxRecDepth 20000 in
theorem ggL_law_X7_count : GoodIn wsL_law wsX7_count := goodIn_r _ [663, 34, 173, 19, 217, 645, 664, 665, 27, 666, 667, 23, 300, 626, 668, 669, 670, 33, 671, 85, 672, 673, 674, 22, 675, 63, 676, 677, 678, 679, 680, 681, 682, 687, 688, 689, 690, 691, 692, 693, 769, 770, 771, 772, 773, 774, 775, 776, 777, 778, 779, 780, 781, 782, 783, 784, 745, 746, 747, 748, 749, 750, 751, 752, 753, 785, 786, 787, 788, 789, 790, 791, 760, 761, 762, 763, 764, 754, 755, 756, 757, 758, 759] (by decide +kernel) (by decide +kernel)
set_option maxRecDepth 20000 in
theorem gL_law_X7_count : GoodIn wsL_law (wsV RL 78 RX7 yX7_count wsX7_count) := goodIn_app (goodIn_of _ (by decide +kernel)) ggL_law_X7_count
set_option maxRecDepth 20000 in
theorem ggL_law_X8_count : GoodIn wsL_law wsX8_count := goodIn_r _ [686, 212, 241, 450, 148, 147, 433, 432, 138, 640, 694, 695, 696, 697, 698, 699, 700, 701, 702, 703, 704, 705, 706, 707, 708, 709, 710, 711, 712, 713, 714, 715, 716, 717, 718, 719, 720, 721, 722, 723, 724, 725, 726, 727, 728, 729, 730, 731, 732, 733, 734, 735, 736, 737, 738, 739, 740] (by decide +kernel) (by decide +kernel)
set_option maxRecDepth 20000 in
theorem gL_law_X8_count : GoodIn wsL_law (wsV RL 82 RX8 yX8_count wsX8_count) := goodIn_app (goodIn_of _ (by decide +kernel)) ggL_law_X8_count
theorem dL_law_0 : decode cL_law 0 = .ok (.new 7, 3) := by decide +kernel
theorem dL_law_3 : decode cL_law 3 = .ok (.dup, 1) := by decide +kernel
theorem dL_law_4 : decode cL_law 4 = .ok (.invokespecial 9, 3) := by decide +kernel
theorem dL_law_7 : decode cL_law 7 = .ok (.astore_n 1, 1) := by decide +kernel
theorem dL_law_8 : decode cL_law 8 = .ok (.new 10, 3) := by decide +kernel
theorem dL_law_11 : decode cL_law 11 = .ok (.dup, 1) := by decide +kernel
theorem dL_law_12 : decode cL_law 12 = .ok (.invokespecial 12, 3) := by decide +kernel
theorem dL_law_15 : decode cL_law 15 = .ok (.astore_n 2, 1) := by decide +kernel
theorem dL_law_16 : decode cL_law 16 = .ok (.iconst 0, 1) := by decide +kernel
theorem dL_law_17 : decode cL_law 17 = .ok (.istore_n 3, 1) := by decide +kernel
theorem dL_law_18 : decode cL_law 18 = .ok (.iload_n 3, 1) := by decide +kernel
theorem dL_law_19 : decode cL_law 19 = .ok (.aload_n 0, 1) := by decide +kernel
theorem dL_law_20 : decode cL_law 20 = .ok (.arraylength, 1) := by decide +kernel
theorem dL_law_21 : decode cL_law 21 = .ok (.bipush 9, 2) := by decide +kernel
theorem dL_law_23 : decode cL_law 23 = .ok (.isub, 1) := by decide +kernel
theorem dL_law_24 : decode cL_law 24 = .ok (.if_icmp .gt 757, 3) := by decide +kernel
theorem dL_law_27 : decode cL_law 27 = .ok (.aload_n 0, 1) := by decide +kernel
theorem dL_law_28 : decode cL_law 28 = .ok (.iload_n 3, 1) := by decide +kernel
theorem dL_law_29 : decode cL_law 29 = .ok (.iaload, 1) := by decide +kernel
theorem dL_law_30 : decode cL_law 30 = .ok (.bipush 15, 2) := by decide +kernel
theorem dL_law_32 : decode cL_law 32 = .ok (.iand, 1) := by decide +kernel
theorem dL_law_33 : decode cL_law 33 = .ok (.tableswitch 742 0 14 #[75, 174, 273, 352, 375, 409, 422, 455, 489, 523, 566, 657, 671, 684, 718], 75) := by decide +kernel
theorem dL_law_108 : decode cL_law 108 = .ok (.aload_n 1, 1) := by decide +kernel
theorem dL_law_109 : decode cL_law 109 = .ok (.aload_n 0, 1) := by decide +kernel
theorem dL_law_110 : decode cL_law 110 = .ok (.iload_n 3, 1) := by decide +kernel
theorem dL_law_111 : decode cL_law 111 = .ok (.iconst 1, 1) := by decide +kernel
theorem dL_law_112 : decode cL_law 112 = .ok (.iadd, 1) := by decide +kernel
theorem dL_law_113 : decode cL_law 113 = .ok (.iaload, 1) := by decide +kernel
theorem dL_law_114 : decode cL_law 114 = .ok (.aload_n 0, 1) := by decide +kernel
theorem dL_law_115 : decode cL_law 115 = .ok (.iload_n 3, 1) := by decide +kernel
theorem dL_law_116 : decode cL_law 116 = .ok (.iconst 2, 1) := by decide +kernel
theorem dL_law_117 : decode cL_law 117 = .ok (.iadd, 1) := by decide +kernel
theorem dL_law_118 : decode cL_law 118 = .ok (.iaload, 1) := by decide +kernel
theorem dL_law_119 : decode cL_law 119 = .ok (.aload_n 0, 1) := by decide +kernel
theorem dL_law_120 : decode cL_law 120 = .ok (.iload_n 3, 1) := by decide +kernel
theorem dL_law_121 : decode cL_law 121 = .ok (.iconst 3, 1) := by decide +kernel
theorem dL_law_122 : decode cL_law 122 = .ok (.iadd, 1) := by decide +kernel
theorem dL_law_123 : decode cL_law 123 = .ok (.iaload, 1) := by decide +kernel
theorem dL_law_124 : decode cL_law 124 = .ok (.aload_n 0, 1) := by decide +kernel
theorem dL_law_125 : decode cL_law 125 = .ok (.iload_n 3, 1) := by decide +kernel
theorem dL_law_126 : decode cL_law 126 = .ok (.iconst 4, 1) := by decide +kernel
theorem dL_law_127 : decode cL_law 127 = .ok (.iadd, 1) := by decide +kernel
theorem dL_law_128 : decode cL_law 128 = .ok (.iaload, 1) := by decide +kernel
theorem dL_law_129 : decode cL_law 129 = .ok (.aload_n 0, 1) := by decide +kernel
theorem dL_law_130 : decode cL_law 130 = .ok (.iload_n 3, 1) := by decide +kernel
theorem dL_law_131 : decode cL_law 131 = .ok (.iconst 5, 1) := by decide +kernel
theorem dL_law_132 : decode cL_law 132 = .ok (.iadd, 1) := by decide +kernel
theorem dL_law_133 : decode cL_law 133 = .ok (.iaload, 1) := by decide +kernel
theorem dL_law_134 : decode cL_law 134 = .ok (.aload_n 0, 1) := by decide +kernel
theorem dL_law_135 : decode cL_law 135 = .ok (.iload_n 3, 1) := by decide +kernel
theorem dL_law_136 : decode cL_law 136 = .ok (.bipush 6, 2) := by decide +kernel
theorem dL_law_138 : decode cL_law 138 = .ok (.iadd, 1) := by decide +kernel
theorem dL_law_139 : decode cL_law 139 = .ok (.iaload, 1) := by decide +kernel
theorem dL_law_140 : decode cL_law 140 = .ok (.aload_n 0, 1) := by decide +kernel
theorem dL_law_141 : decode cL_law 141 = .ok (.iload_n 3, 1) := by decide +kernel
theorem dL_law_142 : decode cL_law 142 = .ok (.bipush 7, 2) := by decide +kernel
theorem dL_law_144 : decode cL_law 144 = .ok (.iadd, 1) := by decide +kernel
theorem dL_law_145 : decode cL_law 145 = .ok (.iaload, 1) := by decide +kernel
theorem dL_law_146 : decode cL_law 146 = .ok (.aload_n 0, 1) := by decide +kernel
theorem dL_law_147 : decode cL_law 147 = .ok (.iload_n 3, 1) := by decide +kernel
theorem dL_law_148 : decode cL_law 148 = .ok (.bipush 8, 2) := by decide +kernel
theorem dL_law_150 : decode cL_law 150 = .ok (.iadd, 1) := by decide +kernel
theorem dL_law_151 : decode cL_law 151 = .ok (.iaload, 1) := by decide +kernel
theorem dL_law_152 : decode cL_law 152 = .ok (.invokevirtual 13, 3) := by decide +kernel
theorem dL_law_155 : decode cL_law 155 = .ok (.aload_n 2, 1) := by decide +kernel
theorem dL_law_156 : decode cL_law 156 = .ok (.aload_n 0, 1) := by decide +kernel
theorem dL_law_157 : decode cL_law 157 = .ok (.iload_n 3, 1) := by decide +kernel
theorem dL_law_158 : decode cL_law 158 = .ok (.iconst 1, 1) := by decide +kernel
theorem dL_law_159 : decode cL_law 159 = .ok (.iadd, 1) := by decide +kernel
theorem dL_law_160 : decode cL_law 160 = .ok (.iaload, 1) := by decide +kernel
theorem dL_law_161 : decode cL_law 161 = .ok (.aload_n 0, 1) := by decide +kernel
theorem dL_law_162 : decode cL_law 162 = .ok (.iload_n 3, 1) := by decide +kernel
theorem dL_law_163 : decode cL_law 163 = .ok (.iconst 2, 1) := by decide +kernel
theorem dL_law_164 : decode cL_law 164 = .ok (.iadd, 1) := by decide +kernel
theorem dL_law_165 : decode cL_law 165 = .ok (.iaload, 1) := by decide +kernel
theorem dL_law_166 : decode cL_law 166 = .ok (.aload_n 0, 1) := by decide +kernel
theorem dL_law_167 : decode cL_law 167 = .ok (.iload_n 3, 1) := by decide +kernel
theorem dL_law_168 : decode cL_law 168 = .ok (.iconst 3, 1) := by decide +kernel
theorem dL_law_169 : decode cL_law 169 = .ok (.iadd, 1) := by decide +kernel
theorem dL_law_170 : decode cL_law 170 = .ok (.iaload, 1) := by decide +kernel
theorem dL_law_171 : decode cL_law 171 = .ok (.aload_n 0, 1) := by decide +kernel
theorem dL_law_172 : decode cL_law 172 = .ok (.iload_n 3, 1) := by decide +kernel
theorem dL_law_173 : decode cL_law 173 = .ok (.iconst 4, 1) := by decide +kernel
theorem dL_law_174 : decode cL_law 174 = .ok (.iadd, 1) := by decide +kernel
theorem dL_law_175 : decode cL_law 175 = .ok (.iaload, 1) := by decide +kernel
theorem dL_law_176 : decode cL_law 176 = .ok (.aload_n 0, 1) := by decide +kernel
theorem dL_law_177 : decode cL_law 177 = .ok (.iload_n 3, 1) := by decide +kernel
theorem dL_law_178 : decode cL_law 178 = .ok (.iconst 5, 1) := by decide +kernel
theorem dL_law_179 : decode cL_law 179 = .ok (.iadd, 1) := by decide +kernel
theorem dL_law_180 : decode cL_law 180 = .ok (.iaload, 1) := by decide +kernel
theorem dL_law_181 : decode cL_law 181 = .ok (.aload_n 0, 1) := by decide +kernel
theorem dL_law_182 : decode cL_law 182 = .ok (.iload_n 3, 1) := by decide +kernel
theorem dL_law_183 : decode cL_law 183 = .ok (.bipush 6, 2) := by decide +kernel
theorem dL_law_185 : decode cL_law 185 = .ok (.iadd, 1) := by decide +kernel
theorem dL_law_186 : decode cL_law 186 = .ok (.iaload, 1) := by decide +kernel
theorem dL_law_187 : decode cL_law 187 = .ok (.aload_n 0, 1) := by decide +kernel
theorem dL_law_188 : decode cL_law 188 = .ok (.iload_n 3, 1) := by decide +kernel
theorem dL_law_189 : decode cL_law 189 = .ok (.bipush 7, 2) := by decide +kernel
theorem dL_law_191 : decode cL_law 191 = .ok (.iadd, 1) := by decide +kernel
theorem dL_law_192 : decode cL_law 192 = .ok (.iaload, 1) := by decide +kernel
theorem dL_law_193 : decode cL_law 193 = .ok (.aload_n 0, 1) := by decide +kernel
theorem dL_law_194 : decode cL_law 194 = .ok (.iload_n 3, 1) := by decide +kernel
theorem dL_law_195 : decode cL_law 195 = .ok (.bipush 8, 2) := by decide +kernel
theorem dL_law_197 : decode cL_law 197 = .ok (.iadd, 1) := by decide +kernel
theorem dL_law_198 : decode cL_law 198 = .ok (.iaload, 1) := by decide +kernel
theorem dL_law_199 : decode cL_law 199 = .ok (.invokevirtual 17, 3) := by decide +kernel
theorem dL_law_202 : decode cL_law 202 = .ok (.if_icmp .eq 573, 3) := by decide +kernel
theorem dL_law_205 : decode cL_law 205 = .ok (.iconst 0, 1) := by decide +kernel
theorem dL_law_206 : decode cL_law 206 = .ok (.ireturn, 1) := by decide +kernel
theorem dL_law_207 : decode cL_law 207 = .ok (.aload_n 1, 1) := by decide +kernel
theorem dL_law_208 : decode cL_law 208 = .ok (.aload_n 0, 1) := by decide +kernel
theorem dL_law_209 : decode cL_law 209 = .ok (.iload_n 3, 1) := by decide +kernel
theorem dL_law_210 : decode cL_law 210 = .ok (.iconst 1, 1) := by decide +kernel
theorem dL_law_211 : decode cL_law 211 = .ok (.iadd, 1) := by decide +kernel
theorem dL_law_212 : decode cL_law 212 = .ok (.iaload, 1) := by decide +kernel
theorem dL_law_213 : decode cL_law 213 = .ok (.aload_n 0, 1) := by decide +kernel
theorem dL_law_214 : decode cL_law 214 = .ok (.iload_n 3, 1) := by decide +kernel
theorem dL_law_215 : decode cL_law 215 = .ok (.iconst 2, 1) := by decide +kernel
theorem dL_law_216 : decode cL_law 216 = .ok (.iadd, 1) := by decide +kernel
theorem dL_law_217 : decode cL_law 217 = .ok (.iaload, 1) := by decide +kernel
theorem dL_law_218 : decode cL_law 218 = .ok (.aload_n 0, 1) := by decide +kernel
theorem dL_law_219 : decode cL_law 219 = .ok (.iload_n 3, 1) := by decide +kernel
theorem dL_law_220 : decode cL_law 220 = .ok (.iconst 3, 1) := by decide +kernel
theorem dL_law_221 : decode cL_law 221 = .ok (.iadd, 1) := by decide +kernel
theorem dL_law_222 : decode cL_law 222 = .ok (.iaload, 1) := by decide +kernel
theorem dL_law_223 : decode cL_law 223 = .ok (.aload_n 0, 1) := by decide +kernel
theorem dL_law_224 : decode cL_law 224 = .ok (.iload_n 3, 1) := by decide +kernel
theorem dL_law_225 : decode cL_law 225 = .ok (.iconst 4, 1) := by decide +kernel
theorem dL_law_226 : decode cL_law 226 = .ok (.iadd, 1) := by decide +kernel
theorem dL_law_227 : decode cL_law 227 = .ok (.iaload, 1) := by decide +kernel
theorem dL_law_228 : decode cL_law 228 = .ok (.aload_n 0, 1) := by decide +kernel
theorem dL_law_229 : decode cL_law 229 = .ok (.iload_n 3, 1) := by decide +kernel
theorem dL_law_230 : decode cL_law 230 = .ok (.iconst 5, 1) := by decide +kernel
theorem dL_law_231 : decode cL_law 231 = .ok (.iadd, 1) := by decide +kernel
theorem dL_law_232 : decode cL_law 232 = .ok (.iaload, 1) := by decide +kernel
theorem dL_law_233 : decode cL_law 233 = .ok (.aload_n 0, 1) := by decide +kernel
theorem dL_law_234 : decode cL_law 234 = .ok (.iload_n 3, 1) := by decide +kernel
theorem dL_law_235 : decode cL_law 235 = .ok (.bipush 6, 2) := by decide +kernel
theorem dL_law_237 : decode cL_law 237 = .ok (.iadd, 1) := by decide +kernel
theorem dL_law_238 : decode cL_law 238 = .ok (.iaload, 1) := by decide +kernel
theorem dL_law_239 : decode cL_law 239 = .ok (.aload_n 0, 1) := by decide +kernel
theorem dL_law_240 : decode cL_law 240 = .ok (.iload_n 3, 1) := by decide +kernel
theorem dL_law_241 : decode cL_law 241 = .ok (.bipush 7, 2) := by decide +kernel
theorem dL_law_243 : decode cL_law 243 = .ok (.iadd, 1) := by decide +kernel
theorem dL_law_244 : decode cL_law 244 = .ok (.iaload, 1) := by decide +kernel
theorem dL_law_245 : decode cL_law 245 = .ok (.aload_n 0, 1) := by decide +kernel
theorem dL_law_246 : decode cL_law 246 = .ok (.iload_n 3, 1) := by decide +kernel
theorem dL_law_247 : decode cL_law 247 = .ok (.bipush 8, 2) := by decide +kernel
theorem dL_law_249 : decode cL_law 249 = .ok (.iadd, 1) := by decide +kernel
theorem dL_law_250 : decode cL_law 250 = .ok (.iaload, 1) := by decide +kernel
theorem dL_law_251 : decode cL_law 251 = .ok (.invokevirtual 18, 3) := by decide +kernel
theorem dL_law_254 : decode cL_law 254 = .ok (.aload_n 2, 1) := by decide +kernel
theorem dL_law_255 : decode cL_law 255 = .ok (.aload_n 0, 1) := by decide +kernel
theorem dL_law_256 : decode cL_law 256 = .ok (.iload_n 3, 1) := by decide +kernel
theorem dL_law_257 : decode cL_law 257 = .ok (.iconst 1, 1) := by decide +kernel
theorem dL_law_258 : decode cL_law 258 = .ok (.iadd, 1) := by decide +kernel
theorem dL_law_259 : decode cL_law 259 = .ok (.iaload, 1) := by decide +kernel
theorem dL_law_260 : decode cL_law 260 = .ok (.aload_n 0, 1) := by decide +kernel
theorem dL_law_261 : decode cL_law 261 = .ok (.iload_n 3, 1) := by decide +kernel
theorem dL_law_262 : decode cL_law 262 = .ok (.iconst 2, 1) := by decide +kernel
theorem dL_law_263 : decode cL_law 263 = .ok (.iadd, 1) := by decide +kernel
theorem dL_law_264 : decode cL_law 264 = .ok (.iaload, 1) := by decide +kernel
theorem dL_law_265 : decode cL_law 265 = .ok (.aload_n 0, 1) := by decide +kernel
theorem dL_law_266 : decode cL_law 266 = .ok (.iload_n 3, 1) := by decide +kernel
theorem dL_law_267 : decode cL_law 267 = .ok (.iconst 3, 1) := by decide +kernel
theorem dL_law_268 : decode cL_law 268 = .ok (.iadd, 1) := by decide +kernel
theorem dL_law_269 : decode cL_law 269 = .ok (.iaload, 1) := by decide +kernel
theorem dL_law_270 : decode cL_law 270 = .ok (.aload_n 0, 1) := by decide +kernel
theorem dL_law_271 : decode cL_law 271 = .ok (.iload_n 3, 1) := by decide +kernel
theorem dL_law_272 : decode cL_law 272 = .ok (.iconst 4, 1) := by decide +kernel
theorem dL_law_273 : decode cL_law 273 = .ok (.iadd, 1) := by decide +kernel
theorem dL_law_274 : decode cL_law 274 = .ok (.iaload, 1) := by decide +kernel
theorem dL_law_275 : decode cL_law 275 = .ok (.aload_n 0, 1) := by decide +kernel
theorem dL_law_276 : decode cL_law 276 = .ok (.iload_n 3, 1) := by decide +kernel
theorem dL_law_277 : decode cL_law 277 = .ok (.iconst 5, 1) := by decide +kernel
theorem dL_law_278 : decode cL_law 278 = .ok (.iadd, 1) := by decide +kernel
theorem dL_law_279 : decode cL_law 279 = .ok (.iaload, 1) := by decide +kernel
theorem dL_law_280 : decode cL_law 280 = .ok (.aload_n 0, 1) := by decide +kernel
theorem dL_law_281 : decode cL_law 281 = .ok (.iload_n 3, 1) := by decide +kernel
theorem dL_law_282 : decode cL_law 282 = .ok (.bipush 6, 2) := by decide +kernel
theorem dL_law_284 : decode cL_law 284 = .ok (.iadd, 1) := by decide +kernel
theorem dL_law_285 : decode cL_law 285 = .ok (.iaload, 1) := by decide +kernel
theorem dL_law_286 : decode cL_law 286 = .ok (.aload_n 0, 1) := by decide +kernel
theorem dL_law_287 : decode cL_law 287 = .ok (.iload_n 3, 1) := by decide +kernel
theorem dL_law_288 : decode cL_law 288 = .ok (.bipush 7, 2) := by decide +kernel
theorem dL_law_290 : decode cL_law 290 = .ok (.iadd, 1) := by decide +kernel
theorem dL_law_291 : decode cL_law 291 = .ok (.iaload, 1) := by decide +kernel
theorem dL_law_292 : decode cL_law 292 = .ok (.aload_n 0, 1) := by decide +kernel
theorem dL_law_293 : decode cL_law 293 = .ok (.iload_n 3, 1) := by decide +kernel
theorem dL_law_294 : decode cL_law 294 = .ok (.bipush 8, 2) := by decide +kernel
theorem dL_law_296 : decode cL_law 296 = .ok (.iadd, 1) := by decide +kernel
theorem dL_law_297 : decode cL_law 297 = .ok (.iaload, 1) := by decide +kernel
theorem dL_law_298 : decode cL_law 298 = .ok (.invokevirtual 21, 3) := by decide +kernel
theorem dL_law_301 : decode cL_law 301 = .ok (.if_icmp .eq 474, 3) := by decide +kernel
theorem dL_law_304 : decode cL_law 304 = .ok (.iconst 0, 1) := by decide +kernel
theorem dL_law_305 : decode cL_law 305 = .ok (.ireturn, 1) := by decide +kernel
theorem dL_law_306 : decode cL_law 306 = .ok (.aload_n 1, 1) := by decide +kernel
theorem dL_law_307 : decode cL_law 307 = .ok (.aload_n 0, 1) := by decide +kernel
theorem dL_law_308 : decode cL_law 308 = .ok (.iload_n 3, 1) := by decide +kernel
theorem dL_law_309 : decode cL_law 309 = .ok (.iconst 1, 1) := by decide +kernel
theorem dL_law_310 : decode cL_law 310 = .ok (.iadd, 1) := by decide +kernel
theorem dL_law_311 : decode cL_law 311 = .ok (.iaload, 1) := by decide +kernel
theorem dL_law_312 : decode cL_law 312 = .ok (.aload_n 0, 1) := by decide +kernel
theorem dL_law_313 : decode cL_law 313 = .ok (.iload_n 3, 1) := by decide +kernel
theorem dL_law_314 : decode cL_law 314 = .ok (.iconst 2, 1) := by decide +kernel
theorem dL_law_315 : decode cL_law 315 = .ok (.iadd, 1) := by decide +kernel
theorem dL_law_316 : decode cL_law 316 = .ok (.iaload, 1) := by decide +kernel
theorem dL_law_317 : decode cL_law 317 = .ok (.aload_n 0, 1) := by decide +kernel
theorem dL_law_318 : decode cL_law 318 = .ok (.iload_n 3, 1) := by decide +kernel
theorem dL_law_319 : decode cL_law 319 = .ok (.iconst 3, 1) := by decide +kernel
theorem dL_law_320 : decode cL_law 320 = .ok (.iadd, 1) := by decide +kernel
theorem dL_law_321 : decode cL_law 321 = .ok (.iaload, 1) := by decide +kernel
theorem dL_law_322 : decode cL_law 322 = .ok (.aload_n 0, 1) := by decide +kernel
theorem dL_law_323 : decode cL_law 323 = .ok (.iload_n 3, 1) := by decide +kernel
theorem dL_law_324 : decode cL_law 324 = .ok (.iconst 4, 1) := by decide +kernel
theorem dL_law_325 : decode cL_law 325 = .ok (.iadd, 1) := by decide +kernel
theorem dL_law_326 : decode cL_law 326 = .ok (.iaload, 1) := by decide +kernel
theorem dL_law_327 : decode cL_law 327 = .ok (.aload_n 0, 1) := by decide +kernel
theorem dL_law_328 : decode cL_law 328 = .ok (.iload_n 3, 1) := by decide +kernel
theorem dL_law_329 : decode cL_law 329 = .ok (.iconst 5, 1) := by decide +kernel
theorem dL_law_330 : decode cL_law 330 = .ok (.iadd, 1) := by decide +kernel
theorem dL_law_331 : decode cL_law 331 = .ok (.iaload, 1) := by decide +kernel
theorem dL_law_332 : decode cL_law 332 = .ok (.ifCond .eq 7, 3) := by decide +kernel
theorem dL_law_335 : decode cL_law 335 = .ok (.iconst 1, 1) := by decide +kernel
theorem dL_law_336 : decode cL_law 336 = .ok (.goto 4, 3) := by decide +kernel
theorem dL_law_339 : decode cL_law 339 = .ok (.iconst 0, 1) := by decide +kernel
theorem dL_law_340 : decode cL_law 340 = .ok (.invokevirtual 22, 3) := by decide +kernel
theorem dL_law_343 : decode cL_law 343 = .ok (.aload_n 2, 1) := by decide +kernel
theorem dL_law_344 : decode cL_law 344 = .ok (.aload_n 0, 1) := by decide +kernel
theorem dL_law_345 : decode cL_law 345 = .ok (.iload_n 3, 1) := by decide +kernel
theorem dL_law_346 : decode cL_law 346 = .ok (.iconst 1, 1) := by decide +kernel
theorem dL_law_347 : decode cL_law 347 = .ok (.iadd, 1) := by decide +kernel
theorem dL_law_348 : decode cL_law 348 = .ok (.iaload, 1) := by decide +kernel
theorem dL_law_349 : decode cL_law 349 = .ok (.aload_n 0, 1) := by decide +kernel
theorem dL_law_350 : decode cL_law 350 = .ok (.iload_n 3, 1) := by decide +kernel
theorem dL_law_351 : decode cL_law 351 = .ok (.iconst 2, 1) := by decide +kernel
theorem dL_law_352 : decode cL_law 352 = .ok (.iadd, 1) := by decide +kernel
theorem dL_law_353 : decode cL_law 353 = .ok (.iaload, 1) := by decide +kernel
theorem dL_law_354 : decode cL_law 354 = .ok (.aload_n 0, 1) := by decide +kernel
theorem dL_law_355 : decode cL_law 355 = .ok (.iload_n 3, 1) := by decide +kernel
theorem dL_law_356 : decode cL_law 356 = .ok (.iconst 3, 1) := by decide +kernel
theorem dL_law_357 : decode cL_law 357 = .ok (.iadd, 1) := by decide +kernel
theorem dL_law_358 : decode cL_law 358 = .ok (.iaload, 1) := by decide +kernel
theorem dL_law_359 : decode cL_law 359 = .ok (.aload_n 0, 1) := by decide +kernel
theorem dL_law_360 : decode cL_law 360 = .ok (.iload_n 3, 1) := by decide +kernel
theorem dL_law_361 : decode cL_law 361 = .ok (.iconst 4, 1) := by decide +kernel
theorem dL_law_362 : decode cL_law 362 = .ok (.iadd, 1) := by decide +kernel
theorem dL_law_363 : decode cL_law 363 = .ok (.iaload, 1) := by decide +kernel
theorem dL_law_364 : decode cL_law 364 = .ok (.aload_n 0, 1) := by decide +kernel
theorem dL_law_365 : decode cL_law 365 = .ok (.iload_n 3, 1) := by decide +kernel
theorem dL_law_366 : decode cL_law 366 = .ok (.iconst 5, 1) := by decide +kernel
theorem dL_law_367 : decode cL_law 367 = .ok (.iadd, 1) := by decide +kernel
theorem dL_law_368 : decode cL_law 368 = .ok (.iaload, 1) := by decide +kernel
theorem dL_law_369 : decode cL_law 369 = .ok (.ifCond .eq 7, 3) := by decide +kernel
theorem dL_law_372 : decode cL_law 372 = .ok (.iconst 1, 1) := by decide +kernel
theorem dL_law_373 : decode cL_law 373 = .ok (.goto 4, 3) := by decide +kernel
theorem dL_law_376 : decode cL_law 376 = .ok (.iconst 0, 1) := by decide +kernel
theorem dL_law_377 : decode cL_law 377 = .ok (.invokevirtual 26, 3) := by decide +kernel
theorem dL_law_380 : decode cL_law 380 = .ok (.if_icmp .eq 395, 3) := by decide +kernel
theorem dL_law_383 : decode cL_law 383 = .ok (.iconst 0, 1) := by decide +kernel
theorem dL_law_384 : decode cL_law 384 = .ok (.ireturn, 1) := by decide +kernel
theorem dL_law_385 : decode cL_law 385 = .ok (.aload_n 1, 1) := by decide +kernel
theorem dL_law_386 : decode cL_law 386 = .ok (.aload_n 0, 1) := by decide +kernel
theorem dL_law_387 : decode cL_law 387 = .ok (.iload_n 3, 1) := by decide +kernel
theorem dL_law_388 : decode cL_law 388 = .ok (.iconst 1, 1) := by decide +kernel
theorem dL_law_389 : decode cL_law 389 = .ok (.iadd, 1) := by decide +kernel
theorem dL_law_390 : decode cL_law 390 = .ok (.iaload, 1) := by decide +kernel
theorem dL_law_391 : decode cL_law 391 = .ok (.invokevirtual 27, 3) := by decide +kernel
theorem dL_law_394 : decode cL_law 394 = .ok (.aload_n 2, 1) := by decide +kernel
theorem dL_law_395 : decode cL_law 395 = .ok (.aload_n 0, 1) := by decide +kernel
theorem dL_law_396 : decode cL_law 396 = .ok (.iload_n 3, 1) := by decide +kernel
theorem dL_law_397 : decode cL_law 397 = .ok (.iconst 1, 1) := by decide +kernel
theorem dL_law_398 : decode cL_law 398 = .ok (.iadd, 1) := by decide +kernel
theorem dL_law_399 : decode cL_law 399 = .ok (.iaload, 1) := by decide +kernel
theorem dL_law_400 : decode cL_law 400 = .ok (.invokevirtual 31, 3) := by decide +kernel
theorem dL_law_403 : decode cL_law 403 = .ok (.if_icmp .eq 372, 3) := by decide +kernel
theorem dL_law_406 : decode cL_law 406 = .ok (.iconst 0, 1) := by decide +kernel
theorem dL_law_407 : decode cL_law 407 = .ok (.ireturn, 1) := by decide +kernel
theorem dL_law_408 : decode cL_law 408 = .ok (.aload_n 1, 1) := by decide +kernel
theorem dL_law_409 : decode cL_law 409 = .ok (.aload_n 0, 1) := by decide +kernel
theorem dL_law_410 : decode cL_law 410 = .ok (.iload_n 3, 1) := by decide +kernel
theorem dL_law_411 : decode cL_law 411 = .ok (.iconst 1, 1) := by decide +kernel
theorem dL_law_412 : decode cL_law 412 = .ok (.iadd, 1) := by decide +kernel
theorem dL_law_413 : decode cL_law 413 = .ok (.iaload, 1) := by decide +kernel
theorem dL_law_414 : decode cL_law 414 = .ok (.aload_n 0, 1) := by decide +kernel
theorem dL_law_415 : decode cL_law 415 = .ok (.iload_n 3, 1) := by decide +kernel
theorem dL_law_416 : decode cL_law 416 = .ok (.iconst 2, 1) := by decide +kernel
theorem dL_law_417 : decode cL_law 417 = .ok (.iadd, 1) := by decide +kernel
theorem dL_law_418 : decode cL_law 418 = .ok (.iaload, 1) := by decide +kernel
theorem dL_law_419 : decode cL_law 419 = .ok (.invokevirtual 32, 3) := by decide +kernel
theorem dL_law_422 : decode cL_law 422 = .ok (.aload_n 2, 1) := by decide +kernel
theorem dL_law_423 : decode cL_law 423 = .ok (.aload_n 0, 1) := by decide +kernel
theorem dL_law_424 : decode cL_law 424 = .ok (.iload_n 3, 1) := by decide +kernel
theorem dL_law_425 : decode cL_law 425 = .ok (.iconst 1, 1) := by decide +kernel
theorem dL_law_426 : decode cL_law 426 = .ok (.iadd, 1) := by decide +kernel
theorem dL_law_427 : decode cL_law 427 = .ok (.iaload, 1) := by decide +kernel
theorem dL_law_428 : decode cL_law 428 = .ok (.aload_n 0, 1) := by decide +kernel
theorem dL_law_429 : decode cL_law 429 = .ok (.iload_n 3, 1) := by decide +kernel
theorem dL_law_430 : decode cL_law 430 = .ok (.iconst 2, 1) := by decide +kernel
theorem dL_law_431 : decode cL_law 431 = .ok (.iadd, 1) := by decide +kernel
theorem dL_law_432 : decode cL_law 432 = .ok (.iaload, 1) := by decide +kernel
theorem dL_law_433 : decode cL_law 433 = .ok (.invokevirtual 36, 3) := by decide +kernel
theorem dL_law_436 : decode cL_law 436 = .ok (.lcmp, 1) := by decide +kernel
theorem dL_law_437 : decode cL_law 437 = .ok (.ifCond .eq 338, 3) := by decide +kernel
theorem dL_law_440 : decode cL_law 440 = .ok (.iconst 0, 1) := by decide +kernel
theorem dL_law_441 : decode cL_law 441 = .ok (.ireturn, 1) := by decide +kernel
theorem dL_law_442 : decode cL_law 442 = .ok (.aload_n 1, 1) := by decide +kernel
theorem dL_law_443 : decode cL_law 443 = .ok (.invokevirtual 37, 3) := by decide +kernel
theorem dL_law_446 : decode cL_law 446 = .ok (.aload_n 2, 1) := by decide +kernel
theorem dL_law_447 : decode cL_law 447 = .ok (.invokevirtual 41, 3) := by decide +kernel
theorem dL_law_450 : decode cL_law 450 = .ok (.if_icmp .eq 325, 3) := by decide +kernel
theorem dL_law_453 : decode cL_law 453 = .ok (.iconst 0, 1) := by decide +kernel
theorem dL_law_454 : decode cL_law 454 = .ok (.ireturn, 1) := by decide +kernel
theorem dL_law_455 : decode cL_law 455 = .ok (.aload_n 1, 1) := by decide +kernel
theorem dL_law_456 : decode cL_law 456 = .ok (.aload_n 0, 1) := by decide +kernel
theorem dL_law_457 : decode cL_law 457 = .ok (.iload_n 3, 1) := by decide +kernel
theorem dL_law_458 : decode cL_law 458 = .ok (.iconst 1, 1) := by decide +kernel
theorem dL_law_459 : decode cL_law 459 = .ok (.iadd, 1) := by decide +kernel
theorem dL_law_460 : decode cL_law 460 = .ok (.iaload, 1) := by decide +kernel
theorem dL_law_461 : decode cL_law 461 = .ok (.aload_n 0, 1) := by decide +kernel
theorem dL_law_462 : decode cL_law 462 = .ok (.iload_n 3, 1) := by decide +kernel
theorem dL_law_463 : decode cL_law 463 = .ok (.iconst 2, 1) := by decide +kernel
theorem dL_law_464 : decode cL_law 464 = .ok (.iadd, 1) := by decide +kernel
theorem dL_law_465 : decode cL_law 465 = .ok (.iaload, 1) := by decide +kernel
theorem dL_law_466 : decode cL_law 466 = .ok (.invokevirtual 42, 3) := by decide +kernel
theorem dL_law_469 : decode cL_law 469 = .ok (.aload_n 2, 1) := by decide +kernel
theorem dL_law_470 : decode cL_law 470 = .ok (.aload_n 0, 1) := by decide +kernel
theorem dL_law_471 : decode cL_law 471 = .ok (.iload_n 3, 1) := by decide +kernel
theorem dL_law_472 : decode cL_law 472 = .ok (.iconst 1, 1) := by decide +kernel
theorem dL_law_473 : decode cL_law 473 = .ok (.iadd, 1) := by decide +kernel
theorem dL_law_474 : decode cL_law 474 = .ok (.iaload, 1) := by decide +kernel
theorem dL_law_475 : decode cL_law 475 = .ok (.aload_n 0, 1) := by decide +kernel
theorem dL_law_476 : decode cL_law 476 = .ok (.iload_n 3, 1) := by decide +kernel
theorem dL_law_477 : decode cL_law 477 = .ok (.iconst 2, 1) := by decide +kernel
theorem dL_law_478 : decode cL_law 478 = .ok (.iadd, 1) := by decide +kernel
theorem dL_law_479 : decode cL_law 479 = .ok (.iaload, 1) := by decide +kernel
theorem dL_law_480 : decode cL_law 480 = .ok (.invokevirtual 46, 3) := by decide +kernel
theorem dL_law_483 : decode cL_law 483 = .ok (.if_icmp .eq 292, 3) := by decide +kernel
theorem dL_law_486 : decode cL_law 486 = .ok (.iconst 0, 1) := by decide +kernel
theorem dL_law_487 : decode cL_law 487 = .ok (.ireturn, 1) := by decide +kernel
theorem dL_law_488 : decode cL_law 488 = .ok (.aload_n 1, 1) := by decide +kernel
theorem dL_law_489 : decode cL_law 489 = .ok (.aload_n 0, 1) := by decide +kernel
theorem dL_law_490 : decode cL_law 490 = .ok (.iload_n 3, 1) := by decide +kernel
theorem dL_law_491 : decode cL_law 491 = .ok (.iconst 1, 1) := by decide +kernel
theorem dL_law_492 : decode cL_law 492 = .ok (.iadd, 1) := by decide +kernel
theorem dL_law_493 : decode cL_law 493 = .ok (.iaload, 1) := by decide +kernel
theorem dL_law_494 : decode cL_law 494 = .ok (.aload_n 0, 1) := by decide +kernel
theorem dL_law_495 : decode cL_law 495 = .ok (.iload_n 3, 1) := by decide +kernel
theorem dL_law_496 : decode cL_law 496 = .ok (.iconst 2, 1) := by decide +kernel
theorem dL_law_497 : decode cL_law 497 = .ok (.iadd, 1) := by decide +kernel
theorem dL_law_498 : decode cL_law 498 = .ok (.iaload, 1) := by decide +kernel
theorem dL_law_499 : decode cL_law 499 = .ok (.invokevirtual 47, 3) := by decide +kernel
theorem dL_law_502 : decode cL_law 502 = .ok (.aload_n 2, 1) := by decide +kernel
theorem dL_law_503 : decode cL_law 503 = .ok (.aload_n 0, 1) := by decide +kernel
theorem dL_law_504 : decode cL_law 504 = .ok (.iload_n 3, 1) := by decide +kernel
theorem dL_law_505 : decode cL_law 505 = .ok (.iconst 1, 1) := by decide +kernel
theorem dL_law_506 : decode cL_law 506 = .ok (.iadd, 1) := by decide +kernel
theorem dL_law_507 : decode cL_law 507 = .ok (.iaload, 1) := by decide +kernel
theorem dL_law_508 : decode cL_law 508 = .ok (.aload_n 0, 1) := by decide +kernel
theorem dL_law_509 : decode cL_law 509 = .ok (.iload_n 3, 1) := by decide +kernel
theorem dL_law_510 : decode cL_law 510 = .ok (.iconst 2, 1) := by decide +kernel
theorem dL_law_511 : decode cL_law 511 = .ok (.iadd, 1) := by decide +kernel
theorem dL_law_512 : decode cL_law 512 = .ok (.iaload, 1) := by decide +kernel
theorem dL_law_513 : decode cL_law 513 = .ok (.invokevirtual 50, 3) := by decide +kernel
theorem dL_law_516 : decode cL_law 516 = .ok (.lcmp, 1) := by decide +kernel
theorem dL_law_517 : decode cL_law 517 = .ok (.ifCond .eq 258, 3) := by decide +kernel
theorem dL_law_520 : decode cL_law 520 = .ok (.iconst 0, 1) := by decide +kernel
theorem dL_law_521 : decode cL_law 521 = .ok (.ireturn, 1) := by decide +kernel
theorem dL_law_522 : decode cL_law 522 = .ok (.aload_n 1, 1) := by decide +kernel
theorem dL_law_523 : decode cL_law 523 = .ok (.aload_n 0, 1) := by decide +kernel
theorem dL_law_524 : decode cL_law 524 = .ok (.iload_n 3, 1) := by decide +kernel
theorem dL_law_525 : decode cL_law 525 = .ok (.iconst 1, 1) := by decide +kernel
theorem dL_law_526 : decode cL_law 526 = .ok (.iadd, 1) := by decide +kernel
theorem dL_law_527 : decode cL_law 527 = .ok (.iaload, 1) := by decide +kernel
theorem dL_law_528 : decode cL_law 528 = .ok (.aload_n 0, 1) := by decide +kernel
theorem dL_law_529 : decode cL_law 529 = .ok (.iload_n 3, 1) := by decide +kernel
theorem dL_law_530 : decode cL_law 530 = .ok (.iconst 2, 1) := by decide +kernel
theorem dL_law_531 : decode cL_law 531 = .ok (.iadd, 1) := by decide +kernel
theorem dL_law_532 : decode cL_law 532 = .ok (.iaload, 1) := by decide +kernel
theorem dL_law_533 : decode cL_law 533 = .ok (.invokevirtual 51, 3) := by decide +kernel
theorem dL_law_536 : decode cL_law 536 = .ok (.aload_n 2, 1) := by decide +kernel
theorem dL_law_537 : decode cL_law 537 = .ok (.aload_n 0, 1) := by decide +kernel
theorem dL_law_538 : decode cL_law 538 = .ok (.iload_n 3, 1) := by decide +kernel
theorem dL_law_539 : decode cL_law 539 = .ok (.iconst 1, 1) := by decide +kernel
theorem dL_law_540 : decode cL_law 540 = .ok (.iadd, 1) := by decide +kernel
theorem dL_law_541 : decode cL_law 541 = .ok (.iaload, 1) := by decide +kernel
theorem dL_law_542 : decode cL_law 542 = .ok (.aload_n 0, 1) := by decide +kernel
theorem dL_law_543 : decode cL_law 543 = .ok (.iload_n 3, 1) := by decide +kernel
theorem dL_law_544 : decode cL_law 544 = .ok (.iconst 2, 1) := by decide +kernel
theorem dL_law_545 : decode cL_law 545 = .ok (.iadd, 1) := by decide +kernel
theorem dL_law_546 : decode cL_law 546 = .ok (.iaload, 1) := by decide +kernel
theorem dL_law_547 : decode cL_law 547 = .ok (.invokevirtual 54, 3) := by decide +kernel
theorem dL_law_550 : decode cL_law 550 = .ok (.lcmp, 1) := by decide +kernel
theorem dL_law_551 : decode cL_law 551 = .ok (.ifCond .eq 224, 3) := by decide +kernel
theorem dL_law_554 : decode cL_law 554 = .ok (.iconst 0, 1) := by decide +kernel
theorem dL_law_555 : decode cL_law 555 = .ok (.ireturn, 1) := by decide +kernel
theorem dL_law_556 : decode cL_law 556 = .ok (.aload_n 1, 1) := by decide +kernel
theorem dL_law_557 : decode cL_law 557 = .ok (.aload_n 0, 1) := by decide +kernel
theorem dL_law_558 : decode cL_law 558 = .ok (.iload_n 3, 1) := by decide +kernel
theorem dL_law_559 : decode cL_law 559 = .ok (.iconst 1, 1) := by decide +kernel
theorem dL_law_560 : decode cL_law 560 = .ok (.iadd, 1) := by decide +kernel
theorem dL_law_561 : decode cL_law 561 = .ok (.iaload, 1) := by decide +kernel
theorem dL_law_562 : decode cL_law 562 = .ok (.aload_n 0, 1) := by decide +kernel
theorem dL_law_563 : decode cL_law 563 = .ok (.iload_n 3, 1) := by decide +kernel
theorem dL_law_564 : decode cL_law 564 = .ok (.iconst 2, 1) := by decide +kernel
theorem dL_law_565 : decode cL_law 565 = .ok (.iadd, 1) := by decide +kernel
theorem dL_law_566 : decode cL_law 566 = .ok (.iaload, 1) := by decide +kernel
theorem dL_law_567 : decode cL_law 567 = .ok (.aload_n 0, 1) := by decide +kernel
theorem dL_law_568 : decode cL_law 568 = .ok (.iload_n 3, 1) := by decide +kernel
theorem dL_law_569 : decode cL_law 569 = .ok (.iconst 3, 1) := by decide +kernel
theorem dL_law_570 : decode cL_law 570 = .ok (.iadd, 1) := by decide +kernel
theorem dL_law_571 : decode cL_law 571 = .ok (.iaload, 1) := by decide +kernel
theorem dL_law_572 : decode cL_law 572 = .ok (.invokevirtual 55, 3) := by decide +kernel
theorem dL_law_575 : decode cL_law 575 = .ok (.aload_n 2, 1) := by decide +kernel
theorem dL_law_576 : decode cL_law 576 = .ok (.aload_n 0, 1) := by decide +kernel
theorem dL_law_577 : decode cL_law 577 = .ok (.iload_n 3, 1) := by decide +kernel
theorem dL_law_578 : decode cL_law 578 = .ok (.iconst 1, 1) := by decide +kernel
theorem dL_law_579 : decode cL_law 579 = .ok (.iadd, 1) := by decide +kernel
theorem dL_law_580 : decode cL_law 580 = .ok (.iaload, 1) := by decide +kernel
theorem dL_law_581 : decode cL_law 581 = .ok (.aload_n 0, 1) := by decide +kernel
theorem dL_law_582 : decode cL_law 582 = .ok (.iload_n 3, 1) := by decide +kernel
theorem dL_law_583 : decode cL_law 583 = .ok (.iconst 2, 1) := by decide +kernel
theorem dL_law_584 : decode cL_law 584 = .ok (.iadd, 1) := by decide +kernel
theorem dL_law_585 : decode cL_law 585 = .ok (.iaload, 1) := by decide +kernel
theorem dL_law_586 : decode cL_law 586 = .ok (.aload_n 0, 1) := by decide +kernel
theorem dL_law_587 : decode cL_law 587 = .ok (.iload_n 3, 1) := by decide +kernel
theorem dL_law_588 : decode cL_law 588 = .ok (.iconst 3, 1) := by decide +kernel
theorem dL_law_589 : decode cL_law 589 = .ok (.iadd, 1) := by decide +kernel
theorem dL_law_590 : decode cL_law 590 = .ok (.iaload, 1) := by decide +kernel
theorem dL_law_591 : decode cL_law 591 = .ok (.invokevirtual 59, 3) := by decide +kernel
theorem dL_law_594 : decode cL_law 594 = .ok (.if_icmp .eq 181, 3) := by decide +kernel
theorem dL_law_597 : decode cL_law 597 = .ok (.iconst 0, 1) := by decide +kernel
theorem dL_law_598 : decode cL_law 598 = .ok (.ireturn, 1) := by decide +kernel
theorem dL_law_599 : decode cL_law 599 = .ok (.aload_n 1, 1) := by decide +kernel
theorem dL_law_600 : decode cL_law 600 = .ok (.aload_n 0, 1) := by decide +kernel
theorem dL_law_601 : decode cL_law 601 = .ok (.iload_n 3, 1) := by decide +kernel
theorem dL_law_602 : decode cL_law 602 = .ok (.iconst 1, 1) := by decide +kernel
theorem dL_law_603 : decode cL_law 603 = .ok (.iadd, 1) := by decide +kernel
theorem dL_law_604 : decode cL_law 604 = .ok (.iaload, 1) := by decide +kernel
theorem dL_law_605 : decode cL_law 605 = .ok (.aload_n 0, 1) := by decide +kernel
theorem dL_law_606 : decode cL_law 606 = .ok (.iload_n 3, 1) := by decide +kernel
theorem dL_law_607 : decode cL_law 607 = .ok (.iconst 2, 1) := by decide +kernel
theorem dL_law_608 : decode cL_law 608 = .ok (.iadd, 1) := by decide +kernel
theorem dL_law_609 : decode cL_law 609 = .ok (.iaload, 1) := by decide +kernel
theorem dL_law_610 : decode cL_law 610 = .ok (.aload_n 0, 1) := by decide +kernel
theorem dL_law_611 : decode cL_law 611 = .ok (.iload_n 3, 1) := by decide +kernel
theorem dL_law_612 : decode cL_law 612 = .ok (.iconst 3, 1) := by decide +kernel
theorem dL_law_613 : decode cL_law 613 = .ok (.iadd, 1) := by decide +kernel
theorem dL_law_614 : decode cL_law 614 = .ok (.iaload, 1) := by decide +kernel
theorem dL_law_615 : decode cL_law 615 = .ok (.aload_n 0, 1) := by decide +kernel
theorem dL_law_616 : decode cL_law 616 = .ok (.iload_n 3, 1) := by decide +kernel
theorem dL_law_617 : decode cL_law 617 = .ok (.iconst 4, 1) := by decide +kernel
theorem dL_law_618 : decode cL_law 618 = .ok (.iadd, 1) := by decide +kernel
theorem dL_law_619 : decode cL_law 619 = .ok (.iaload, 1) := by decide +kernel
theorem dL_law_620 : decode cL_law 620 = .ok (.aload_n 0, 1) := by decide +kernel
theorem dL_law_621 : decode cL_law 621 = .ok (.iload_n 3, 1) := by decide +kernel
theorem dL_law_622 : decode cL_law 622 = .ok (.iconst 5, 1) := by decide +kernel
theorem dL_law_623 : decode cL_law 623 = .ok (.iadd, 1) := by decide +kernel
theorem dL_law_624 : decode cL_law 624 = .ok (.iaload, 1) := by decide +kernel
theorem dL_law_625 : decode cL_law 625 = .ok (.aload_n 0, 1) := by decide +kernel
theorem dL_law_626 : decode cL_law 626 = .ok (.iload_n 3, 1) := by decide +kernel
theorem dL_law_627 : decode cL_law 627 = .ok (.bipush 6, 2) := by decide +kernel
theorem dL_law_629 : decode cL_law 629 = .ok (.iadd, 1) := by decide +kernel
theorem dL_law_630 : decode cL_law 630 = .ok (.iaload, 1) := by decide +kernel
theorem dL_law_631 : decode cL_law 631 = .ok (.ifCond .eq 7, 3) := by decide +kernel
theorem dL_law_634 : decode cL_law 634 = .ok (.iconst 1, 1) := by decide +kernel
theorem dL_law_635 : decode cL_law 635 = .ok (.goto 4, 3) := by decide +kernel
theorem dL_law_638 : decode cL_law 638 = .ok (.iconst 0, 1) := by decide +kernel
theorem dL_law_639 : decode cL_law 639 = .ok (.invokevirtual 60, 3) := by decide +kernel
theorem dL_law_642 : decode cL_law 642 = .ok (.aload_n 2, 1) := by decide +kernel
theorem dL_law_643 : decode cL_law 643 = .ok (.aload_n 0, 1) := by decide +kernel
theorem dL_law_644 : decode cL_law 644 = .ok (.iload_n 3, 1) := by decide +kernel
theorem dL_law_645 : decode cL_law 645 = .ok (.iconst 1, 1) := by decide +kernel
theorem dL_law_646 : decode cL_law 646 = .ok (.iadd, 1) := by decide +kernel
theorem dL_law_647 : decode cL_law 647 = .ok (.iaload, 1) := by decide +kernel
theorem dL_law_648 : decode cL_law 648 = .ok (.aload_n 0, 1) := by decide +kernel
theorem dL_law_649 : decode cL_law 649 = .ok (.iload_n 3, 1) := by decide +kernel
theorem dL_law_650 : decode cL_law 650 = .ok (.iconst 2, 1) := by decide +kernel
theorem dL_law_651 : decode cL_law 651 = .ok (.iadd, 1) := by decide +kernel
theorem dL_law_652 : decode cL_law 652 = .ok (.iaload, 1) := by decide +kernel
theorem dL_law_653 : decode cL_law 653 = .ok (.aload_n 0, 1) := by decide +kernel
theorem dL_law_654 : decode cL_law 654 = .ok (.iload_n 3, 1) := by decide +kernel
theorem dL_law_655 : decode cL_law 655 = .ok (.iconst 3, 1) := by decide +kernel
theorem dL_law_656 : decode cL_law 656 = .ok (.iadd, 1) := by decide +kernel
theorem dL_law_657 : decode cL_law 657 = .ok (.iaload, 1) := by decide +kernel
theorem dL_law_658 : decode cL_law 658 = .ok (.aload_n 0, 1) := by decide +kernel
theorem dL_law_659 : decode cL_law 659 = .ok (.iload_n 3, 1) := by decide +kernel
theorem dL_law_660 : decode cL_law 660 = .ok (.iconst 4, 1) := by decide +kernel
theorem dL_law_661 : decode cL_law 661 = .ok (.iadd, 1) := by decide +kernel
theorem dL_law_662 : decode cL_law 662 = .ok (.iaload, 1) := by decide +kernel
theorem dL_law_663 : decode cL_law 663 = .ok (.aload_n 0, 1) := by decide +kernel
theorem dL_law_664 : decode cL_law 664 = .ok (.iload_n 3, 1) := by decide +kernel
theorem dL_law_665 : decode cL_law 665 = .ok (.iconst 5, 1) := by decide +kernel
theorem dL_law_666 : decode cL_law 666 = .ok (.iadd, 1) := by decide +kernel
theorem dL_law_667 : decode cL_law 667 = .ok (.iaload, 1) := by decide +kernel
theorem dL_law_668 : decode cL_law 668 = .ok (.aload_n 0, 1) := by decide +kernel
theorem dL_law_669 : decode cL_law 669 = .ok (.iload_n 3, 1) := by decide +kernel
theorem dL_law_670 : decode cL_law 670 = .ok (.bipush 6, 2) := by decide +kernel
theorem dL_law_672 : decode cL_law 672 = .ok (.iadd, 1) := by decide +kernel
theorem dL_law_673 : decode cL_law 673 = .ok (.iaload, 1) := by decide +kernel
theorem dL_law_674 : decode cL_law 674 = .ok (.ifCond .eq 7, 3) := by decide +kernel
theorem dL_law_677 : decode cL_law 677 = .ok (.iconst 1, 1) := by decide +kernel
theorem dL_law_678 : decode cL_law 678 = .ok (.goto 4, 3) := by decide +kernel
theorem dL_law_681 : decode cL_law 681 = .ok (.iconst 0, 1) := by decide +kernel
theorem dL_law_682 : decode cL_law 682 = .ok (.invokevirtual 64, 3) := by decide +kernel
theorem dL_law_685 : decode cL_law 685 = .ok (.if_icmp .eq 90, 3) := by decide +kernel
theorem dL_law_688 : decode cL_law 688 = .ok (.iconst 0, 1) := by decide +kernel
theorem dL_law_689 : decode cL_law 689 = .ok (.ireturn, 1) := by decide +kernel
theorem dL_law_690 : decode cL_law 690 = .ok (.aload_n 1, 1) := by decide +kernel
theorem dL_law_691 : decode cL_law 691 = .ok (.invokevirtual 65, 3) := by decide +kernel
theorem dL_law_694 : decode cL_law 694 = .ok (.aload_n 2, 1) := by decide +kernel
theorem dL_law_695 : decode cL_law 695 = .ok (.invokevirtual 69, 3) := by decide +kernel
theorem dL_law_698 : decode cL_law 698 = .ok (.lcmp, 1) := by decide +kernel
theorem dL_law_699 : decode cL_law 699 = .ok (.ifCond .eq 76, 3) := by decide +kernel
theorem dL_law_702 : decode cL_law 702 = .ok (.iconst 0, 1) := by decide +kernel
theorem dL_law_703 : decode cL_law 703 = .ok (.ireturn, 1) := by decide +kernel
theorem dL_law_704 : decode cL_law 704 = .ok (.aload_n 1, 1) := by decide +kernel
theorem dL_law_705 : decode cL_law 705 = .ok (.invokevirtual 70, 3) := by decide +kernel
theorem dL_law_708 : decode cL_law 708 = .ok (.aload_n 2, 1) := by decide +kernel
theorem dL_law_709 : decode cL_law 709 = .ok (.invokevirtual 73, 3) := by decide +kernel
theorem dL_law_712 : decode cL_law 712 = .ok (.if_icmp .eq 63, 3) := by decide +kernel
theorem dL_law_715 : decode cL_law 715 = .ok (.iconst 0, 1) := by decide +kernel
theorem dL_law_716 : decode cL_law 716 = .ok (.ireturn, 1) := by decide +kernel
theorem dL_law_717 : decode cL_law 717 = .ok (.aload_n 1, 1) := by decide +kernel
theorem dL_law_718 : decode cL_law 718 = .ok (.aload_n 0, 1) := by decide +kernel
theorem dL_law_719 : decode cL_law 719 = .ok (.iload_n 3, 1) := by decide +kernel
theorem dL_law_720 : decode cL_law 720 = .ok (.iconst 1, 1) := by decide +kernel
theorem dL_law_721 : decode cL_law 721 = .ok (.iadd, 1) := by decide +kernel
theorem dL_law_722 : decode cL_law 722 = .ok (.iaload, 1) := by decide +kernel
theorem dL_law_723 : decode cL_law 723 = .ok (.aload_n 0, 1) := by decide +kernel
theorem dL_law_724 : decode cL_law 724 = .ok (.iload_n 3, 1) := by decide +kernel
theorem dL_law_725 : decode cL_law 725 = .ok (.iconst 2, 1) := by decide +kernel
theorem dL_law_726 : decode cL_law 726 = .ok (.iadd, 1) := by decide +kernel
theorem dL_law_727 : decode cL_law 727 = .ok (.iaload, 1) := by decide +kernel
theorem dL_law_728 : decode cL_law 728 = .ok (.invokevirtual 74, 3) := by decide +kernel
theorem dL_law_731 : decode cL_law 731 = .ok (.aload_n 2, 1) := by decide +kernel
theorem dL_law_732 : decode cL_law 732 = .ok (.aload_n 0, 1) := by decide +kernel
theorem dL_law_733 : decode cL_law 733 = .ok (.iload_n 3, 1) := by decide +kernel
theorem dL_law_734 : decode cL_law 734 = .ok (.iconst 1, 1) := by decide +kernel
theorem dL_law_735 : decode cL_law 735 = .ok (.iadd, 1) := by decide +kernel
theorem dL_law_736 : decode cL_law 736 = .ok (.iaload, 1) := by decide +kernel
theorem dL_law_737 : decode cL_law 737 = .ok (.aload_n 0, 1) := by decide +kernel
theorem dL_law_738 : decode cL_law 738 = .ok (.iload_n 3, 1) := by decide +kernel
theorem dL_law_739 : decode cL_law 739 = .ok (.iconst 2, 1) := by decide +kernel
theorem dL_law_740 : decode cL_law 740 = .ok (.iadd, 1) := by decide +kernel
theorem dL_law_741 : decode cL_law 741 = .ok (.iaload, 1) := by decide +kernel
theorem dL_law_742 : decode cL_law 742 = .ok (.invokevirtual 77, 3) := by decide +kernel
theorem dL_law_745 : decode cL_law 745 = .ok (.lcmp, 1) := by decide +kernel
theorem dL_law_746 : decode cL_law 746 = .ok (.ifCond .eq 29, 3) := by decide +kernel
theorem dL_law_749 : decode cL_law 749 = .ok (.iconst 0, 1) := by decide +kernel
theorem dL_law_750 : decode cL_law 750 = .ok (.ireturn, 1) := by decide +kernel
theorem dL_law_751 : decode cL_law 751 = .ok (.aload_n 1, 1) := by decide +kernel
theorem dL_law_752 : decode cL_law 752 = .ok (.aload_n 0, 1) := by decide +kernel
theorem dL_law_753 : decode cL_law 753 = .ok (.iload_n 3, 1) := by decide +kernel
theorem dL_law_754 : decode cL_law 754 = .ok (.iconst 1, 1) := by decide +kernel
theorem dL_law_755 : decode cL_law 755 = .ok (.iadd, 1) := by decide +kernel
theorem dL_law_756 : decode cL_law 756 = .ok (.iaload, 1) := by decide +kernel
theorem dL_law_757 : decode cL_law 757 = .ok (.invokevirtual 78, 3) := by decide +kernel
theorem dL_law_760 : decode cL_law 760 = .ok (.aload_n 2, 1) := by decide +kernel
theorem dL_law_761 : decode cL_law 761 = .ok (.aload_n 0, 1) := by decide +kernel
theorem dL_law_762 : decode cL_law 762 = .ok (.iload_n 3, 1) := by decide +kernel
theorem dL_law_763 : decode cL_law 763 = .ok (.iconst 1, 1) := by decide +kernel
theorem dL_law_764 : decode cL_law 764 = .ok (.iadd, 1) := by decide +kernel
theorem dL_law_765 : decode cL_law 765 = .ok (.iaload, 1) := by decide +kernel
theorem dL_law_766 : decode cL_law 766 = .ok (.invokevirtual 82, 3) := by decide +kernel
theorem dL_law_769 : decode cL_law 769 = .ok (.lcmp, 1) := by decide +kernel
theorem dL_law_770 : decode cL_law 770 = .ok (.ifCond .eq 5, 3) := by decide +kernel
theorem dL_law_773 : decode cL_law 773 = .ok (.iconst 0, 1) := by decide +kernel
theorem dL_law_774 : decode cL_law 774 = .ok (.ireturn, 1) := by decide +kernel
theorem dL_law_775 : decode cL_law 775 = .ok (.iinc 3 9, 3) := by decide +kernel
theorem dL_law_778 : decode cL_law 778 = .ok (.goto (-760), 3) := by decide +kernel
theorem dL_law_781 : decode cL_law 781 = .ok (.iconst 1, 1) := by decide +kernel
theorem dL_law_782 : decode cL_law 782 = .ok (.ireturn, 1) := by decide +kernel
