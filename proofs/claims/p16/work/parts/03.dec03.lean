theorem dX8_takes_145 : decode cX8_takes 145 = .ok (.imul, 1) := by decide +kernel
theorem dX8_takes_146 : decode cX8_takes 146 = .ok (.iload_n 2, 1) := by decide +kernel
theorem dX8_takes_147 : decode cX8_takes 147 = .ok (.iadd, 1) := by decide +kernel
theorem dX8_takes_148 : decode cX8_takes 148 = .ok (.laload, 1) := by decide +kernel
theorem dX8_takes_149 : decode cX8_takes 149 = .ok (.lload 4, 2) := by decide +kernel
theorem dX8_takes_151 : decode cX8_takes 151 = .ok (.ladd, 1) := by decide +kernel
theorem dX8_takes_152 : decode cX8_takes 152 = .ok (.lastore, 1) := by decide +kernel
theorem dX8_takes_153 : decode cX8_takes 153 = .ok (.lload 4, 2) := by decide +kernel
theorem dX8_takes_155 : decode cX8_takes 155 = .ok (.lreturn, 1) := by decide +kernel
set_option maxRecDepth 20000 in
theorem ggX8_sent_X8_isHand : GoodIn wsX8_sent wsX8_isHand := goodIn_r _ [13] rfl (by decide +kernel)
set_option maxRecDepth 20000 in
theorem gX8_sent_X8_isHand : GoodIn wsX8_sent (va_wsS RX8 132 yX8_isHand wsX8_isHand) := goodIn_app (goodIn_of _ (by decide +kernel)) ggX8_sent_X8_isHand
set_option maxRecDepth 20000 in
theorem ggX8_sent_X8_takes : GoodIn wsX8_sent wsX8_takes := goodIn_r _ [17, 9, 18, 19, 20, 21, 22, 23, 24, 12, 25, 26, 27, 28, 29, 30, 31, 32, 33, 34, 35, 36, 37, 38, 39, 40, 41, 42, 43, 44, 45, 46, 47, 48, 49, 50, 51, 52, 53, 54, 55, 56, 57, 58, 59, 60, 61, 62, 63, 64, 65, 66, 67, 68, 69, 70, 71, 72] rfl (by decide +kernel)
set_option maxRecDepth 20000 in
theorem gX8_sent_X8_takes : GoodIn wsX8_sent (wsV RX8 233 RX8 yX8_takes wsX8_takes) := goodIn_app (goodIn_of _ (by decide +kernel)) ggX8_sent_X8_takes
theorem dX8_sent_0 : decode cX8_sent 0 = .ok (.iload_n 1, 1) := by decide +kernel
theorem dX8_sent_1 : decode cX8_sent 1 = .ok (.invokestatic 132, 3) := by decide +kernel
theorem dX8_sent_4 : decode cX8_sent 4 = .ok (.ifCond .eq 23, 3) := by decide +kernel
theorem dX8_sent_7 : decode cX8_sent 7 = .ok (.iload_n 2, 1) := by decide +kernel
theorem dX8_sent_8 : decode cX8_sent 8 = .ok (.iconst 1, 1) := by decide +kernel
theorem dX8_sent_9 : decode cX8_sent 9 = .ok (.if_icmp .lt 18, 3) := by decide +kernel
theorem dX8_sent_12 : decode cX8_sent 12 = .ok (.iload_n 2, 1) := by decide +kernel
theorem dX8_sent_13 : decode cX8_sent 13 = .ok (.ldc 150, 2) := by decide +kernel
theorem dX8_sent_15 : decode cX8_sent 15 = .ok (.if_icmp .gt 12, 3) := by decide +kernel
theorem dX8_sent_18 : decode cX8_sent 18 = .ok (.aload_n 0, 1) := by decide +kernel
theorem dX8_sent_19 : decode cX8_sent 19 = .ok (.getfield 224, 3) := by decide +kernel
theorem dX8_sent_22 : decode cX8_sent 22 = .ok (.bipush 60, 2) := by decide +kernel
theorem dX8_sent_24 : decode cX8_sent 24 = .ok (.if_icmp .ne 7, 3) := by decide +kernel
theorem dX8_sent_27 : decode cX8_sent 27 = .ok (.ldc2_w 227, 3) := by decide +kernel
theorem dX8_sent_30 : decode cX8_sent 30 = .ok (.lreturn, 1) := by decide +kernel
theorem dX8_sent_31 : decode cX8_sent 31 = .ok (.aload_n 0, 1) := by decide +kernel
theorem dX8_sent_32 : decode cX8_sent 32 = .ok (.getfield 123, 3) := by decide +kernel
theorem dX8_sent_35 : decode cX8_sent 35 = .ok (.aload_n 0, 1) := by decide +kernel
theorem dX8_sent_36 : decode cX8_sent 36 = .ok (.getfield 224, 3) := by decide +kernel
theorem dX8_sent_39 : decode cX8_sent 39 = .ok (.iload_n 1, 1) := by decide +kernel
theorem dX8_sent_40 : decode cX8_sent 40 = .ok (.iastore, 1) := by decide +kernel
theorem dX8_sent_41 : decode cX8_sent 41 = .ok (.aload_n 0, 1) := by decide +kernel
theorem dX8_sent_42 : decode cX8_sent 42 = .ok (.getfield 126, 3) := by decide +kernel
theorem dX8_sent_45 : decode cX8_sent 45 = .ok (.aload_n 0, 1) := by decide +kernel
theorem dX8_sent_46 : decode cX8_sent 46 = .ok (.getfield 224, 3) := by decide +kernel
theorem dX8_sent_49 : decode cX8_sent 49 = .ok (.iload_n 2, 1) := by decide +kernel
theorem dX8_sent_50 : decode cX8_sent 50 = .ok (.iastore, 1) := by decide +kernel
theorem dX8_sent_51 : decode cX8_sent 51 = .ok (.aload_n 0, 1) := by decide +kernel
theorem dX8_sent_52 : decode cX8_sent 52 = .ok (.getfield 129, 3) := by decide +kernel
theorem dX8_sent_55 : decode cX8_sent 55 = .ok (.aload_n 0, 1) := by decide +kernel
theorem dX8_sent_56 : decode cX8_sent 56 = .ok (.getfield 224, 3) := by decide +kernel
theorem dX8_sent_59 : decode cX8_sent 59 = .ok (.aload_n 0, 1) := by decide +kernel
theorem dX8_sent_60 : decode cX8_sent 60 = .ok (.getfield 136, 3) := by decide +kernel
theorem dX8_sent_63 : decode cX8_sent 63 = .ok (.iastore, 1) := by decide +kernel
theorem dX8_sent_64 : decode cX8_sent 64 = .ok (.aload_n 0, 1) := by decide +kernel
theorem dX8_sent_65 : decode cX8_sent 65 = .ok (.aload_n 0, 1) := by decide +kernel
theorem dX8_sent_66 : decode cX8_sent 66 = .ok (.getfield 224, 3) := by decide +kernel
theorem dX8_sent_69 : decode cX8_sent 69 = .ok (.iconst 1, 1) := by decide +kernel
theorem dX8_sent_70 : decode cX8_sent 70 = .ok (.iadd, 1) := by decide +kernel
theorem dX8_sent_71 : decode cX8_sent 71 = .ok (.putfield 224, 3) := by decide +kernel
theorem dX8_sent_74 : decode cX8_sent 74 = .ok (.aload_n 0, 1) := by decide +kernel
theorem dX8_sent_75 : decode cX8_sent 75 = .ok (.aload_n 0, 1) := by decide +kernel
theorem dX8_sent_76 : decode cX8_sent 76 = .ok (.getfield 229, 3) := by decide +kernel
theorem dX8_sent_79 : decode cX8_sent 79 = .ok (.iload_n 2, 1) := by decide +kernel
theorem dX8_sent_80 : decode cX8_sent 80 = .ok (.i2l, 1) := by decide +kernel
theorem dX8_sent_81 : decode cX8_sent 81 = .ok (.ldc2_w 194, 3) := by decide +kernel
theorem dX8_sent_84 : decode cX8_sent 84 = .ok (.lmul, 1) := by decide +kernel
theorem dX8_sent_85 : decode cX8_sent 85 = .ok (.ladd, 1) := by decide +kernel
theorem dX8_sent_86 : decode cX8_sent 86 = .ok (.putfield 229, 3) := by decide +kernel
theorem dX8_sent_89 : decode cX8_sent 89 = .ok (.aload_n 0, 1) := by decide +kernel
theorem dX8_sent_90 : decode cX8_sent 90 = .ok (.iconst 0, 1) := by decide +kernel
theorem dX8_sent_91 : decode cX8_sent 91 = .ok (.iload_n 1, 1) := by decide +kernel
theorem dX8_sent_92 : decode cX8_sent 92 = .ok (.iload_n 2, 1) := by decide +kernel
theorem dX8_sent_93 : decode cX8_sent 93 = .ok (.invokevirtual 233, 3) := by decide +kernel
theorem dX8_sent_96 : decode cX8_sent 96 = .ok (.lreturn, 1) := by decide +kernel
set_option maxRecDepth 20000 in
theorem ggX8_sentIn_X8_takes : GoodIn wsX8_sentIn wsX8_takes := goodIn_r _ [9, 10, 11, 12, 13, 14, 15, 16, 17, 8, 18, 19, 20, 21, 22, 23, 24, 25, 26, 27, 28, 29, 30, 31, 32, 33, 34, 35, 36, 37, 38, 39, 40, 41, 42, 43, 44, 45, 46, 47, 48, 49, 50, 51, 52, 53, 54, 55, 56, 57, 58, 59, 60, 61, 62, 63, 64, 65] rfl (by decide +kernel)
set_option maxRecDepth 20000 in
theorem gX8_sentIn_X8_takes : GoodIn wsX8_sentIn (wsV RX8 233 RX8 yX8_takes wsX8_takes) := goodIn_app (goodIn_of _ (by decide +kernel)) ggX8_sentIn_X8_takes
theorem dX8_sentIn_0 : decode cX8_sentIn 0 = .ok (.iconst 0, 1) := by decide +kernel
theorem dX8_sentIn_1 : decode cX8_sentIn 1 = .ok (.istore_n 2, 1) := by decide +kernel
theorem dX8_sentIn_2 : decode cX8_sentIn 2 = .ok (.iload_n 2, 1) := by decide +kernel
theorem dX8_sentIn_3 : decode cX8_sentIn 3 = .ok (.aload_n 0, 1) := by decide +kernel
theorem dX8_sentIn_4 : decode cX8_sentIn 4 = .ok (.getfield 224, 3) := by decide +kernel
theorem dX8_sentIn_7 : decode cX8_sentIn 7 = .ok (.if_icmp .ge 37, 3) := by decide +kernel
theorem dX8_sentIn_10 : decode cX8_sentIn 10 = .ok (.aload_n 0, 1) := by decide +kernel
theorem dX8_sentIn_11 : decode cX8_sentIn 11 = .ok (.getfield 129, 3) := by decide +kernel
theorem dX8_sentIn_14 : decode cX8_sentIn 14 = .ok (.iload_n 2, 1) := by decide +kernel
theorem dX8_sentIn_15 : decode cX8_sentIn 15 = .ok (.iaload, 1) := by decide +kernel
theorem dX8_sentIn_16 : decode cX8_sentIn 16 = .ok (.iload_n 1, 1) := by decide +kernel
theorem dX8_sentIn_17 : decode cX8_sentIn 17 = .ok (.if_icmp .ne 21, 3) := by decide +kernel
theorem dX8_sentIn_20 : decode cX8_sentIn 20 = .ok (.aload_n 0, 1) := by decide +kernel
theorem dX8_sentIn_21 : decode cX8_sentIn 21 = .ok (.iconst 1, 1) := by decide +kernel
theorem dX8_sentIn_22 : decode cX8_sentIn 22 = .ok (.aload_n 0, 1) := by decide +kernel
theorem dX8_sentIn_23 : decode cX8_sentIn 23 = .ok (.getfield 123, 3) := by decide +kernel
theorem dX8_sentIn_26 : decode cX8_sentIn 26 = .ok (.iload_n 2, 1) := by decide +kernel
theorem dX8_sentIn_27 : decode cX8_sentIn 27 = .ok (.iaload, 1) := by decide +kernel
theorem dX8_sentIn_28 : decode cX8_sentIn 28 = .ok (.aload_n 0, 1) := by decide +kernel
theorem dX8_sentIn_29 : decode cX8_sentIn 29 = .ok (.getfield 126, 3) := by decide +kernel
theorem dX8_sentIn_32 : decode cX8_sentIn 32 = .ok (.iload_n 2, 1) := by decide +kernel
theorem dX8_sentIn_33 : decode cX8_sentIn 33 = .ok (.iaload, 1) := by decide +kernel
theorem dX8_sentIn_34 : decode cX8_sentIn 34 = .ok (.invokevirtual 233, 3) := by decide +kernel
theorem dX8_sentIn_37 : decode cX8_sentIn 37 = .ok (.pop2, 1) := by decide +kernel
theorem dX8_sentIn_38 : decode cX8_sentIn 38 = .ok (.iinc 2 1, 3) := by decide +kernel
theorem dX8_sentIn_41 : decode cX8_sentIn 41 = .ok (.goto (-39), 3) := by decide +kernel
theorem dX8_sentIn_44 : decode cX8_sentIn 44 = .ok (.return_, 1) := by decide +kernel
set_option maxRecDepth 20000 in
theorem ggX8_anew_X8_empties : GoodIn wsX8_anew wsX8_empties := goodIn_r _ [6, 7, 8, 9, 10, 11, 12, 13, 14, 103, 104, 105, 106, 107, 108, 109, 110, 111, 112, 113, 114, 115, 116, 117, 118, 119, 120, 121, 122, 123, 124, 125, 126, 127, 128, 129, 130, 131, 132, 133, 134, 135, 136, 137, 138, 139, 140, 141, 142, 143, 144, 145, 146, 147, 148, 149] rfl (by decide +kernel)
set_option maxRecDepth 20000 in
theorem gX8_anew_X8_empties : GoodIn wsX8_anew (wsV RX8 237 RX8 yX8_empties wsX8_empties) := goodIn_app (goodIn_of _ (by decide +kernel)) ggX8_anew_X8_empties
set_option maxRecDepth 20000 in
theorem ggX8_anew_X8_sentIn : GoodIn wsX8_anew wsX8_sentIn := goodIn_r _ [18, 19, 20, 21, 22, 23, 24, 25, 5, 26, 27, 28, 29, 30, 12, 8, 31, 32, 33, 103, 104, 105, 106, 107, 108, 109, 110, 111, 112, 113, 114, 115, 116, 117, 118, 119, 120, 121, 122, 123, 124, 125, 126, 127, 128, 129, 130, 131, 132, 133, 134, 135, 136, 137, 138, 139, 140, 141, 142, 143, 144, 145, 146, 147, 148, 149] rfl (by decide +kernel)
set_option maxRecDepth 20000 in
theorem gX8_anew_X8_sentIn : GoodIn wsX8_anew (wsV RX8 240 RX8 yX8_sentIn wsX8_sentIn) := goodIn_app (goodIn_of _ (by decide +kernel)) ggX8_anew_X8_sentIn
set_option maxRecDepth 20000 in
theorem ggX8_anew_X8_closes : GoodIn wsX8_anew wsX8_closes := goodIn_r _ [37, 38, 39, 40, 41, 42, 43, 28, 29, 44, 30, 7, 12, 45, 46, 47, 48, 5, 49, 50, 51, 52, 53, 54, 55, 56, 57, 58, 59, 60, 61, 62, 63, 64, 65, 66, 67, 68, 69, 14, 70, 71, 72, 73, 74, 75, 76, 77, 78, 79, 80, 81, 82, 83, 84, 85, 86, 87, 88, 89, 27, 11, 90, 10, 91, 31, 32, 33, 92, 93, 94, 95, 8, 13, 96, 97, 98, 99, 100, 101, 102, 9, 103, 104, 105, 106, 107, 108, 109, 110, 111, 112, 113, 114, 115, 116, 117, 118, 119, 120, 121, 122, 123, 124, 125, 126, 127, 128, 129, 130, 131, 132, 133, 134, 135, 136, 137, 138, 139, 140, 141, 142, 143, 144, 145, 146, 147, 148, 149] rfl (by decide +kernel)
set_option maxRecDepth 20000 in
theorem gX8_anew_X8_closes : GoodIn wsX8_anew (wsV RX8 220 RX8 yX8_closes wsX8_closes) := goodIn_app (goodIn_of _ (by decide +kernel)) ggX8_anew_X8_closes
theorem dX8_anew_0 : decode cX8_anew 0 = .ok (.aload_n 0, 1) := by decide +kernel
theorem dX8_anew_1 : decode cX8_anew 1 = .ok (.invokevirtual 237, 3) := by decide +kernel
theorem dX8_anew_4 : decode cX8_anew 4 = .ok (.iconst 0, 1) := by decide +kernel
theorem dX8_anew_5 : decode cX8_anew 5 = .ok (.istore_n 1, 1) := by decide +kernel
theorem dX8_anew_6 : decode cX8_anew 6 = .ok (.iload_n 1, 1) := by decide +kernel
theorem dX8_anew_7 : decode cX8_anew 7 = .ok (.aload_n 0, 1) := by decide +kernel
theorem dX8_anew_8 : decode cX8_anew 8 = .ok (.getfield 136, 3) := by decide +kernel
theorem dX8_anew_11 : decode cX8_anew 11 = .ok (.if_icmp .ge 20, 3) := by decide +kernel
theorem dX8_anew_14 : decode cX8_anew 14 = .ok (.aload_n 0, 1) := by decide +kernel
theorem dX8_anew_15 : decode cX8_anew 15 = .ok (.iload_n 1, 1) := by decide +kernel
theorem dX8_anew_16 : decode cX8_anew 16 = .ok (.invokevirtual 240, 3) := by decide +kernel
theorem dX8_anew_19 : decode cX8_anew 19 = .ok (.aload_n 0, 1) := by decide +kernel
theorem dX8_anew_20 : decode cX8_anew 20 = .ok (.iconst 1, 1) := by decide +kernel
theorem dX8_anew_21 : decode cX8_anew 21 = .ok (.iload_n 1, 1) := by decide +kernel
theorem dX8_anew_22 : decode cX8_anew 22 = .ok (.invokevirtual 220, 3) := by decide +kernel
theorem dX8_anew_25 : decode cX8_anew 25 = .ok (.iinc 1 1, 3) := by decide +kernel
theorem dX8_anew_28 : decode cX8_anew 28 = .ok (.goto (-22), 3) := by decide +kernel
theorem dX8_anew_31 : decode cX8_anew 31 = .ok (.aload_n 0, 1) := by decide +kernel
theorem dX8_anew_32 : decode cX8_anew 32 = .ok (.aload_n 0, 1) := by decide +kernel
theorem dX8_anew_33 : decode cX8_anew 33 = .ok (.getfield 136, 3) := by decide +kernel
theorem dX8_anew_36 : decode cX8_anew 36 = .ok (.invokevirtual 240, 3) := by decide +kernel
theorem dX8_anew_39 : decode cX8_anew 39 = .ok (.return_, 1) := by decide +kernel
set_option maxRecDepth 20000 in
theorem ggX8_duesOf_X8_dueAt : GoodIn wsX8_duesOf wsX8_dueAt := goodIn_r _ [5] rfl (by decide +kernel)
set_option maxRecDepth 20000 in
theorem gX8_duesOf_X8_dueAt : GoodIn wsX8_duesOf (va_wsS RX8 217 yX8_dueAt wsX8_dueAt) := goodIn_app (goodIn_of _ (by decide +kernel)) ggX8_duesOf_X8_dueAt
theorem dX8_duesOf_0 : decode cX8_duesOf 0 = .ok (.lconst 0, 1) := by decide +kernel
theorem dX8_duesOf_1 : decode cX8_duesOf 1 = .ok (.lstore_n 3, 1) := by decide +kernel
theorem dX8_duesOf_2 : decode cX8_duesOf 2 = .ok (.iconst 0, 1) := by decide +kernel
theorem dX8_duesOf_3 : decode cX8_duesOf 3 = .ok (.istore 5, 2) := by decide +kernel
theorem dX8_duesOf_5 : decode cX8_duesOf 5 = .ok (.iload 5, 2) := by decide +kernel
theorem dX8_duesOf_7 : decode cX8_duesOf 7 = .ok (.bipush 40, 2) := by decide +kernel
theorem dX8_duesOf_9 : decode cX8_duesOf 9 = .ok (.if_icmp .ge 25, 3) := by decide +kernel
theorem dX8_duesOf_12 : decode cX8_duesOf 12 = .ok (.lload_n 3, 1) := by decide +kernel
theorem dX8_duesOf_13 : decode cX8_duesOf 13 = .ok (.aload_n 0, 1) := by decide +kernel
theorem dX8_duesOf_14 : decode cX8_duesOf 14 = .ok (.getfield 87, 3) := by decide +kernel
theorem dX8_duesOf_17 : decode cX8_duesOf 17 = .ok (.iload_n 1, 1) := by decide +kernel
theorem dX8_duesOf_18 : decode cX8_duesOf 18 = .ok (.iload_n 2, 1) := by decide +kernel
theorem dX8_duesOf_19 : decode cX8_duesOf 19 = .ok (.iload 5, 2) := by decide +kernel
theorem dX8_duesOf_21 : decode cX8_duesOf 21 = .ok (.invokestatic 217, 3) := by decide +kernel
theorem dX8_duesOf_24 : decode cX8_duesOf 24 = .ok (.iaload, 1) := by decide +kernel
theorem dX8_duesOf_25 : decode cX8_duesOf 25 = .ok (.i2l, 1) := by decide +kernel
theorem dX8_duesOf_26 : decode cX8_duesOf 26 = .ok (.ladd, 1) := by decide +kernel
theorem dX8_duesOf_27 : decode cX8_duesOf 27 = .ok (.lstore_n 3, 1) := by decide +kernel
theorem dX8_duesOf_28 : decode cX8_duesOf 28 = .ok (.iinc 5 1, 3) := by decide +kernel
theorem dX8_duesOf_31 : decode cX8_duesOf 31 = .ok (.goto (-26), 3) := by decide +kernel
theorem dX8_duesOf_34 : decode cX8_duesOf 34 = .ok (.lload_n 3, 1) := by decide +kernel
theorem dX8_duesOf_35 : decode cX8_duesOf 35 = .ok (.lreturn, 1) := by decide +kernel
set_option maxRecDepth 20000 in
theorem ggX8_worth_X8_duesOf : GoodIn wsX8_worth wsX8_duesOf := goodIn_r _ [8, 9, 10, 11, 7, 12, 13, 14, 15, 16, 17, 18, 19, 20, 21, 22, 23, 24, 25, 26, 27, 28, 29, 30, 31, 32, 33, 34, 35, 36, 37, 38, 39, 40, 41, 42, 43, 44, 45, 46, 47, 48, 49, 50, 51, 52, 53, 54, 55, 56, 57, 58, 59] rfl (by decide +kernel)
set_option maxRecDepth 20000 in
theorem gX8_worth_X8_duesOf : GoodIn wsX8_worth (wsV RX8 244 RX8 yX8_duesOf wsX8_duesOf) := goodIn_app (goodIn_of _ (by decide +kernel)) ggX8_worth_X8_duesOf
theorem dX8_worth_0 : decode cX8_worth 0 = .ok (.aload_n 0, 1) := by decide +kernel
theorem dX8_worth_1 : decode cX8_worth 1 = .ok (.iload_n 1, 1) := by decide +kernel
theorem dX8_worth_2 : decode cX8_worth 2 = .ok (.iload_n 2, 1) := by decide +kernel
theorem dX8_worth_3 : decode cX8_worth 3 = .ok (.invokevirtual 244, 3) := by decide +kernel
theorem dX8_worth_6 : decode cX8_worth 6 = .ok (.ldc2_w 194, 3) := by decide +kernel
theorem dX8_worth_9 : decode cX8_worth 9 = .ok (.lmul, 1) := by decide +kernel
theorem dX8_worth_10 : decode cX8_worth 10 = .ok (.aload_n 0, 1) := by decide +kernel
theorem dX8_worth_11 : decode cX8_worth 11 = .ok (.getfield 71, 3) := by decide +kernel
theorem dX8_worth_14 : decode cX8_worth 14 = .ok (.bipush 12, 2) := by decide +kernel
theorem dX8_worth_16 : decode cX8_worth 16 = .ok (.iload_n 1, 1) := by decide +kernel
theorem dX8_worth_17 : decode cX8_worth 17 = .ok (.imul, 1) := by decide +kernel
theorem dX8_worth_18 : decode cX8_worth 18 = .ok (.iload_n 2, 1) := by decide +kernel
theorem dX8_worth_19 : decode cX8_worth 19 = .ok (.iadd, 1) := by decide +kernel
theorem dX8_worth_20 : decode cX8_worth 20 = .ok (.laload, 1) := by decide +kernel
theorem dX8_worth_21 : decode cX8_worth 21 = .ok (.ladd, 1) := by decide +kernel
theorem dX8_worth_22 : decode cX8_worth 22 = .ok (.aload_n 0, 1) := by decide +kernel
theorem dX8_worth_23 : decode cX8_worth 23 = .ok (.getfield 75, 3) := by decide +kernel
theorem dX8_worth_26 : decode cX8_worth 26 = .ok (.bipush 12, 2) := by decide +kernel
theorem dX8_worth_28 : decode cX8_worth 28 = .ok (.iload_n 1, 1) := by decide +kernel
theorem dX8_worth_29 : decode cX8_worth 29 = .ok (.imul, 1) := by decide +kernel
theorem dX8_worth_30 : decode cX8_worth 30 = .ok (.iload_n 2, 1) := by decide +kernel
theorem dX8_worth_31 : decode cX8_worth 31 = .ok (.iadd, 1) := by decide +kernel
theorem dX8_worth_32 : decode cX8_worth 32 = .ok (.laload, 1) := by decide +kernel
theorem dX8_worth_33 : decode cX8_worth 33 = .ok (.lsub, 1) := by decide +kernel
theorem dX8_worth_34 : decode cX8_worth 34 = .ok (.lreturn, 1) := by decide +kernel
set_option maxRecDepth 20000 in
theorem ggX8_owed_X8_worth : GoodIn wsX8_owed wsX8_worth := goodIn_r _ [5, 6, 7, 8, 9, 10, 11, 4, 12, 13, 14, 15, 16, 17, 18, 19, 20, 21, 22, 23, 24, 25, 26, 27, 28, 29, 30, 31, 32, 33, 34, 35, 36, 37, 38, 39, 40, 41, 42, 43, 44, 45, 46, 47, 48, 49, 50, 51, 52, 53, 54, 55, 56, 57, 58, 59, 60, 61, 62, 63] rfl (by decide +kernel)
set_option maxRecDepth 20000 in
theorem gX8_owed_X8_worth : GoodIn wsX8_owed (wsV RX8 248 RX8 yX8_worth wsX8_worth) := goodIn_app (goodIn_of _ (by decide +kernel)) ggX8_owed_X8_worth
theorem dX8_owed_0 : decode cX8_owed 0 = .ok (.aload_n 0, 1) := by decide +kernel
theorem dX8_owed_1 : decode cX8_owed 1 = .ok (.iconst 1, 1) := by decide +kernel
theorem dX8_owed_2 : decode cX8_owed 2 = .ok (.iload_n 1, 1) := by decide +kernel
theorem dX8_owed_3 : decode cX8_owed 3 = .ok (.invokevirtual 248, 3) := by decide +kernel
theorem dX8_owed_6 : decode cX8_owed 6 = .ok (.aload_n 0, 1) := by decide +kernel
theorem dX8_owed_7 : decode cX8_owed 7 = .ok (.iconst 0, 1) := by decide +kernel
theorem dX8_owed_8 : decode cX8_owed 8 = .ok (.iload_n 1, 1) := by decide +kernel
theorem dX8_owed_9 : decode cX8_owed 9 = .ok (.invokevirtual 248, 3) := by decide +kernel
theorem dX8_owed_12 : decode cX8_owed 12 = .ok (.lsub, 1) := by decide +kernel
theorem dX8_owed_13 : decode cX8_owed 13 = .ok (.lreturn, 1) := by decide +kernel
set_option maxRecDepth 20000 in
theorem ggX8_owe_X8_anew : GoodIn wsX8_owe wsX8_anew := goodIn_r _ [5, 6, 7, 8, 9, 4, 10, 11, 12, 13, 14, 15, 16, 17, 18, 19, 20, 21, 22, 23, 24, 25, 26, 27, 28, 29, 30, 31, 32, 33, 34, 35, 36, 37, 38, 39, 40, 41, 42, 43, 44, 45, 46, 47, 48, 49, 50, 51, 52, 53, 54, 55, 56, 57, 58, 59, 60, 61, 62, 63, 64, 65, 66, 67, 68, 69, 70, 71, 72, 73, 74, 75, 76, 77, 78, 79, 80, 81, 82, 83, 84, 85, 86, 87, 88, 89, 90, 91, 92, 93, 94, 95, 96, 97, 98, 99, 100, 101, 102, 103, 104, 105, 106, 119, 120, 121, 122, 123, 124, 125, 126, 127, 128, 129, 130, 131, 132, 133, 134, 135, 136, 137, 138, 139, 140, 141, 142, 143, 144, 145, 146, 147, 148, 149, 150, 151, 152, 153, 154, 155, 156, 157, 158, 159, 160, 161, 162, 163, 164, 165] rfl (by decide +kernel)
set_option maxRecDepth 20000 in
theorem gX8_owe_X8_anew : GoodIn wsX8_owe (wsV RX8 251 RX8 yX8_anew wsX8_anew) := goodIn_app (goodIn_of _ (by decide +kernel)) ggX8_owe_X8_anew
set_option maxRecDepth 20000 in
theorem ggX8_owe_X8_owed : GoodIn wsX8_owe wsX8_owed := goodIn_r _ [110, 111, 112, 113, 4, 114, 31, 11, 12, 115, 116, 117, 118, 17, 100, 101, 102, 119, 120, 121, 122, 123, 124, 125, 126, 127, 128, 129, 130, 131, 132, 133, 134, 135, 136, 137, 138, 139, 140, 141, 142, 143, 144, 145, 146, 147, 148, 149, 150, 151, 152, 153, 154, 155, 156, 157, 158, 159, 160, 161, 162, 163, 164, 165] rfl (by decide +kernel)
set_option maxRecDepth 20000 in
theorem gX8_owe_X8_owed : GoodIn wsX8_owe (wsV RX8 254 RX8 yX8_owed wsX8_owed) := goodIn_app (goodIn_of _ (by decide +kernel)) ggX8_owe_X8_owed
theorem dX8_owe_0 : decode cX8_owe 0 = .ok (.aload_n 0, 1) := by decide +kernel
theorem dX8_owe_1 : decode cX8_owe 1 = .ok (.invokevirtual 251, 3) := by decide +kernel
theorem dX8_owe_4 : decode cX8_owe 4 = .ok (.lconst 0, 1) := by decide +kernel
theorem dX8_owe_5 : decode cX8_owe 5 = .ok (.lstore_n 1, 1) := by decide +kernel
theorem dX8_owe_6 : decode cX8_owe 6 = .ok (.iconst 0, 1) := by decide +kernel
theorem dX8_owe_7 : decode cX8_owe 7 = .ok (.istore_n 3, 1) := by decide +kernel
theorem dX8_owe_8 : decode cX8_owe 8 = .ok (.iload_n 3, 1) := by decide +kernel
theorem dX8_owe_9 : decode cX8_owe 9 = .ok (.bipush 12, 2) := by decide +kernel
theorem dX8_owe_11 : decode cX8_owe 11 = .ok (.if_icmp .ge 17, 3) := by decide +kernel
theorem dX8_owe_14 : decode cX8_owe 14 = .ok (.lload_n 1, 1) := by decide +kernel
theorem dX8_owe_15 : decode cX8_owe 15 = .ok (.aload_n 0, 1) := by decide +kernel
theorem dX8_owe_16 : decode cX8_owe 16 = .ok (.iload_n 3, 1) := by decide +kernel
theorem dX8_owe_17 : decode cX8_owe 17 = .ok (.invokevirtual 254, 3) := by decide +kernel
theorem dX8_owe_20 : decode cX8_owe 20 = .ok (.ladd, 1) := by decide +kernel
theorem dX8_owe_21 : decode cX8_owe 21 = .ok (.lstore_n 1, 1) := by decide +kernel
theorem dX8_owe_22 : decode cX8_owe 22 = .ok (.iinc 3 1, 3) := by decide +kernel
theorem dX8_owe_25 : decode cX8_owe 25 = .ok (.goto (-17), 3) := by decide +kernel
theorem dX8_owe_28 : decode cX8_owe 28 = .ok (.lload_n 1, 1) := by decide +kernel
theorem dX8_owe_29 : decode cX8_owe 29 = .ok (.lreturn, 1) := by decide +kernel
set_option maxRecDepth 20000 in
theorem ggX8_settle_X8_anew : GoodIn wsX8_settle wsX8_anew := goodIn_r _ [13, 14, 15, 16, 17, 12, 18, 1, 2, 3, 4, 5, 6, 19, 7, 20, 21, 22, 23, 24, 25, 26, 27, 28, 29, 30, 31, 32, 33, 34, 35, 36, 37, 38, 39, 40, 41, 42, 43, 44, 45, 46, 47, 48, 49, 50, 51, 52, 53, 54, 55, 56, 57, 58, 59, 60, 61, 62, 63, 64, 65, 66, 67, 68, 69, 70, 71, 72, 73, 74, 75, 76, 77, 78, 79, 80, 81, 82, 83, 84, 85, 86, 87, 88, 89, 90, 91, 92, 93, 94, 95, 96, 97, 98, 99, 100, 101, 102, 103, 104, 105, 106, 107, 120, 121, 122, 123, 124, 125, 126, 127, 128, 129, 130, 131, 132, 133, 134, 135, 136, 137, 138, 139, 140, 141, 142, 143, 144, 145, 146, 147, 148, 149, 150, 151, 152, 153, 154, 155, 156, 157, 158, 159, 160, 161, 162, 163, 164, 165, 166] rfl (by decide +kernel)
set_option maxRecDepth 20000 in
theorem gX8_settle_X8_anew : GoodIn wsX8_settle (wsV RX8 251 RX8 yX8_anew wsX8_anew) := goodIn_app (goodIn_of _ (by decide +kernel)) ggX8_settle_X8_anew
set_option maxRecDepth 20000 in
theorem ggX8_settle_X8_owed : GoodIn wsX8_settle wsX8_owed := goodIn_r _ [111, 112, 113, 114, 12, 115, 32, 1, 2, 116, 117, 118, 119, 19, 101, 102, 103, 120, 121, 122, 123, 124, 125, 126, 127, 128, 129, 130, 131, 132, 133, 134, 135, 136, 137, 138, 139, 140, 141, 142, 143, 144, 145, 146, 147, 148, 149, 150, 151, 152, 153, 154, 155, 156, 157, 158, 159, 160, 161, 162, 163, 164, 165, 166] rfl (by decide +kernel)
set_option maxRecDepth 20000 in
theorem gX8_settle_X8_owed : GoodIn wsX8_settle (wsV RX8 254 RX8 yX8_owed wsX8_owed) := goodIn_app (goodIn_of _ (by decide +kernel)) ggX8_settle_X8_owed
theorem dX8_settle_0 : decode cX8_settle 0 = .ok (.aload_n 0, 1) := by decide +kernel
theorem dX8_settle_1 : decode cX8_settle 1 = .ok (.invokevirtual 251, 3) := by decide +kernel
theorem dX8_settle_4 : decode cX8_settle 4 = .ok (.iconst 0, 1) := by decide +kernel
theorem dX8_settle_5 : decode cX8_settle 5 = .ok (.istore_n 1, 1) := by decide +kernel
theorem dX8_settle_6 : decode cX8_settle 6 = .ok (.iconst 0, 1) := by decide +kernel
theorem dX8_settle_7 : decode cX8_settle 7 = .ok (.istore_n 2, 1) := by decide +kernel
theorem dX8_settle_8 : decode cX8_settle 8 = .ok (.iload_n 2, 1) := by decide +kernel
theorem dX8_settle_9 : decode cX8_settle 9 = .ok (.bipush 12, 2) := by decide +kernel
theorem dX8_settle_11 : decode cX8_settle 11 = .ok (.if_icmp .ge 90, 3) := by decide +kernel
theorem dX8_settle_14 : decode cX8_settle 14 = .ok (.aload_n 0, 1) := by decide +kernel
theorem dX8_settle_15 : decode cX8_settle 15 = .ok (.iload_n 2, 1) := by decide +kernel
theorem dX8_settle_16 : decode cX8_settle 16 = .ok (.invokevirtual 254, 3) := by decide +kernel
theorem dX8_settle_19 : decode cX8_settle 19 = .ok (.lstore_n 3, 1) := by decide +kernel
theorem dX8_settle_20 : decode cX8_settle 20 = .ok (.iload_n 1, 1) := by decide +kernel
theorem dX8_settle_21 : decode cX8_settle 21 = .ok (.lload_n 3, 1) := by decide +kernel
theorem dX8_settle_22 : decode cX8_settle 22 = .ok (.lconst 0, 1) := by decide +kernel
theorem dX8_settle_23 : decode cX8_settle 23 = .ok (.lcmp, 1) := by decide +kernel
theorem dX8_settle_24 : decode cX8_settle 24 = .ok (.ifCond .eq 7, 3) := by decide +kernel
theorem dX8_settle_27 : decode cX8_settle 27 = .ok (.iconst 1, 1) := by decide +kernel
theorem dX8_settle_28 : decode cX8_settle 28 = .ok (.goto 4, 3) := by decide +kernel
theorem dX8_settle_31 : decode cX8_settle 31 = .ok (.iconst 0, 1) := by decide +kernel
theorem dX8_settle_32 : decode cX8_settle 32 = .ok (.iadd, 1) := by decide +kernel
theorem dX8_settle_33 : decode cX8_settle 33 = .ok (.istore_n 1, 1) := by decide +kernel
theorem dX8_settle_34 : decode cX8_settle 34 = .ok (.aload_n 0, 1) := by decide +kernel
theorem dX8_settle_35 : decode cX8_settle 35 = .ok (.getfield 71, 3) := by decide +kernel
theorem dX8_settle_38 : decode cX8_settle 38 = .ok (.iload_n 2, 1) := by decide +kernel
theorem dX8_settle_39 : decode cX8_settle 39 = .ok (.aload_n 0, 1) := by decide +kernel
theorem dX8_settle_40 : decode cX8_settle 40 = .ok (.getfield 71, 3) := by decide +kernel
theorem dX8_settle_43 : decode cX8_settle 43 = .ok (.iload_n 2, 1) := by decide +kernel
theorem dX8_settle_44 : decode cX8_settle 44 = .ok (.laload, 1) := by decide +kernel
theorem dX8_settle_45 : decode cX8_settle 45 = .ok (.lload_n 3, 1) := by decide +kernel
theorem dX8_settle_46 : decode cX8_settle 46 = .ok (.ladd, 1) := by decide +kernel
theorem dX8_settle_47 : decode cX8_settle 47 = .ok (.aload_n 0, 1) := by decide +kernel
theorem dX8_settle_48 : decode cX8_settle 48 = .ok (.getfield 75, 3) := by decide +kernel
theorem dX8_settle_51 : decode cX8_settle 51 = .ok (.iload_n 2, 1) := by decide +kernel
theorem dX8_settle_52 : decode cX8_settle 52 = .ok (.laload, 1) := by decide +kernel
theorem dX8_settle_53 : decode cX8_settle 53 = .ok (.lsub, 1) := by decide +kernel
theorem dX8_settle_54 : decode cX8_settle 54 = .ok (.aload_n 0, 1) := by decide +kernel
theorem dX8_settle_55 : decode cX8_settle 55 = .ok (.getfield 75, 3) := by decide +kernel
theorem dX8_settle_58 : decode cX8_settle 58 = .ok (.bipush 12, 2) := by decide +kernel
theorem dX8_settle_60 : decode cX8_settle 60 = .ok (.iload_n 2, 1) := by decide +kernel
theorem dX8_settle_61 : decode cX8_settle 61 = .ok (.iadd, 1) := by decide +kernel
theorem dX8_settle_62 : decode cX8_settle 62 = .ok (.laload, 1) := by decide +kernel
theorem dX8_settle_63 : decode cX8_settle 63 = .ok (.ladd, 1) := by decide +kernel
theorem dX8_settle_64 : decode cX8_settle 64 = .ok (.lastore, 1) := by decide +kernel
theorem dX8_settle_65 : decode cX8_settle 65 = .ok (.aload_n 0, 1) := by decide +kernel
theorem dX8_settle_66 : decode cX8_settle 66 = .ok (.getfield 75, 3) := by decide +kernel
theorem dX8_settle_69 : decode cX8_settle 69 = .ok (.iload_n 2, 1) := by decide +kernel
theorem dX8_settle_70 : decode cX8_settle 70 = .ok (.aload_n 0, 1) := by decide +kernel
theorem dX8_settle_71 : decode cX8_settle 71 = .ok (.getfield 75, 3) := by decide +kernel
theorem dX8_settle_74 : decode cX8_settle 74 = .ok (.bipush 12, 2) := by decide +kernel
theorem dX8_settle_76 : decode cX8_settle 76 = .ok (.iload_n 2, 1) := by decide +kernel
theorem dX8_settle_77 : decode cX8_settle 77 = .ok (.iadd, 1) := by decide +kernel
theorem dX8_settle_78 : decode cX8_settle 78 = .ok (.laload, 1) := by decide +kernel
theorem dX8_settle_79 : decode cX8_settle 79 = .ok (.lastore, 1) := by decide +kernel
theorem dX8_settle_80 : decode cX8_settle 80 = .ok (.aload_n 0, 1) := by decide +kernel
theorem dX8_settle_81 : decode cX8_settle 81 = .ok (.getfield 90, 3) := by decide +kernel
theorem dX8_settle_84 : decode cX8_settle 84 = .ok (.iload_n 2, 1) := by decide +kernel
theorem dX8_settle_85 : decode cX8_settle 85 = .ok (.aload_n 0, 1) := by decide +kernel
theorem dX8_settle_86 : decode cX8_settle 86 = .ok (.getfield 90, 3) := by decide +kernel
theorem dX8_settle_89 : decode cX8_settle 89 = .ok (.bipush 12, 2) := by decide +kernel
theorem dX8_settle_91 : decode cX8_settle 91 = .ok (.iload_n 2, 1) := by decide +kernel
theorem dX8_settle_92 : decode cX8_settle 92 = .ok (.iadd, 1) := by decide +kernel
theorem dX8_settle_93 : decode cX8_settle 93 = .ok (.iaload, 1) := by decide +kernel
theorem dX8_settle_94 : decode cX8_settle 94 = .ok (.iastore, 1) := by decide +kernel
theorem dX8_settle_95 : decode cX8_settle 95 = .ok (.iinc 2 1, 3) := by decide +kernel
theorem dX8_settle_98 : decode cX8_settle 98 = .ok (.goto (-90), 3) := by decide +kernel
theorem dX8_settle_101 : decode cX8_settle 101 = .ok (.iconst 0, 1) := by decide +kernel
theorem dX8_settle_102 : decode cX8_settle 102 = .ok (.istore_n 2, 1) := by decide +kernel
theorem dX8_settle_103 : decode cX8_settle 103 = .ok (.iload_n 2, 1) := by decide +kernel
theorem dX8_settle_104 : decode cX8_settle 104 = .ok (.bipush 24, 2) := by decide +kernel
theorem dX8_settle_106 : decode cX8_settle 106 = .ok (.if_icmp .ge 39, 3) := by decide +kernel
theorem dX8_settle_109 : decode cX8_settle 109 = .ok (.aload_n 0, 1) := by decide +kernel
theorem dX8_settle_110 : decode cX8_settle 110 = .ok (.getfield 78, 3) := by decide +kernel
theorem dX8_settle_113 : decode cX8_settle 113 = .ok (.iload_n 2, 1) := by decide +kernel
theorem dX8_settle_114 : decode cX8_settle 114 = .ok (.aload_n 0, 1) := by decide +kernel
theorem dX8_settle_115 : decode cX8_settle 115 = .ok (.getfield 78, 3) := by decide +kernel
theorem dX8_settle_118 : decode cX8_settle 118 = .ok (.bipush 24, 2) := by decide +kernel
theorem dX8_settle_120 : decode cX8_settle 120 = .ok (.iload_n 2, 1) := by decide +kernel
theorem dX8_settle_121 : decode cX8_settle 121 = .ok (.iadd, 1) := by decide +kernel
theorem dX8_settle_122 : decode cX8_settle 122 = .ok (.laload, 1) := by decide +kernel
theorem dX8_settle_123 : decode cX8_settle 123 = .ok (.lastore, 1) := by decide +kernel
theorem dX8_settle_124 : decode cX8_settle 124 = .ok (.aload_n 0, 1) := by decide +kernel
theorem dX8_settle_125 : decode cX8_settle 125 = .ok (.getfield 81, 3) := by decide +kernel
theorem dX8_settle_128 : decode cX8_settle 128 = .ok (.iload_n 2, 1) := by decide +kernel
theorem dX8_settle_129 : decode cX8_settle 129 = .ok (.aload_n 0, 1) := by decide +kernel
theorem dX8_settle_130 : decode cX8_settle 130 = .ok (.getfield 81, 3) := by decide +kernel
theorem dX8_settle_133 : decode cX8_settle 133 = .ok (.bipush 24, 2) := by decide +kernel
theorem dX8_settle_135 : decode cX8_settle 135 = .ok (.iload_n 2, 1) := by decide +kernel
theorem dX8_settle_136 : decode cX8_settle 136 = .ok (.iadd, 1) := by decide +kernel
theorem dX8_settle_137 : decode cX8_settle 137 = .ok (.laload, 1) := by decide +kernel
theorem dX8_settle_138 : decode cX8_settle 138 = .ok (.lastore, 1) := by decide +kernel
theorem dX8_settle_139 : decode cX8_settle 139 = .ok (.iinc 2 1, 3) := by decide +kernel
theorem dX8_settle_142 : decode cX8_settle 142 = .ok (.goto (-39), 3) := by decide +kernel
theorem dX8_settle_145 : decode cX8_settle 145 = .ok (.iconst 0, 1) := by decide +kernel
theorem dX8_settle_146 : decode cX8_settle 146 = .ok (.istore_n 2, 1) := by decide +kernel
theorem dX8_settle_147 : decode cX8_settle 147 = .ok (.iload_n 2, 1) := by decide +kernel
theorem dX8_settle_148 : decode cX8_settle 148 = .ok (.sipush 960, 3) := by decide +kernel
theorem dX8_settle_151 : decode cX8_settle 151 = .ok (.if_icmp .ge 25, 3) := by decide +kernel
theorem dX8_settle_154 : decode cX8_settle 154 = .ok (.aload_n 0, 1) := by decide +kernel
theorem dX8_settle_155 : decode cX8_settle 155 = .ok (.getfield 84, 3) := by decide +kernel
theorem dX8_settle_158 : decode cX8_settle 158 = .ok (.iload_n 2, 1) := by decide +kernel
theorem dX8_settle_159 : decode cX8_settle 159 = .ok (.aload_n 0, 1) := by decide +kernel
theorem dX8_settle_160 : decode cX8_settle 160 = .ok (.getfield 84, 3) := by decide +kernel
theorem dX8_settle_163 : decode cX8_settle 163 = .ok (.sipush 960, 3) := by decide +kernel
theorem dX8_settle_166 : decode cX8_settle 166 = .ok (.iload_n 2, 1) := by decide +kernel
theorem dX8_settle_167 : decode cX8_settle 167 = .ok (.iadd, 1) := by decide +kernel
theorem dX8_settle_168 : decode cX8_settle 168 = .ok (.laload, 1) := by decide +kernel
theorem dX8_settle_169 : decode cX8_settle 169 = .ok (.lastore, 1) := by decide +kernel
theorem dX8_settle_170 : decode cX8_settle 170 = .ok (.iinc 2 1, 3) := by decide +kernel
theorem dX8_settle_173 : decode cX8_settle 173 = .ok (.goto (-26), 3) := by decide +kernel
theorem dX8_settle_176 : decode cX8_settle 176 = .ok (.aload_n 0, 1) := by decide +kernel
theorem dX8_settle_177 : decode cX8_settle 177 = .ok (.getfield 93, 3) := by decide +kernel
theorem dX8_settle_180 : decode cX8_settle 180 = .ok (.iconst 0, 1) := by decide +kernel
theorem dX8_settle_181 : decode cX8_settle 181 = .ok (.aload_n 0, 1) := by decide +kernel
theorem dX8_settle_182 : decode cX8_settle 182 = .ok (.getfield 93, 3) := by decide +kernel
theorem dX8_settle_185 : decode cX8_settle 185 = .ok (.iconst 1, 1) := by decide +kernel
theorem dX8_settle_186 : decode cX8_settle 186 = .ok (.laload, 1) := by decide +kernel
theorem dX8_settle_187 : decode cX8_settle 187 = .ok (.lastore, 1) := by decide +kernel
theorem dX8_settle_188 : decode cX8_settle 188 = .ok (.aload_n 0, 1) := by decide +kernel
theorem dX8_settle_189 : decode cX8_settle 189 = .ok (.aload_n 0, 1) := by decide +kernel
theorem dX8_settle_190 : decode cX8_settle 190 = .ok (.getfield 258, 3) := by decide +kernel
theorem dX8_settle_193 : decode cX8_settle 193 = .ok (.iconst 1, 1) := by decide +kernel
theorem dX8_settle_194 : decode cX8_settle 194 = .ok (.iadd, 1) := by decide +kernel
theorem dX8_settle_195 : decode cX8_settle 195 = .ok (.putfield 258, 3) := by decide +kernel
theorem dX8_settle_198 : decode cX8_settle 198 = .ok (.iload_n 1, 1) := by decide +kernel
theorem dX8_settle_199 : decode cX8_settle 199 = .ok (.ireturn, 1) := by decide +kernel
set_option maxRecDepth 20000 in
theorem ggX8_due_X8_isHand : GoodIn wsX8_due wsX8_isHand := goodIn_r _ [6] rfl (by decide +kernel)
set_option maxRecDepth 20000 in
theorem gX8_due_X8_isHand : GoodIn wsX8_due (va_wsS RX8 132 yX8_isHand wsX8_isHand) := goodIn_app (goodIn_of _ (by decide +kernel)) ggX8_due_X8_isHand
set_option maxRecDepth 20000 in
theorem ggX8_due_X8_dueAt : GoodIn wsX8_due wsX8_dueAt := goodIn_r _ [9] rfl (by decide +kernel)
set_option maxRecDepth 20000 in
theorem gX8_due_X8_dueAt : GoodIn wsX8_due (va_wsS RX8 217 yX8_dueAt wsX8_dueAt) := goodIn_app (goodIn_of _ (by decide +kernel)) ggX8_due_X8_dueAt
theorem dX8_due_0 : decode cX8_due 0 = .ok (.iload_n 1, 1) := by decide +kernel
theorem dX8_due_1 : decode cX8_due 1 = .ok (.invokestatic 132, 3) := by decide +kernel
theorem dX8_due_4 : decode cX8_due 4 = .ok (.ifCond .eq 29, 3) := by decide +kernel
theorem dX8_due_7 : decode cX8_due 7 = .ok (.iload_n 2, 1) := by decide +kernel
theorem dX8_due_8 : decode cX8_due 8 = .ok (.ifCond .lt 25, 3) := by decide +kernel
theorem dX8_due_11 : decode cX8_due 11 = .ok (.iload_n 2, 1) := by decide +kernel
theorem dX8_due_12 : decode cX8_due 12 = .ok (.aload_n 0, 1) := by decide +kernel
theorem dX8_due_13 : decode cX8_due 13 = .ok (.getfield 136, 3) := by decide +kernel
theorem dX8_due_16 : decode cX8_due 16 = .ok (.if_icmp .ge 17, 3) := by decide +kernel
theorem dX8_due_19 : decode cX8_due 19 = .ok (.aload_n 0, 1) := by decide +kernel
theorem dX8_due_20 : decode cX8_due 20 = .ok (.getfield 87, 3) := by decide +kernel
theorem dX8_due_23 : decode cX8_due 23 = .ok (.iconst 0, 1) := by decide +kernel
theorem dX8_due_24 : decode cX8_due 24 = .ok (.iload_n 1, 1) := by decide +kernel
theorem dX8_due_25 : decode cX8_due 25 = .ok (.iload_n 2, 1) := by decide +kernel
theorem dX8_due_26 : decode cX8_due 26 = .ok (.invokestatic 217, 3) := by decide +kernel
theorem dX8_due_29 : decode cX8_due 29 = .ok (.iaload, 1) := by decide +kernel
theorem dX8_due_30 : decode cX8_due 30 = .ok (.goto 4, 3) := by decide +kernel
theorem dX8_due_33 : decode cX8_due 33 = .ok (.iconst (-1), 1) := by decide +kernel
theorem dX8_due_34 : decode cX8_due 34 = .ok (.ireturn, 1) := by decide +kernel
set_option maxRecDepth 20000 in
theorem ggX8_hand_X8_isHand : GoodIn wsX8_hand wsX8_isHand := goodIn_r _ [8] rfl (by decide +kernel)
set_option maxRecDepth 20000 in
theorem gX8_hand_X8_isHand : GoodIn wsX8_hand (va_wsS RX8 132 yX8_isHand wsX8_isHand) := goodIn_app (goodIn_of _ (by decide +kernel)) ggX8_hand_X8_isHand
set_option maxRecDepth 20000 in
theorem ggX8_hand_X8_duesOf : GoodIn wsX8_hand wsX8_duesOf := goodIn_r _ [12, 13, 14, 15, 7, 16, 123, 124, 125, 126, 127, 128, 129, 130, 131, 132, 133, 134, 135, 136, 137, 138, 139, 140, 141, 142, 143, 144, 145, 146, 147, 148, 149, 150, 151, 152, 153, 154, 155, 156, 157, 158, 159, 160, 161, 162, 163, 164, 165, 166, 167, 168, 169] rfl (by decide +kernel)
set_option maxRecDepth 20000 in
theorem gX8_hand_X8_duesOf : GoodIn wsX8_hand (wsV RX8 244 RX8 yX8_duesOf wsX8_duesOf) := goodIn_app (goodIn_of _ (by decide +kernel)) ggX8_hand_X8_duesOf
set_option maxRecDepth 20000 in
theorem ggX8_hand_X8_anew : GoodIn wsX8_hand wsX8_anew := goodIn_r _ [20, 21, 22, 23, 24, 7, 25, 2, 3, 4, 26, 27, 28, 13, 29, 30, 31, 32, 33, 34, 35, 36, 37, 38, 39, 40, 41, 42, 43, 44, 45, 46, 47, 48, 49, 50, 51, 52, 53, 54, 55, 56, 57, 58, 59, 60, 61, 62, 63, 64, 65, 66, 67, 68, 69, 70, 71, 72, 73, 74, 75, 76, 77, 78, 79, 80, 81, 82, 83, 84, 85, 86, 87, 88, 89, 90, 91, 92, 93, 94, 95, 96, 97, 98, 99, 100, 101, 102, 103, 104, 105, 106, 107, 108, 109, 110, 14, 15, 16, 111, 112, 113, 114, 123, 124, 125, 126, 127, 128, 129, 130, 131, 132, 133, 134, 135, 136, 137, 138, 139, 140, 141, 142, 143, 144, 145, 146, 147, 148, 149, 150, 151, 152, 153, 154, 155, 156, 157, 158, 159, 160, 161, 162, 163, 164, 165, 166, 167, 168, 169] rfl (by decide +kernel)
set_option maxRecDepth 20000 in
theorem gX8_hand_X8_anew : GoodIn wsX8_hand (wsV RX8 251 RX8 yX8_anew wsX8_anew) := goodIn_app (goodIn_of _ (by decide +kernel)) ggX8_hand_X8_anew
set_option maxRecDepth 20000 in
theorem ggX8_hand_X8_owed : GoodIn wsX8_hand wsX8_owed := goodIn_r _ [118, 119, 120, 121, 7, 122, 42, 2, 3, 9, 10, 11, 12, 13, 14, 15, 16, 123, 124, 125, 126, 127, 128, 129, 130, 131, 132, 133, 134, 135, 136, 137, 138, 139, 140, 141, 142, 143, 144, 145, 146, 147, 148, 149, 150, 151, 152, 153, 154, 155, 156, 157, 158, 159, 160, 161, 162, 163, 164, 165, 166, 167, 168, 169] rfl (by decide +kernel)
set_option maxRecDepth 20000 in
theorem gX8_hand_X8_owed : GoodIn wsX8_hand (wsV RX8 254 RX8 yX8_owed wsX8_owed) := goodIn_app (goodIn_of _ (by decide +kernel)) ggX8_hand_X8_owed
theorem dX8_hand_0 : decode cX8_hand 0 = .ok (.iload_n 1, 1) := by decide +kernel
theorem dX8_hand_1 : decode cX8_hand 1 = .ok (.invokestatic 132, 3) := by decide +kernel
theorem dX8_hand_4 : decode cX8_hand 4 = .ok (.ifCond .ne 7, 3) := by decide +kernel
theorem dX8_hand_7 : decode cX8_hand 7 = .ok (.ldc2_w 227, 3) := by decide +kernel
theorem dX8_hand_10 : decode cX8_hand 10 = .ok (.lreturn, 1) := by decide +kernel
theorem dX8_hand_11 : decode cX8_hand 11 = .ok (.iload_n 2, 1) := by decide +kernel
theorem dX8_hand_12 : decode cX8_hand 12 = .ok (.tableswitch 75 0 4 #[36, 43, 50, 57, 65], 36) := by decide +kernel
theorem dX8_hand_48 : decode cX8_hand 48 = .ok (.aload_n 0, 1) := by decide +kernel
theorem dX8_hand_49 : decode cX8_hand 49 = .ok (.getfield 71, 3) := by decide +kernel
theorem dX8_hand_52 : decode cX8_hand 52 = .ok (.iload_n 1, 1) := by decide +kernel
theorem dX8_hand_53 : decode cX8_hand 53 = .ok (.laload, 1) := by decide +kernel
theorem dX8_hand_54 : decode cX8_hand 54 = .ok (.lreturn, 1) := by decide +kernel
theorem dX8_hand_55 : decode cX8_hand 55 = .ok (.aload_n 0, 1) := by decide +kernel
theorem dX8_hand_56 : decode cX8_hand 56 = .ok (.getfield 75, 3) := by decide +kernel
theorem dX8_hand_59 : decode cX8_hand 59 = .ok (.iload_n 1, 1) := by decide +kernel
theorem dX8_hand_60 : decode cX8_hand 60 = .ok (.laload, 1) := by decide +kernel
theorem dX8_hand_61 : decode cX8_hand 61 = .ok (.lreturn, 1) := by decide +kernel
theorem dX8_hand_62 : decode cX8_hand 62 = .ok (.aload_n 0, 1) := by decide +kernel
theorem dX8_hand_63 : decode cX8_hand 63 = .ok (.iconst 0, 1) := by decide +kernel
theorem dX8_hand_64 : decode cX8_hand 64 = .ok (.iload_n 1, 1) := by decide +kernel
theorem dX8_hand_65 : decode cX8_hand 65 = .ok (.invokevirtual 244, 3) := by decide +kernel
theorem dX8_hand_68 : decode cX8_hand 68 = .ok (.lreturn, 1) := by decide +kernel
theorem dX8_hand_69 : decode cX8_hand 69 = .ok (.aload_n 0, 1) := by decide +kernel
theorem dX8_hand_70 : decode cX8_hand 70 = .ok (.getfield 90, 3) := by decide +kernel
theorem dX8_hand_73 : decode cX8_hand 73 = .ok (.iload_n 1, 1) := by decide +kernel
theorem dX8_hand_74 : decode cX8_hand 74 = .ok (.iaload, 1) := by decide +kernel
theorem dX8_hand_75 : decode cX8_hand 75 = .ok (.i2l, 1) := by decide +kernel
theorem dX8_hand_76 : decode cX8_hand 76 = .ok (.lreturn, 1) := by decide +kernel
theorem dX8_hand_77 : decode cX8_hand 77 = .ok (.aload_n 0, 1) := by decide +kernel
theorem dX8_hand_78 : decode cX8_hand 78 = .ok (.invokevirtual 251, 3) := by decide +kernel
theorem dX8_hand_81 : decode cX8_hand 81 = .ok (.aload_n 0, 1) := by decide +kernel
theorem dX8_hand_82 : decode cX8_hand 82 = .ok (.iload_n 1, 1) := by decide +kernel
theorem dX8_hand_83 : decode cX8_hand 83 = .ok (.invokevirtual 254, 3) := by decide +kernel
theorem dX8_hand_86 : decode cX8_hand 86 = .ok (.lreturn, 1) := by decide +kernel
theorem dX8_hand_87 : decode cX8_hand 87 = .ok (.ldc2_w 227, 3) := by decide +kernel
theorem dX8_hand_90 : decode cX8_hand 90 = .ok (.lreturn, 1) := by decide +kernel
set_option maxRecDepth 20000 in
theorem ggX8_inBags_X8_bag : GoodIn wsX8_inBags wsX8_bag := goodIn_r _ [5] rfl (by decide +kernel)
set_option maxRecDepth 20000 in
theorem gX8_inBags_X8_bag : GoodIn wsX8_inBags (va_wsS RX8 196 yX8_bag wsX8_bag) := goodIn_app (goodIn_of _ (by decide +kernel)) ggX8_inBags_X8_bag
theorem dX8_inBags_0 : decode cX8_inBags 0 = .ok (.lconst 0, 1) := by decide +kernel
theorem dX8_inBags_1 : decode cX8_inBags 1 = .ok (.lstore_n 2, 1) := by decide +kernel
theorem dX8_inBags_2 : decode cX8_inBags 2 = .ok (.iconst 0, 1) := by decide +kernel
theorem dX8_inBags_3 : decode cX8_inBags 3 = .ok (.istore 4, 2) := by decide +kernel
theorem dX8_inBags_5 : decode cX8_inBags 5 = .ok (.iload 4, 2) := by decide +kernel
theorem dX8_inBags_7 : decode cX8_inBags 7 = .ok (.bipush 40, 2) := by decide +kernel
theorem dX8_inBags_9 : decode cX8_inBags 9 = .ok (.if_icmp .ge 24, 3) := by decide +kernel
theorem dX8_inBags_12 : decode cX8_inBags 12 = .ok (.lload_n 2, 1) := by decide +kernel
theorem dX8_inBags_13 : decode cX8_inBags 13 = .ok (.aload_n 0, 1) := by decide +kernel
theorem dX8_inBags_14 : decode cX8_inBags 14 = .ok (.getfield 84, 3) := by decide +kernel
theorem dX8_inBags_17 : decode cX8_inBags 17 = .ok (.iconst 0, 1) := by decide +kernel
theorem dX8_inBags_18 : decode cX8_inBags 18 = .ok (.iload_n 1, 1) := by decide +kernel
theorem dX8_inBags_19 : decode cX8_inBags 19 = .ok (.iload 4, 2) := by decide +kernel
theorem dX8_inBags_21 : decode cX8_inBags 21 = .ok (.invokestatic 196, 3) := by decide +kernel
theorem dX8_inBags_24 : decode cX8_inBags 24 = .ok (.laload, 1) := by decide +kernel
theorem dX8_inBags_25 : decode cX8_inBags 25 = .ok (.ladd, 1) := by decide +kernel
theorem dX8_inBags_26 : decode cX8_inBags 26 = .ok (.lstore_n 2, 1) := by decide +kernel
theorem dX8_inBags_27 : decode cX8_inBags 27 = .ok (.iinc 4 1, 3) := by decide +kernel
theorem dX8_inBags_30 : decode cX8_inBags 30 = .ok (.goto (-25), 3) := by decide +kernel
theorem dX8_inBags_33 : decode cX8_inBags 33 = .ok (.lload_n 2, 1) := by decide +kernel
theorem dX8_inBags_34 : decode cX8_inBags 34 = .ok (.lreturn, 1) := by decide +kernel
set_option maxRecDepth 20000 in
theorem ggX8_has_X8_inBags : GoodIn wsX8_has wsX8_inBags := goodIn_r _ [13, 8, 14, 15, 12, 16, 17, 18, 19, 20, 21, 22, 23, 24, 25, 26, 27, 28, 29, 30, 31, 32, 33, 34, 35, 36, 37, 38, 39, 40, 41, 42, 43, 44, 45, 46, 47, 48, 49, 50, 51, 52, 53, 54, 55, 56, 57, 58, 59, 60, 61, 62, 63] rfl (by decide +kernel)
set_option maxRecDepth 20000 in
theorem gX8_has_X8_inBags : GoodIn wsX8_has (wsV RX8 261 RX8 yX8_inBags wsX8_inBags) := goodIn_app (goodIn_of _ (by decide +kernel)) ggX8_has_X8_inBags
set_option maxRecDepth 20000 in
theorem ggX8_has_X8_bag : GoodIn wsX8_has wsX8_bag := goodIn_r _ [16] rfl (by decide +kernel)
set_option maxRecDepth 20000 in
theorem gX8_has_X8_bag : GoodIn wsX8_has (va_wsS RX8 196 yX8_bag wsX8_bag) := goodIn_app (goodIn_of _ (by decide +kernel)) ggX8_has_X8_bag
theorem dX8_has_0 : decode cX8_has 0 = .ok (.iload_n 1, 1) := by decide +kernel
theorem dX8_has_1 : decode cX8_has 1 = .ok (.ifCond .lt 11, 3) := by decide +kernel
theorem dX8_has_4 : decode cX8_has 4 = .ok (.iload_n 1, 1) := by decide +kernel
theorem dX8_has_5 : decode cX8_has 5 = .ok (.aload_n 0, 1) := by decide +kernel
theorem dX8_has_6 : decode cX8_has 6 = .ok (.getfield 157, 3) := by decide +kernel
theorem dX8_has_9 : decode cX8_has 9 = .ok (.if_icmp .lt 7, 3) := by decide +kernel
theorem dX8_has_12 : decode cX8_has 12 = .ok (.ldc2_w 227, 3) := by decide +kernel
theorem dX8_has_15 : decode cX8_has 15 = .ok (.lreturn, 1) := by decide +kernel
theorem dX8_has_16 : decode cX8_has 16 = .ok (.iload_n 2, 1) := by decide +kernel
theorem dX8_has_17 : decode cX8_has 17 = .ok (.ifCond .ne 10, 3) := by decide +kernel
theorem dX8_has_20 : decode cX8_has 20 = .ok (.aload_n 0, 1) := by decide +kernel
theorem dX8_has_21 : decode cX8_has 21 = .ok (.getfield 78, 3) := by decide +kernel
theorem dX8_has_24 : decode cX8_has 24 = .ok (.iload_n 1, 1) := by decide +kernel
theorem dX8_has_25 : decode cX8_has 25 = .ok (.laload, 1) := by decide +kernel
theorem dX8_has_26 : decode cX8_has 26 = .ok (.lreturn, 1) := by decide +kernel
theorem dX8_has_27 : decode cX8_has 27 = .ok (.iload_n 2, 1) := by decide +kernel
theorem dX8_has_28 : decode cX8_has 28 = .ok (.iconst 1, 1) := by decide +kernel
theorem dX8_has_29 : decode cX8_has 29 = .ok (.if_icmp .ne 10, 3) := by decide +kernel
theorem dX8_has_32 : decode cX8_has 32 = .ok (.aload_n 0, 1) := by decide +kernel
theorem dX8_has_33 : decode cX8_has 33 = .ok (.getfield 81, 3) := by decide +kernel
