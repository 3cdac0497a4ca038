set_option maxRecDepth 20000 in
theorem gX2_runLine_X0_holdsFor : GoodIn wsX2_runLine (wsV RX2 212 RX0 yX0_holdsFor wsX0_holdsFor) := goodIn_app (goodIn_of _ (by decide +kernel)) ggX2_runLine_X0_holdsFor
set_option maxRecDepth 20000 in
theorem ggX2_runLine_X2_takenBy : GoodIn wsX2_runLine wsX2_takenBy := goodIn_r _ [41, 2, 42, 4, 43, 44, 6, 45, 46, 47, 48, 49, 5, 50, 51, 52, 53, 62, 63, 64, 65, 66, 67, 68, 69, 70, 71, 72, 73, 74, 75, 76, 77, 78, 79, 80, 81, 82, 83, 84, 85, 86] (by decide +kernel) (by decide +kernel)
set_option maxRecDepth 20000 in
theorem gX2_runLine_X2_takenBy : GoodIn wsX2_runLine (wsV RX2 216 RX2 yX2_takenBy wsX2_takenBy) := goodIn_app (goodIn_of _ (by decide +kernel)) ggX2_runLine_X2_takenBy
set_option maxRecDepth 20000 in
theorem ggX2_runLine_X2_runLine : GoodIn wsX2_runLine wsX2_runLine := goodIn_r _ [0, 1, 2, 3, 4, 5, 6, 7, 8, 9, 10, 11, 12, 13, 14, 15, 16, 17, 18, 19, 20, 21, 22, 23, 24, 25, 26, 27, 28, 29, 30, 31, 32, 33, 34, 35, 36, 37, 38, 39, 40, 41, 42, 43, 44, 45, 46, 47, 48, 49, 50, 51, 52, 53, 54, 55, 56, 57, 58, 59, 60, 61, 62, 63, 64, 65, 66, 67, 68, 69, 70, 71, 72, 73, 74, 75, 76, 77, 78, 79, 80, 81, 82, 83, 84, 85, 86, 87, 88, 89, 90, 91, 92, 93] (by decide +kernel) (by decide +kernel)
set_option maxRecDepth 20000 in
theorem gX2_runLine_X2_runLine : GoodIn wsX2_runLine (wsV RX2 200 RX2 yX2_runLine wsX2_runLine) := goodIn_app (goodIn_of _ (by decide +kernel)) ggX2_runLine_X2_runLine
set_option maxRecDepth 20000 in
theorem ggX2_runLine_X3_end : GoodIn wsX2_runLine wsX3_end := goodIn_r _ [60, 17, 61, 87, 88, 89, 90, 91, 92, 93] (by decide +kernel) (by decide +kernel)
set_option maxRecDepth 20000 in
theorem gX2_runLine_X3_end : GoodIn wsX2_runLine (wsV RX2 223 RX3 yX3_end wsX3_end) := goodIn_app (goodIn_of _ (by decide +kernel)) ggX2_runLine_X3_end
theorem dX2_runLine_0 : decode cX2_runLine 0 = .ok (.aload_n 0, 1) := by decide +kernel
theorem dX2_runLine_1 : decode cX2_runLine 1 = .ok (.getfield 61, 3) := by decide +kernel
theorem dX2_runLine_4 : decode cX2_runLine 4 = .ok (.iload_n 1, 1) := by decide +kernel
theorem dX2_runLine_5 : decode cX2_runLine 5 = .ok (.iload_n 2, 1) := by decide +kernel
theorem dX2_runLine_6 : decode cX2_runLine 6 = .ok (.iload_n 3, 1) := by decide +kernel
theorem dX2_runLine_7 : decode cX2_runLine 7 = .ok (.lload 5, 2) := by decide +kernel
theorem dX2_runLine_9 : decode cX2_runLine 9 = .ok (.invokevirtual 204, 3) := by decide +kernel
theorem dX2_runLine_12 : decode cX2_runLine 12 = .ok (.istore 7, 2) := by decide +kernel
theorem dX2_runLine_14 : decode cX2_runLine 14 = .ok (.lload 5, 2) := by decide +kernel
theorem dX2_runLine_16 : decode cX2_runLine 16 = .ok (.lstore 8, 2) := by decide +kernel
theorem dX2_runLine_18 : decode cX2_runLine 18 = .ok (.iload_n 3, 1) := by decide +kernel
theorem dX2_runLine_19 : decode cX2_runLine 19 = .ok (.iconst 1, 1) := by decide +kernel
theorem dX2_runLine_20 : decode cX2_runLine 20 = .ok (.iadd, 1) := by decide +kernel
theorem dX2_runLine_21 : decode cX2_runLine 21 = .ok (.istore 10, 2) := by decide +kernel
theorem dX2_runLine_23 : decode cX2_runLine 23 = .ok (.iload 10, 2) := by decide +kernel
theorem dX2_runLine_25 : decode cX2_runLine 25 = .ok (.aload_n 0, 1) := by decide +kernel
theorem dX2_runLine_26 : decode cX2_runLine 26 = .ok (.getfield 45, 3) := by decide +kernel
theorem dX2_runLine_29 : decode cX2_runLine 29 = .ok (.getfield 142, 3) := by decide +kernel
theorem dX2_runLine_32 : decode cX2_runLine 32 = .ok (.if_icmp .ge 185, 3) := by decide +kernel
theorem dX2_runLine_35 : decode cX2_runLine 35 = .ok (.lload 8, 2) := by decide +kernel
theorem dX2_runLine_37 : decode cX2_runLine 37 = .ok (.lconst 0, 1) := by decide +kernel
theorem dX2_runLine_38 : decode cX2_runLine 38 = .ok (.lcmp, 1) := by decide +kernel
theorem dX2_runLine_39 : decode cX2_runLine 39 = .ok (.ifCond .le 178, 3) := by decide +kernel
theorem dX2_runLine_42 : decode cX2_runLine 42 = .ok (.aload_n 0, 1) := by decide +kernel
theorem dX2_runLine_43 : decode cX2_runLine 43 = .ok (.getfield 45, 3) := by decide +kernel
theorem dX2_runLine_46 : decode cX2_runLine 46 = .ok (.getfield 116, 3) := by decide +kernel
theorem dX2_runLine_49 : decode cX2_runLine 49 = .ok (.iload 10, 2) := by decide +kernel
theorem dX2_runLine_51 : decode cX2_runLine 51 = .ok (.iaload, 1) := by decide +kernel
theorem dX2_runLine_52 : decode cX2_runLine 52 = .ok (.invokestatic 208, 3) := by decide +kernel
theorem dX2_runLine_55 : decode cX2_runLine 55 = .ok (.istore 11, 2) := by decide +kernel
theorem dX2_runLine_57 : decode cX2_runLine 57 = .ok (.iload 11, 2) := by decide +kernel
theorem dX2_runLine_59 : decode cX2_runLine 59 = .ok (.ifCond .eq 13, 3) := by decide +kernel
theorem dX2_runLine_62 : decode cX2_runLine 62 = .ok (.iload 4, 2) := by decide +kernel
theorem dX2_runLine_64 : decode cX2_runLine 64 = .ok (.iconst 2, 1) := by decide +kernel
theorem dX2_runLine_65 : decode cX2_runLine 65 = .ok (.if_icmp .lt 7, 3) := by decide +kernel
theorem dX2_runLine_68 : decode cX2_runLine 68 = .ok (.iconst 1, 1) := by decide +kernel
theorem dX2_runLine_69 : decode cX2_runLine 69 = .ok (.goto 4, 3) := by decide +kernel
theorem dX2_runLine_72 : decode cX2_runLine 72 = .ok (.iconst 0, 1) := by decide +kernel
theorem dX2_runLine_73 : decode cX2_runLine 73 = .ok (.istore 12, 2) := by decide +kernel
theorem dX2_runLine_75 : decode cX2_runLine 75 = .ok (.iload 12, 2) := by decide +kernel
theorem dX2_runLine_77 : decode cX2_runLine 77 = .ok (.ifCond .ne 134, 3) := by decide +kernel
theorem dX2_runLine_80 : decode cX2_runLine 80 = .ok (.aload_n 0, 1) := by decide +kernel
theorem dX2_runLine_81 : decode cX2_runLine 81 = .ok (.getfield 45, 3) := by decide +kernel
theorem dX2_runLine_84 : decode cX2_runLine 84 = .ok (.iload 10, 2) := by decide +kernel
theorem dX2_runLine_86 : decode cX2_runLine 86 = .ok (.iload_n 2, 1) := by decide +kernel
theorem dX2_runLine_87 : decode cX2_runLine 87 = .ok (.iload_n 1, 1) := by decide +kernel
theorem dX2_runLine_88 : decode cX2_runLine 88 = .ok (.aload_n 0, 1) := by decide +kernel
theorem dX2_runLine_89 : decode cX2_runLine 89 = .ok (.invokevirtual 185, 3) := by decide +kernel
theorem dX2_runLine_92 : decode cX2_runLine 92 = .ok (.invokevirtual 212, 3) := by decide +kernel
theorem dX2_runLine_95 : decode cX2_runLine 95 = .ok (.ifCond .ne 6, 3) := by decide +kernel
theorem dX2_runLine_98 : decode cX2_runLine 98 = .ok (.goto 113, 3) := by decide +kernel
theorem dX2_runLine_101 : decode cX2_runLine 101 = .ok (.aload_n 0, 1) := by decide +kernel
theorem dX2_runLine_102 : decode cX2_runLine 102 = .ok (.iload 10, 2) := by decide +kernel
theorem dX2_runLine_104 : decode cX2_runLine 104 = .ok (.lload 8, 2) := by decide +kernel
theorem dX2_runLine_106 : decode cX2_runLine 106 = .ok (.invokevirtual 216, 3) := by decide +kernel
theorem dX2_runLine_109 : decode cX2_runLine 109 = .ok (.lstore 13, 2) := by decide +kernel
theorem dX2_runLine_111 : decode cX2_runLine 111 = .ok (.aload_n 0, 1) := by decide +kernel
theorem dX2_runLine_112 : decode cX2_runLine 112 = .ok (.getfield 28, 3) := by decide +kernel
theorem dX2_runLine_115 : decode cX2_runLine 115 = .ok (.iload 10, 2) := by decide +kernel
theorem dX2_runLine_117 : decode cX2_runLine 117 = .ok (.dup2, 1) := by decide +kernel
theorem dX2_runLine_118 : decode cX2_runLine 118 = .ok (.laload, 1) := by decide +kernel
theorem dX2_runLine_119 : decode cX2_runLine 119 = .ok (.lload 8, 2) := by decide +kernel
theorem dX2_runLine_121 : decode cX2_runLine 121 = .ok (.ladd, 1) := by decide +kernel
theorem dX2_runLine_122 : decode cX2_runLine 122 = .ok (.lastore, 1) := by decide +kernel
theorem dX2_runLine_123 : decode cX2_runLine 123 = .ok (.aload_n 0, 1) := by decide +kernel
theorem dX2_runLine_124 : decode cX2_runLine 124 = .ok (.getfield 25, 3) := by decide +kernel
theorem dX2_runLine_127 : decode cX2_runLine 127 = .ok (.iload 10, 2) := by decide +kernel
theorem dX2_runLine_129 : decode cX2_runLine 129 = .ok (.dup2, 1) := by decide +kernel
theorem dX2_runLine_130 : decode cX2_runLine 130 = .ok (.laload, 1) := by decide +kernel
theorem dX2_runLine_131 : decode cX2_runLine 131 = .ok (.lload 13, 2) := by decide +kernel
theorem dX2_runLine_133 : decode cX2_runLine 133 = .ok (.ladd, 1) := by decide +kernel
theorem dX2_runLine_134 : decode cX2_runLine 134 = .ok (.lastore, 1) := by decide +kernel
theorem dX2_runLine_135 : decode cX2_runLine 135 = .ok (.lload 8, 2) := by decide +kernel
theorem dX2_runLine_137 : decode cX2_runLine 137 = .ok (.lload 13, 2) := by decide +kernel
theorem dX2_runLine_139 : decode cX2_runLine 139 = .ok (.lsub, 1) := by decide +kernel
theorem dX2_runLine_140 : decode cX2_runLine 140 = .ok (.lstore 8, 2) := by decide +kernel
theorem dX2_runLine_142 : decode cX2_runLine 142 = .ok (.aload_n 0, 1) := by decide +kernel
theorem dX2_runLine_143 : decode cX2_runLine 143 = .ok (.getfield 45, 3) := by decide +kernel
theorem dX2_runLine_146 : decode cX2_runLine 146 = .ok (.getfield 116, 3) := by decide +kernel
theorem dX2_runLine_149 : decode cX2_runLine 149 = .ok (.iload 10, 2) := by decide +kernel
theorem dX2_runLine_151 : decode cX2_runLine 151 = .ok (.iaload, 1) := by decide +kernel
theorem dX2_runLine_152 : decode cX2_runLine 152 = .ok (.iconst 4, 1) := by decide +kernel
theorem dX2_runLine_153 : decode cX2_runLine 153 = .ok (.if_icmp .ne 23, 3) := by decide +kernel
theorem dX2_runLine_156 : decode cX2_runLine 156 = .ok (.aload_n 0, 1) := by decide +kernel
theorem dX2_runLine_157 : decode cX2_runLine 157 = .ok (.getfield 31, 3) := by decide +kernel
theorem dX2_runLine_160 : decode cX2_runLine 160 = .ok (.iload 10, 2) := by decide +kernel
theorem dX2_runLine_162 : decode cX2_runLine 162 = .ok (.bipush 40, 2) := by decide +kernel
theorem dX2_runLine_164 : decode cX2_runLine 164 = .ok (.imul, 1) := by decide +kernel
theorem dX2_runLine_165 : decode cX2_runLine 165 = .ok (.aload_n 0, 1) := by decide +kernel
theorem dX2_runLine_166 : decode cX2_runLine 166 = .ok (.getfield 78, 3) := by decide +kernel
theorem dX2_runLine_169 : decode cX2_runLine 169 = .ok (.iadd, 1) := by decide +kernel
theorem dX2_runLine_170 : decode cX2_runLine 170 = .ok (.dup2, 1) := by decide +kernel
theorem dX2_runLine_171 : decode cX2_runLine 171 = .ok (.laload, 1) := by decide +kernel
theorem dX2_runLine_172 : decode cX2_runLine 172 = .ok (.lload 13, 2) := by decide +kernel
theorem dX2_runLine_174 : decode cX2_runLine 174 = .ok (.ladd, 1) := by decide +kernel
theorem dX2_runLine_175 : decode cX2_runLine 175 = .ok (.lastore, 1) := by decide +kernel
theorem dX2_runLine_176 : decode cX2_runLine 176 = .ok (.iload 11, 2) := by decide +kernel
theorem dX2_runLine_178 : decode cX2_runLine 178 = .ok (.ifCond .eq 33, 3) := by decide +kernel
theorem dX2_runLine_181 : decode cX2_runLine 181 = .ok (.lload 13, 2) := by decide +kernel
theorem dX2_runLine_183 : decode cX2_runLine 183 = .ok (.lconst 0, 1) := by decide +kernel
theorem dX2_runLine_184 : decode cX2_runLine 184 = .ok (.lcmp, 1) := by decide +kernel
theorem dX2_runLine_185 : decode cX2_runLine 185 = .ok (.ifCond .le 26, 3) := by decide +kernel
theorem dX2_runLine_188 : decode cX2_runLine 188 = .ok (.aload_n 0, 1) := by decide +kernel
theorem dX2_runLine_189 : decode cX2_runLine 189 = .ok (.iload_n 1, 1) := by decide +kernel
theorem dX2_runLine_190 : decode cX2_runLine 190 = .ok (.aload_n 0, 1) := by decide +kernel
theorem dX2_runLine_191 : decode cX2_runLine 191 = .ok (.getfield 45, 3) := by decide +kernel
theorem dX2_runLine_194 : decode cX2_runLine 194 = .ok (.getfield 220, 3) := by decide +kernel
theorem dX2_runLine_197 : decode cX2_runLine 197 = .ok (.iload 10, 2) := by decide +kernel
theorem dX2_runLine_199 : decode cX2_runLine 199 = .ok (.iaload, 1) := by decide +kernel
theorem dX2_runLine_200 : decode cX2_runLine 200 = .ok (.iload 10, 2) := by decide +kernel
theorem dX2_runLine_202 : decode cX2_runLine 202 = .ok (.iload 4, 2) := by decide +kernel
theorem dX2_runLine_204 : decode cX2_runLine 204 = .ok (.iconst 1, 1) := by decide +kernel
theorem dX2_runLine_205 : decode cX2_runLine 205 = .ok (.iadd, 1) := by decide +kernel
theorem dX2_runLine_206 : decode cX2_runLine 206 = .ok (.lload 13, 2) := by decide +kernel
theorem dX2_runLine_208 : decode cX2_runLine 208 = .ok (.invokevirtual 200, 3) := by decide +kernel
theorem dX2_runLine_211 : decode cX2_runLine 211 = .ok (.iinc 10 1, 3) := by decide +kernel
theorem dX2_runLine_214 : decode cX2_runLine 214 = .ok (.goto (-191), 3) := by decide +kernel
theorem dX2_runLine_217 : decode cX2_runLine 217 = .ok (.aload_n 0, 1) := by decide +kernel
theorem dX2_runLine_218 : decode cX2_runLine 218 = .ok (.getfield 9, 3) := by decide +kernel
theorem dX2_runLine_221 : decode cX2_runLine 221 = .ok (.iload_n 2, 1) := by decide +kernel
theorem dX2_runLine_222 : decode cX2_runLine 222 = .ok (.dup2, 1) := by decide +kernel
theorem dX2_runLine_223 : decode cX2_runLine 223 = .ok (.laload, 1) := by decide +kernel
theorem dX2_runLine_224 : decode cX2_runLine 224 = .ok (.lload 8, 2) := by decide +kernel
theorem dX2_runLine_226 : decode cX2_runLine 226 = .ok (.ladd, 1) := by decide +kernel
theorem dX2_runLine_227 : decode cX2_runLine 227 = .ok (.lastore, 1) := by decide +kernel
theorem dX2_runLine_228 : decode cX2_runLine 228 = .ok (.aload_n 0, 1) := by decide +kernel
theorem dX2_runLine_229 : decode cX2_runLine 229 = .ok (.getfield 61, 3) := by decide +kernel
theorem dX2_runLine_232 : decode cX2_runLine 232 = .ok (.iload 7, 2) := by decide +kernel
theorem dX2_runLine_234 : decode cX2_runLine 234 = .ok (.lload 8, 2) := by decide +kernel
theorem dX2_runLine_236 : decode cX2_runLine 236 = .ok (.invokevirtual 223, 3) := by decide +kernel
theorem dX2_runLine_239 : decode cX2_runLine 239 = .ok (.return_, 1) := by decide +kernel
theorem dX2_takenBy_0 : decode cX2_takenBy 0 = .ok (.aload_n 0, 1) := by decide +kernel
theorem dX2_takenBy_1 : decode cX2_takenBy 1 = .ok (.getfield 45, 3) := by decide +kernel
theorem dX2_takenBy_4 : decode cX2_takenBy 4 = .ok (.getfield 121, 3) := by decide +kernel
theorem dX2_takenBy_7 : decode cX2_takenBy 7 = .ok (.iload_n 1, 1) := by decide +kernel
theorem dX2_takenBy_8 : decode cX2_takenBy 8 = .ok (.iaload, 1) := by decide +kernel
theorem dX2_takenBy_9 : decode cX2_takenBy 9 = .ok (.i2l, 1) := by decide +kernel
theorem dX2_takenBy_10 : decode cX2_takenBy 10 = .ok (.lstore 4, 2) := by decide +kernel
theorem dX2_takenBy_12 : decode cX2_takenBy 12 = .ok (.aload_n 0, 1) := by decide +kernel
theorem dX2_takenBy_13 : decode cX2_takenBy 13 = .ok (.getfield 45, 3) := by decide +kernel
theorem dX2_takenBy_16 : decode cX2_takenBy 16 = .ok (.getfield 116, 3) := by decide +kernel
theorem dX2_takenBy_19 : decode cX2_takenBy 19 = .ok (.iload_n 1, 1) := by decide +kernel
theorem dX2_takenBy_20 : decode cX2_takenBy 20 = .ok (.iaload, 1) := by decide +kernel
theorem dX2_takenBy_21 : decode cX2_takenBy 21 = .ok (.tableswitch 123 0 4 #[35, 44, 123, 62, 35], 35) := by decide +kernel
theorem dX2_takenBy_56 : decode cX2_takenBy 56 = .ok (.lload_n 2, 1) := by decide +kernel
theorem dX2_takenBy_57 : decode cX2_takenBy 57 = .ok (.lload 4, 2) := by decide +kernel
theorem dX2_takenBy_59 : decode cX2_takenBy 59 = .ok (.lmul, 1) := by decide +kernel
theorem dX2_takenBy_60 : decode cX2_takenBy 60 = .ok (.ldc2_w 197, 3) := by decide +kernel
theorem dX2_takenBy_63 : decode cX2_takenBy 63 = .ok (.ldiv, 1) := by decide +kernel
theorem dX2_takenBy_64 : decode cX2_takenBy 64 = .ok (.lreturn, 1) := by decide +kernel
theorem dX2_takenBy_65 : decode cX2_takenBy 65 = .ok (.lload_n 2, 1) := by decide +kernel
theorem dX2_takenBy_66 : decode cX2_takenBy 66 = .ok (.lload 4, 2) := by decide +kernel
theorem dX2_takenBy_68 : decode cX2_takenBy 68 = .ok (.ldc2_w 110, 3) := by decide +kernel
theorem dX2_takenBy_71 : decode cX2_takenBy 71 = .ok (.lmul, 1) := by decide +kernel
theorem dX2_takenBy_72 : decode cX2_takenBy 72 = .ok (.aload_n 0, 1) := by decide +kernel
theorem dX2_takenBy_73 : decode cX2_takenBy 73 = .ok (.getfield 25, 3) := by decide +kernel
theorem dX2_takenBy_76 : decode cX2_takenBy 76 = .ok (.iload_n 1, 1) := by decide +kernel
theorem dX2_takenBy_77 : decode cX2_takenBy 77 = .ok (.laload, 1) := by decide +kernel
theorem dX2_takenBy_78 : decode cX2_takenBy 78 = .ok (.lsub, 1) := by decide +kernel
theorem dX2_takenBy_79 : decode cX2_takenBy 79 = .ok (.invokestatic 147, 3) := by decide +kernel
theorem dX2_takenBy_82 : decode cX2_takenBy 82 = .ok (.lreturn, 1) := by decide +kernel
theorem dX2_takenBy_83 : decode cX2_takenBy 83 = .ok (.lload_n 2, 1) := by decide +kernel
theorem dX2_takenBy_84 : decode cX2_takenBy 84 = .ok (.lconst 0, 1) := by decide +kernel
theorem dX2_takenBy_85 : decode cX2_takenBy 85 = .ok (.aload_n 0, 1) := by decide +kernel
theorem dX2_takenBy_86 : decode cX2_takenBy 86 = .ok (.getfield 45, 3) := by decide +kernel
theorem dX2_takenBy_89 : decode cX2_takenBy 89 = .ok (.getfield 226, 3) := by decide +kernel
theorem dX2_takenBy_92 : decode cX2_takenBy 92 = .ok (.iload_n 1, 1) := by decide +kernel
theorem dX2_takenBy_93 : decode cX2_takenBy 93 = .ok (.iaload, 1) := by decide +kernel
theorem dX2_takenBy_94 : decode cX2_takenBy 94 = .ok (.i2l, 1) := by decide +kernel
theorem dX2_takenBy_95 : decode cX2_takenBy 95 = .ok (.ldc2_w 110, 3) := by decide +kernel
theorem dX2_takenBy_98 : decode cX2_takenBy 98 = .ok (.lmul, 1) := by decide +kernel
theorem dX2_takenBy_99 : decode cX2_takenBy 99 = .ok (.aload_n 0, 1) := by decide +kernel
theorem dX2_takenBy_100 : decode cX2_takenBy 100 = .ok (.getfield 28, 3) := by decide +kernel
theorem dX2_takenBy_103 : decode cX2_takenBy 103 = .ok (.iload_n 1, 1) := by decide +kernel
theorem dX2_takenBy_104 : decode cX2_takenBy 104 = .ok (.laload, 1) := by decide +kernel
theorem dX2_takenBy_105 : decode cX2_takenBy 105 = .ok (.lsub, 1) := by decide +kernel
theorem dX2_takenBy_106 : decode cX2_takenBy 106 = .ok (.invokestatic 229, 3) := by decide +kernel
theorem dX2_takenBy_109 : decode cX2_takenBy 109 = .ok (.invokestatic 147, 3) := by decide +kernel
theorem dX2_takenBy_112 : decode cX2_takenBy 112 = .ok (.lstore 6, 2) := by decide +kernel
theorem dX2_takenBy_114 : decode cX2_takenBy 114 = .ok (.lload 6, 2) := by decide +kernel
theorem dX2_takenBy_116 : decode cX2_takenBy 116 = .ok (.lload 4, 2) := by decide +kernel
theorem dX2_takenBy_118 : decode cX2_takenBy 118 = .ok (.lmul, 1) := by decide +kernel
theorem dX2_takenBy_119 : decode cX2_takenBy 119 = .ok (.ldc2_w 197, 3) := by decide +kernel
theorem dX2_takenBy_122 : decode cX2_takenBy 122 = .ok (.ldiv, 1) := by decide +kernel
theorem dX2_takenBy_123 : decode cX2_takenBy 123 = .ok (.lload_n 2, 1) := by decide +kernel
theorem dX2_takenBy_124 : decode cX2_takenBy 124 = .ok (.lload 6, 2) := by decide +kernel
theorem dX2_takenBy_126 : decode cX2_takenBy 126 = .ok (.lsub, 1) := by decide +kernel
theorem dX2_takenBy_127 : decode cX2_takenBy 127 = .ok (.aload_n 0, 1) := by decide +kernel
theorem dX2_takenBy_128 : decode cX2_takenBy 128 = .ok (.getfield 45, 3) := by decide +kernel
theorem dX2_takenBy_131 : decode cX2_takenBy 131 = .ok (.getfield 232, 3) := by decide +kernel
theorem dX2_takenBy_134 : decode cX2_takenBy 134 = .ok (.iload_n 1, 1) := by decide +kernel
theorem dX2_takenBy_135 : decode cX2_takenBy 135 = .ok (.iaload, 1) := by decide +kernel
theorem dX2_takenBy_136 : decode cX2_takenBy 136 = .ok (.i2l, 1) := by decide +kernel
theorem dX2_takenBy_137 : decode cX2_takenBy 137 = .ok (.lmul, 1) := by decide +kernel
theorem dX2_takenBy_138 : decode cX2_takenBy 138 = .ok (.ldc2_w 197, 3) := by decide +kernel
theorem dX2_takenBy_141 : decode cX2_takenBy 141 = .ok (.ldiv, 1) := by decide +kernel
theorem dX2_takenBy_142 : decode cX2_takenBy 142 = .ok (.ladd, 1) := by decide +kernel
theorem dX2_takenBy_143 : decode cX2_takenBy 143 = .ok (.lreturn, 1) := by decide +kernel
theorem dX2_takenBy_144 : decode cX2_takenBy 144 = .ok (.lconst 0, 1) := by decide +kernel
theorem dX2_takenBy_145 : decode cX2_takenBy 145 = .ok (.lreturn, 1) := by decide +kernel
theorem dX2_emptyOldBags_0 : decode cX2_emptyOldBags 0 = .ok (.iconst 0, 1) := by decide +kernel
theorem dX2_emptyOldBags_1 : decode cX2_emptyOldBags 1 = .ok (.istore_n 1, 1) := by decide +kernel
theorem dX2_emptyOldBags_2 : decode cX2_emptyOldBags 2 = .ok (.iload_n 1, 1) := by decide +kernel
theorem dX2_emptyOldBags_3 : decode cX2_emptyOldBags 3 = .ok (.aload_n 0, 1) := by decide +kernel
theorem dX2_emptyOldBags_4 : decode cX2_emptyOldBags 4 = .ok (.getfield 45, 3) := by decide +kernel
theorem dX2_emptyOldBags_7 : decode cX2_emptyOldBags 7 = .ok (.getfield 142, 3) := by decide +kernel
theorem dX2_emptyOldBags_10 : decode cX2_emptyOldBags 10 = .ok (.if_icmp .ge 88, 3) := by decide +kernel
theorem dX2_emptyOldBags_13 : decode cX2_emptyOldBags 13 = .ok (.aload_n 0, 1) := by decide +kernel
theorem dX2_emptyOldBags_14 : decode cX2_emptyOldBags 14 = .ok (.getfield 45, 3) := by decide +kernel
theorem dX2_emptyOldBags_17 : decode cX2_emptyOldBags 17 = .ok (.getfield 116, 3) := by decide +kernel
theorem dX2_emptyOldBags_20 : decode cX2_emptyOldBags 20 = .ok (.iload_n 1, 1) := by decide +kernel
theorem dX2_emptyOldBags_21 : decode cX2_emptyOldBags 21 = .ok (.iaload, 1) := by decide +kernel
theorem dX2_emptyOldBags_22 : decode cX2_emptyOldBags 22 = .ok (.iconst 4, 1) := by decide +kernel
theorem dX2_emptyOldBags_23 : decode cX2_emptyOldBags 23 = .ok (.if_icmp .ne 69, 3) := by decide +kernel
theorem dX2_emptyOldBags_26 : decode cX2_emptyOldBags 26 = .ok (.aload_n 0, 1) := by decide +kernel
theorem dX2_emptyOldBags_27 : decode cX2_emptyOldBags 27 = .ok (.getfield 78, 3) := by decide +kernel
theorem dX2_emptyOldBags_30 : decode cX2_emptyOldBags 30 = .ok (.aload_n 0, 1) := by decide +kernel
theorem dX2_emptyOldBags_31 : decode cX2_emptyOldBags 31 = .ok (.getfield 45, 3) := by decide +kernel
theorem dX2_emptyOldBags_34 : decode cX2_emptyOldBags 34 = .ok (.getfield 226, 3) := by decide +kernel
theorem dX2_emptyOldBags_37 : decode cX2_emptyOldBags 37 = .ok (.iload_n 1, 1) := by decide +kernel
theorem dX2_emptyOldBags_38 : decode cX2_emptyOldBags 38 = .ok (.iaload, 1) := by decide +kernel
theorem dX2_emptyOldBags_39 : decode cX2_emptyOldBags 39 = .ok (.if_icmp .lt 53, 3) := by decide +kernel
theorem dX2_emptyOldBags_42 : decode cX2_emptyOldBags 42 = .ok (.iload_n 1, 1) := by decide +kernel
theorem dX2_emptyOldBags_43 : decode cX2_emptyOldBags 43 = .ok (.bipush 40, 2) := by decide +kernel
theorem dX2_emptyOldBags_45 : decode cX2_emptyOldBags 45 = .ok (.imul, 1) := by decide +kernel
theorem dX2_emptyOldBags_46 : decode cX2_emptyOldBags 46 = .ok (.aload_n 0, 1) := by decide +kernel
theorem dX2_emptyOldBags_47 : decode cX2_emptyOldBags 47 = .ok (.getfield 78, 3) := by decide +kernel
theorem dX2_emptyOldBags_50 : decode cX2_emptyOldBags 50 = .ok (.iadd, 1) := by decide +kernel
theorem dX2_emptyOldBags_51 : decode cX2_emptyOldBags 51 = .ok (.aload_n 0, 1) := by decide +kernel
theorem dX2_emptyOldBags_52 : decode cX2_emptyOldBags 52 = .ok (.getfield 45, 3) := by decide +kernel
theorem dX2_emptyOldBags_55 : decode cX2_emptyOldBags 55 = .ok (.getfield 226, 3) := by decide +kernel
theorem dX2_emptyOldBags_58 : decode cX2_emptyOldBags 58 = .ok (.iload_n 1, 1) := by decide +kernel
theorem dX2_emptyOldBags_59 : decode cX2_emptyOldBags 59 = .ok (.iaload, 1) := by decide +kernel
theorem dX2_emptyOldBags_60 : decode cX2_emptyOldBags 60 = .ok (.isub, 1) := by decide +kernel
theorem dX2_emptyOldBags_61 : decode cX2_emptyOldBags 61 = .ok (.istore_n 2, 1) := by decide +kernel
theorem dX2_emptyOldBags_62 : decode cX2_emptyOldBags 62 = .ok (.aload_n 0, 1) := by decide +kernel
theorem dX2_emptyOldBags_63 : decode cX2_emptyOldBags 63 = .ok (.getfield 9, 3) := by decide +kernel
theorem dX2_emptyOldBags_66 : decode cX2_emptyOldBags 66 = .ok (.aload_n 0, 1) := by decide +kernel
theorem dX2_emptyOldBags_67 : decode cX2_emptyOldBags 67 = .ok (.getfield 45, 3) := by decide +kernel
theorem dX2_emptyOldBags_70 : decode cX2_emptyOldBags 70 = .ok (.getfield 235, 3) := by decide +kernel
theorem dX2_emptyOldBags_73 : decode cX2_emptyOldBags 73 = .ok (.iload_n 1, 1) := by decide +kernel
theorem dX2_emptyOldBags_74 : decode cX2_emptyOldBags 74 = .ok (.iaload, 1) := by decide +kernel
theorem dX2_emptyOldBags_75 : decode cX2_emptyOldBags 75 = .ok (.dup2, 1) := by decide +kernel
theorem dX2_emptyOldBags_76 : decode cX2_emptyOldBags 76 = .ok (.laload, 1) := by decide +kernel
theorem dX2_emptyOldBags_77 : decode cX2_emptyOldBags 77 = .ok (.aload_n 0, 1) := by decide +kernel
theorem dX2_emptyOldBags_78 : decode cX2_emptyOldBags 78 = .ok (.getfield 31, 3) := by decide +kernel
theorem dX2_emptyOldBags_81 : decode cX2_emptyOldBags 81 = .ok (.iload_n 2, 1) := by decide +kernel
theorem dX2_emptyOldBags_82 : decode cX2_emptyOldBags 82 = .ok (.laload, 1) := by decide +kernel
theorem dX2_emptyOldBags_83 : decode cX2_emptyOldBags 83 = .ok (.ladd, 1) := by decide +kernel
theorem dX2_emptyOldBags_84 : decode cX2_emptyOldBags 84 = .ok (.lastore, 1) := by decide +kernel
theorem dX2_emptyOldBags_85 : decode cX2_emptyOldBags 85 = .ok (.aload_n 0, 1) := by decide +kernel
theorem dX2_emptyOldBags_86 : decode cX2_emptyOldBags 86 = .ok (.getfield 31, 3) := by decide +kernel
theorem dX2_emptyOldBags_89 : decode cX2_emptyOldBags 89 = .ok (.iload_n 2, 1) := by decide +kernel
theorem dX2_emptyOldBags_90 : decode cX2_emptyOldBags 90 = .ok (.lconst 0, 1) := by decide +kernel
theorem dX2_emptyOldBags_91 : decode cX2_emptyOldBags 91 = .ok (.lastore, 1) := by decide +kernel
theorem dX2_emptyOldBags_92 : decode cX2_emptyOldBags 92 = .ok (.iinc 1 1, 3) := by decide +kernel
theorem dX2_emptyOldBags_95 : decode cX2_emptyOldBags 95 = .ok (.goto (-93), 3) := by decide +kernel
theorem dX2_emptyOldBags_98 : decode cX2_emptyOldBags 98 = .ok (.return_, 1) := by decide +kernel
theorem dX2_payHands_0 : decode cX2_payHands 0 = .ok (.iconst 0, 1) := by decide +kernel
theorem dX2_payHands_1 : decode cX2_payHands 1 = .ok (.istore_n 1, 1) := by decide +kernel
theorem dX2_payHands_2 : decode cX2_payHands 2 = .ok (.iload_n 1, 1) := by decide +kernel
theorem dX2_payHands_3 : decode cX2_payHands 3 = .ok (.bipush 12, 2) := by decide +kernel
theorem dX2_payHands_5 : decode cX2_payHands 5 = .ok (.if_icmp .ge 112, 3) := by decide +kernel
theorem dX2_payHands_8 : decode cX2_payHands 8 = .ok (.aload_n 0, 1) := by decide +kernel
theorem dX2_payHands_9 : decode cX2_payHands 9 = .ok (.getfield 15, 3) := by decide +kernel
theorem dX2_payHands_12 : decode cX2_payHands 12 = .ok (.iload_n 1, 1) := by decide +kernel
theorem dX2_payHands_13 : decode cX2_payHands 13 = .ok (.laload, 1) := by decide +kernel
theorem dX2_payHands_14 : decode cX2_payHands 14 = .ok (.lconst 0, 1) := by decide +kernel
theorem dX2_payHands_15 : decode cX2_payHands 15 = .ok (.lcmp, 1) := by decide +kernel
theorem dX2_payHands_16 : decode cX2_payHands 16 = .ok (.ifCond .le 50, 3) := by decide +kernel
theorem dX2_payHands_19 : decode cX2_payHands 19 = .ok (.aload_n 0, 1) := by decide +kernel
theorem dX2_payHands_20 : decode cX2_payHands 20 = .ok (.getfield 9, 3) := by decide +kernel
theorem dX2_payHands_23 : decode cX2_payHands 23 = .ok (.iload_n 1, 1) := by decide +kernel
theorem dX2_payHands_24 : decode cX2_payHands 24 = .ok (.laload, 1) := by decide +kernel
theorem dX2_payHands_25 : decode cX2_payHands 25 = .ok (.lconst 0, 1) := by decide +kernel
theorem dX2_payHands_26 : decode cX2_payHands 26 = .ok (.lcmp, 1) := by decide +kernel
theorem dX2_payHands_27 : decode cX2_payHands 27 = .ok (.ifCond .le 39, 3) := by decide +kernel
theorem dX2_payHands_30 : decode cX2_payHands 30 = .ok (.aload_n 0, 1) := by decide +kernel
theorem dX2_payHands_31 : decode cX2_payHands 31 = .ok (.getfield 15, 3) := by decide +kernel
theorem dX2_payHands_34 : decode cX2_payHands 34 = .ok (.iload_n 1, 1) := by decide +kernel
theorem dX2_payHands_35 : decode cX2_payHands 35 = .ok (.laload, 1) := by decide +kernel
theorem dX2_payHands_36 : decode cX2_payHands 36 = .ok (.aload_n 0, 1) := by decide +kernel
theorem dX2_payHands_37 : decode cX2_payHands 37 = .ok (.getfield 9, 3) := by decide +kernel
theorem dX2_payHands_40 : decode cX2_payHands 40 = .ok (.iload_n 1, 1) := by decide +kernel
theorem dX2_payHands_41 : decode cX2_payHands 41 = .ok (.laload, 1) := by decide +kernel
theorem dX2_payHands_42 : decode cX2_payHands 42 = .ok (.invokestatic 147, 3) := by decide +kernel
theorem dX2_payHands_45 : decode cX2_payHands 45 = .ok (.lstore_n 2, 1) := by decide +kernel
theorem dX2_payHands_46 : decode cX2_payHands 46 = .ok (.aload_n 0, 1) := by decide +kernel
theorem dX2_payHands_47 : decode cX2_payHands 47 = .ok (.getfield 9, 3) := by decide +kernel
theorem dX2_payHands_50 : decode cX2_payHands 50 = .ok (.iload_n 1, 1) := by decide +kernel
theorem dX2_payHands_51 : decode cX2_payHands 51 = .ok (.dup2, 1) := by decide +kernel
theorem dX2_payHands_52 : decode cX2_payHands 52 = .ok (.laload, 1) := by decide +kernel
theorem dX2_payHands_53 : decode cX2_payHands 53 = .ok (.lload_n 2, 1) := by decide +kernel
theorem dX2_payHands_54 : decode cX2_payHands 54 = .ok (.lsub, 1) := by decide +kernel
theorem dX2_payHands_55 : decode cX2_payHands 55 = .ok (.lastore, 1) := by decide +kernel
theorem dX2_payHands_56 : decode cX2_payHands 56 = .ok (.aload_n 0, 1) := by decide +kernel
theorem dX2_payHands_57 : decode cX2_payHands 57 = .ok (.getfield 15, 3) := by decide +kernel
theorem dX2_payHands_60 : decode cX2_payHands 60 = .ok (.iload_n 1, 1) := by decide +kernel
theorem dX2_payHands_61 : decode cX2_payHands 61 = .ok (.dup2, 1) := by decide +kernel
theorem dX2_payHands_62 : decode cX2_payHands 62 = .ok (.laload, 1) := by decide +kernel
theorem dX2_payHands_63 : decode cX2_payHands 63 = .ok (.lload_n 2, 1) := by decide +kernel
theorem dX2_payHands_64 : decode cX2_payHands 64 = .ok (.lsub, 1) := by decide +kernel
theorem dX2_payHands_65 : decode cX2_payHands 65 = .ok (.lastore, 1) := by decide +kernel
theorem dX2_payHands_66 : decode cX2_payHands 66 = .ok (.lconst 0, 1) := by decide +kernel
theorem dX2_payHands_67 : decode cX2_payHands 67 = .ok (.aload_n 0, 1) := by decide +kernel
theorem dX2_payHands_68 : decode cX2_payHands 68 = .ok (.getfield 9, 3) := by decide +kernel
theorem dX2_payHands_71 : decode cX2_payHands 71 = .ok (.iload_n 1, 1) := by decide +kernel
theorem dX2_payHands_72 : decode cX2_payHands 72 = .ok (.laload, 1) := by decide +kernel
theorem dX2_payHands_73 : decode cX2_payHands 73 = .ok (.ldc2_w 110, 3) := by decide +kernel
theorem dX2_payHands_76 : decode cX2_payHands 76 = .ok (.ldiv, 1) := by decide +kernel
theorem dX2_payHands_77 : decode cX2_payHands 77 = .ok (.invokestatic 229, 3) := by decide +kernel
theorem dX2_payHands_80 : decode cX2_payHands 80 = .ok (.lstore_n 2, 1) := by decide +kernel
theorem dX2_payHands_81 : decode cX2_payHands 81 = .ok (.aload_n 0, 1) := by decide +kernel
theorem dX2_payHands_82 : decode cX2_payHands 82 = .ok (.getfield 9, 3) := by decide +kernel
theorem dX2_payHands_85 : decode cX2_payHands 85 = .ok (.iload_n 1, 1) := by decide +kernel
theorem dX2_payHands_86 : decode cX2_payHands 86 = .ok (.dup2, 1) := by decide +kernel
theorem dX2_payHands_87 : decode cX2_payHands 87 = .ok (.laload, 1) := by decide +kernel
theorem dX2_payHands_88 : decode cX2_payHands 88 = .ok (.lload_n 2, 1) := by decide +kernel
theorem dX2_payHands_89 : decode cX2_payHands 89 = .ok (.ldc2_w 110, 3) := by decide +kernel
theorem dX2_payHands_92 : decode cX2_payHands 92 = .ok (.lmul, 1) := by decide +kernel
theorem dX2_payHands_93 : decode cX2_payHands 93 = .ok (.lsub, 1) := by decide +kernel
theorem dX2_payHands_94 : decode cX2_payHands 94 = .ok (.lastore, 1) := by decide +kernel
theorem dX2_payHands_95 : decode cX2_payHands 95 = .ok (.aload_n 0, 1) := by decide +kernel
theorem dX2_payHands_96 : decode cX2_payHands 96 = .ok (.getfield 21, 3) := by decide +kernel
theorem dX2_payHands_99 : decode cX2_payHands 99 = .ok (.iload_n 1, 1) := by decide +kernel
theorem dX2_payHands_100 : decode cX2_payHands 100 = .ok (.bipush 40, 2) := by decide +kernel
theorem dX2_payHands_102 : decode cX2_payHands 102 = .ok (.imul, 1) := by decide +kernel
theorem dX2_payHands_103 : decode cX2_payHands 103 = .ok (.aload_n 0, 1) := by decide +kernel
theorem dX2_payHands_104 : decode cX2_payHands 104 = .ok (.getfield 78, 3) := by decide +kernel
theorem dX2_payHands_107 : decode cX2_payHands 107 = .ok (.iadd, 1) := by decide +kernel
theorem dX2_payHands_108 : decode cX2_payHands 108 = .ok (.lload_n 2, 1) := by decide +kernel
theorem dX2_payHands_109 : decode cX2_payHands 109 = .ok (.l2i, 1) := by decide +kernel
theorem dX2_payHands_110 : decode cX2_payHands 110 = .ok (.iastore, 1) := by decide +kernel
theorem dX2_payHands_111 : decode cX2_payHands 111 = .ok (.iinc 1 1, 3) := by decide +kernel
theorem dX2_payHands_114 : decode cX2_payHands 114 = .ok (.goto (-112), 3) := by decide +kernel
theorem dX2_payHands_117 : decode cX2_payHands 117 = .ok (.return_, 1) := by decide +kernel
set_option maxRecDepth 20000 in
theorem ggX2_fillFloors_X2_lastDay : GoodIn wsX2_fillFloors wsX2_lastDay := goodIn_r _ [18, 6, 23, 24, 25, 26, 27, 28, 29, 30, 31, 32, 33, 34, 35, 36, 37, 38] (by decide +kernel) (by decide +kernel)
set_option maxRecDepth 20000 in
theorem gX2_fillFloors_X2_lastDay : GoodIn wsX2_fillFloors (wsV RX2 185 RX2 yX2_lastDay wsX2_lastDay) := goodIn_app (goodIn_of _ (by decide +kernel)) ggX2_fillFloors_X2_lastDay
set_option maxRecDepth 20000 in
theorem ggX2_fillFloors_X2_duesOf : GoodIn wsX2_fillFloors wsX2_duesOf := goodIn_r _ [22, 12, 23, 24, 25, 26, 27, 28, 29, 30, 31, 32, 33, 34, 35, 36, 37, 38] (by decide +kernel) (by decide +kernel)
set_option maxRecDepth 20000 in
theorem gX2_fillFloors_X2_duesOf : GoodIn wsX2_fillFloors (wsV RX2 112 RX2 yX2_duesOf wsX2_duesOf) := goodIn_app (goodIn_of _ (by decide +kernel)) ggX2_fillFloors_X2_duesOf
theorem dX2_fillFloors_0 : decode cX2_fillFloors 0 = .ok (.iconst 0, 1) := by decide +kernel
theorem dX2_fillFloors_1 : decode cX2_fillFloors 1 = .ok (.istore_n 1, 1) := by decide +kernel
theorem dX2_fillFloors_2 : decode cX2_fillFloors 2 = .ok (.iload_n 1, 1) := by decide +kernel
theorem dX2_fillFloors_3 : decode cX2_fillFloors 3 = .ok (.aload_n 0, 1) := by decide +kernel
theorem dX2_fillFloors_4 : decode cX2_fillFloors 4 = .ok (.getfield 45, 3) := by decide +kernel
theorem dX2_fillFloors_7 : decode cX2_fillFloors 7 = .ok (.getfield 142, 3) := by decide +kernel
theorem dX2_fillFloors_10 : decode cX2_fillFloors 10 = .ok (.if_icmp .ge 117, 3) := by decide +kernel
theorem dX2_fillFloors_13 : decode cX2_fillFloors 13 = .ok (.aload_n 0, 1) := by decide +kernel
theorem dX2_fillFloors_14 : decode cX2_fillFloors 14 = .ok (.getfield 45, 3) := by decide +kernel
theorem dX2_fillFloors_17 : decode cX2_fillFloors 17 = .ok (.getfield 116, 3) := by decide +kernel
theorem dX2_fillFloors_20 : decode cX2_fillFloors 20 = .ok (.iload_n 1, 1) := by decide +kernel
theorem dX2_fillFloors_21 : decode cX2_fillFloors 21 = .ok (.iaload, 1) := by decide +kernel
theorem dX2_fillFloors_22 : decode cX2_fillFloors 22 = .ok (.iconst 2, 1) := by decide +kernel
theorem dX2_fillFloors_23 : decode cX2_fillFloors 23 = .ok (.if_icmp .ne 98, 3) := by decide +kernel
theorem dX2_fillFloors_26 : decode cX2_fillFloors 26 = .ok (.aload_n 0, 1) := by decide +kernel
theorem dX2_fillFloors_27 : decode cX2_fillFloors 27 = .ok (.getfield 45, 3) := by decide +kernel
theorem dX2_fillFloors_30 : decode cX2_fillFloors 30 = .ok (.getfield 236, 3) := by decide +kernel
theorem dX2_fillFloors_33 : decode cX2_fillFloors 33 = .ok (.iload_n 1, 1) := by decide +kernel
theorem dX2_fillFloors_34 : decode cX2_fillFloors 34 = .ok (.iaload, 1) := by decide +kernel
theorem dX2_fillFloors_35 : decode cX2_fillFloors 35 = .ok (.aload_n 0, 1) := by decide +kernel
theorem dX2_fillFloors_36 : decode cX2_fillFloors 36 = .ok (.invokevirtual 185, 3) := by decide +kernel
theorem dX2_fillFloors_39 : decode cX2_fillFloors 39 = .ok (.if_icmp .gt 82, 3) := by decide +kernel
theorem dX2_fillFloors_42 : decode cX2_fillFloors 42 = .ok (.aload_n 0, 1) := by decide +kernel
theorem dX2_fillFloors_43 : decode cX2_fillFloors 43 = .ok (.getfield 45, 3) := by decide +kernel
theorem dX2_fillFloors_46 : decode cX2_fillFloors 46 = .ok (.getfield 235, 3) := by decide +kernel
theorem dX2_fillFloors_49 : decode cX2_fillFloors 49 = .ok (.iload_n 1, 1) := by decide +kernel
theorem dX2_fillFloors_50 : decode cX2_fillFloors 50 = .ok (.iaload, 1) := by decide +kernel
theorem dX2_fillFloors_51 : decode cX2_fillFloors 51 = .ok (.istore_n 2, 1) := by decide +kernel
theorem dX2_fillFloors_52 : decode cX2_fillFloors 52 = .ok (.aload_n 0, 1) := by decide +kernel
theorem dX2_fillFloors_53 : decode cX2_fillFloors 53 = .ok (.iload_n 2, 1) := by decide +kernel
theorem dX2_fillFloors_54 : decode cX2_fillFloors 54 = .ok (.aload_n 0, 1) := by decide +kernel
theorem dX2_fillFloors_55 : decode cX2_fillFloors 55 = .ok (.getfield 78, 3) := by decide +kernel
theorem dX2_fillFloors_58 : decode cX2_fillFloors 58 = .ok (.iconst 4, 1) := by decide +kernel
theorem dX2_fillFloors_59 : decode cX2_fillFloors 59 = .ok (.isub, 1) := by decide +kernel
theorem dX2_fillFloors_60 : decode cX2_fillFloors 60 = .ok (.iconst 1, 1) := by decide +kernel
theorem dX2_fillFloors_61 : decode cX2_fillFloors 61 = .ok (.iadd, 1) := by decide +kernel
theorem dX2_fillFloors_62 : decode cX2_fillFloors 62 = .ok (.aload_n 0, 1) := by decide +kernel
theorem dX2_fillFloors_63 : decode cX2_fillFloors 63 = .ok (.getfield 78, 3) := by decide +kernel
theorem dX2_fillFloors_66 : decode cX2_fillFloors 66 = .ok (.iconst 1, 1) := by decide +kernel
theorem dX2_fillFloors_67 : decode cX2_fillFloors 67 = .ok (.iadd, 1) := by decide +kernel
theorem dX2_fillFloors_68 : decode cX2_fillFloors 68 = .ok (.invokevirtual 112, 3) := by decide +kernel
theorem dX2_fillFloors_71 : decode cX2_fillFloors 71 = .ok (.lstore_n 3, 1) := by decide +kernel
theorem dX2_fillFloors_72 : decode cX2_fillFloors 72 = .ok (.lconst 0, 1) := by decide +kernel
theorem dX2_fillFloors_73 : decode cX2_fillFloors 73 = .ok (.aload_n 0, 1) := by decide +kernel
theorem dX2_fillFloors_74 : decode cX2_fillFloors 74 = .ok (.getfield 45, 3) := by decide +kernel
theorem dX2_fillFloors_77 : decode cX2_fillFloors 77 = .ok (.getfield 121, 3) := by decide +kernel
theorem dX2_fillFloors_80 : decode cX2_fillFloors 80 = .ok (.iload_n 1, 1) := by decide +kernel
theorem dX2_fillFloors_81 : decode cX2_fillFloors 81 = .ok (.iaload, 1) := by decide +kernel
theorem dX2_fillFloors_82 : decode cX2_fillFloors 82 = .ok (.i2l, 1) := by decide +kernel
theorem dX2_fillFloors_83 : decode cX2_fillFloors 83 = .ok (.lload_n 3, 1) := by decide +kernel
theorem dX2_fillFloors_84 : decode cX2_fillFloors 84 = .ok (.lsub, 1) := by decide +kernel
theorem dX2_fillFloors_85 : decode cX2_fillFloors 85 = .ok (.invokestatic 229, 3) := by decide +kernel
theorem dX2_fillFloors_88 : decode cX2_fillFloors 88 = .ok (.lstore 5, 2) := by decide +kernel
theorem dX2_fillFloors_90 : decode cX2_fillFloors 90 = .ok (.aload_n 0, 1) := by decide +kernel
theorem dX2_fillFloors_91 : decode cX2_fillFloors 91 = .ok (.getfield 21, 3) := by decide +kernel
theorem dX2_fillFloors_94 : decode cX2_fillFloors 94 = .ok (.iload_n 2, 1) := by decide +kernel
theorem dX2_fillFloors_95 : decode cX2_fillFloors 95 = .ok (.bipush 40, 2) := by decide +kernel
theorem dX2_fillFloors_97 : decode cX2_fillFloors 97 = .ok (.imul, 1) := by decide +kernel
theorem dX2_fillFloors_98 : decode cX2_fillFloors 98 = .ok (.aload_n 0, 1) := by decide +kernel
theorem dX2_fillFloors_99 : decode cX2_fillFloors 99 = .ok (.getfield 78, 3) := by decide +kernel
theorem dX2_fillFloors_102 : decode cX2_fillFloors 102 = .ok (.iadd, 1) := by decide +kernel
theorem dX2_fillFloors_103 : decode cX2_fillFloors 103 = .ok (.dup2, 1) := by decide +kernel
theorem dX2_fillFloors_104 : decode cX2_fillFloors 104 = .ok (.iaload, 1) := by decide +kernel
theorem dX2_fillFloors_105 : decode cX2_fillFloors 105 = .ok (.lload 5, 2) := by decide +kernel
theorem dX2_fillFloors_107 : decode cX2_fillFloors 107 = .ok (.l2i, 1) := by decide +kernel
theorem dX2_fillFloors_108 : decode cX2_fillFloors 108 = .ok (.iadd, 1) := by decide +kernel
theorem dX2_fillFloors_109 : decode cX2_fillFloors 109 = .ok (.iastore, 1) := by decide +kernel
theorem dX2_fillFloors_110 : decode cX2_fillFloors 110 = .ok (.aload_n 0, 1) := by decide +kernel
theorem dX2_fillFloors_111 : decode cX2_fillFloors 111 = .ok (.getfield 18, 3) := by decide +kernel
theorem dX2_fillFloors_114 : decode cX2_fillFloors 114 = .ok (.iload_n 2, 1) := by decide +kernel
theorem dX2_fillFloors_115 : decode cX2_fillFloors 115 = .ok (.dup2, 1) := by decide +kernel
theorem dX2_fillFloors_116 : decode cX2_fillFloors 116 = .ok (.laload, 1) := by decide +kernel
theorem dX2_fillFloors_117 : decode cX2_fillFloors 117 = .ok (.lload 5, 2) := by decide +kernel
theorem dX2_fillFloors_119 : decode cX2_fillFloors 119 = .ok (.ladd, 1) := by decide +kernel
theorem dX2_fillFloors_120 : decode cX2_fillFloors 120 = .ok (.lastore, 1) := by decide +kernel
theorem dX2_fillFloors_121 : decode cX2_fillFloors 121 = .ok (.iinc 1 1, 3) := by decide +kernel
theorem dX2_fillFloors_124 : decode cX2_fillFloors 124 = .ok (.goto (-122), 3) := by decide +kernel
theorem dX2_fillFloors_127 : decode cX2_fillFloors 127 = .ok (.return_, 1) := by decide +kernel
theorem dX3_init_0 : decode cX3_init 0 = .ok (.aload_n 0, 1) := by decide +kernel
theorem dX3_init_1 : decode cX3_init 1 = .ok (.invokespecial 1, 3) := by decide +kernel
theorem dX3_init_4 : decode cX3_init 4 = .ok (.aload_n 0, 1) := by decide +kernel
theorem dX3_init_5 : decode cX3_init 5 = .ok (.iconst 0, 1) := by decide +kernel
theorem dX3_init_6 : decode cX3_init 6 = .ok (.iload_n 1, 1) := by decide +kernel
theorem dX3_init_7 : decode cX3_init 7 = .ok (.invokestatic 7, 3) := by decide +kernel
theorem dX3_init_10 : decode cX3_init 10 = .ok (.putfield 13, 3) := by decide +kernel
theorem dX3_init_13 : decode cX3_init 13 = .ok (.aload_n 0, 1) := by decide +kernel
theorem dX3_init_14 : decode cX3_init 14 = .ok (.aload_n 0, 1) := by decide +kernel
theorem dX3_init_15 : decode cX3_init 15 = .ok (.getfield 13, 3) := by decide +kernel
theorem dX3_init_18 : decode cX3_init 18 = .ok (.newarray .int, 2) := by decide +kernel
theorem dX3_init_20 : decode cX3_init 20 = .ok (.putfield 19, 3) := by decide +kernel
theorem dX3_init_23 : decode cX3_init 23 = .ok (.aload_n 0, 1) := by decide +kernel
theorem dX3_init_24 : decode cX3_init 24 = .ok (.aload_n 0, 1) := by decide +kernel
theorem dX3_init_25 : decode cX3_init 25 = .ok (.getfield 13, 3) := by decide +kernel
theorem dX3_init_28 : decode cX3_init 28 = .ok (.newarray .int, 2) := by decide +kernel
theorem dX3_init_30 : decode cX3_init 30 = .ok (.putfield 23, 3) := by decide +kernel
theorem dX3_init_33 : decode cX3_init 33 = .ok (.aload_n 0, 1) := by decide +kernel
theorem dX3_init_34 : decode cX3_init 34 = .ok (.aload_n 0, 1) := by decide +kernel
theorem dX3_init_35 : decode cX3_init 35 = .ok (.getfield 13, 3) := by decide +kernel
theorem dX3_init_38 : decode cX3_init 38 = .ok (.newarray .int, 2) := by decide +kernel
theorem dX3_init_40 : decode cX3_init 40 = .ok (.putfield 26, 3) := by decide +kernel
theorem dX3_init_43 : decode cX3_init 43 = .ok (.aload_n 0, 1) := by decide +kernel
theorem dX3_init_44 : decode cX3_init 44 = .ok (.aload_n 0, 1) := by decide +kernel
theorem dX3_init_45 : decode cX3_init 45 = .ok (.getfield 13, 3) := by decide +kernel
theorem dX3_init_48 : decode cX3_init 48 = .ok (.newarray .long, 2) := by decide +kernel
theorem dX3_init_50 : decode cX3_init 50 = .ok (.putfield 29, 3) := by decide +kernel
theorem dX3_init_53 : decode cX3_init 53 = .ok (.aload_n 0, 1) := by decide +kernel
theorem dX3_init_54 : decode cX3_init 54 = .ok (.aload_n 0, 1) := by decide +kernel
theorem dX3_init_55 : decode cX3_init 55 = .ok (.getfield 13, 3) := by decide +kernel
theorem dX3_init_58 : decode cX3_init 58 = .ok (.newarray .long, 2) := by decide +kernel
theorem dX3_init_60 : decode cX3_init 60 = .ok (.putfield 33, 3) := by decide +kernel
theorem dX3_init_63 : decode cX3_init 63 = .ok (.return_, 1) := by decide +kernel
theorem dX3_kept_0 : decode cX3_kept 0 = .ok (.aload_n 0, 1) := by decide +kernel
theorem dX3_kept_1 : decode cX3_kept 1 = .ok (.getfield 36, 3) := by decide +kernel
theorem dX3_kept_4 : decode cX3_kept 4 = .ok (.aload_n 0, 1) := by decide +kernel
theorem dX3_kept_5 : decode cX3_kept 5 = .ok (.getfield 13, 3) := by decide +kernel
theorem dX3_kept_8 : decode cX3_kept 8 = .ok (.invokestatic 39, 3) := by decide +kernel
theorem dX3_kept_11 : decode cX3_kept 11 = .ok (.ireturn, 1) := by decide +kernel
theorem dX3_begin_0 : decode cX3_begin 0 = .ok (.aload_n 0, 1) := by decide +kernel
theorem dX3_begin_1 : decode cX3_begin 1 = .ok (.getfield 36, 3) := by decide +kernel
theorem dX3_begin_4 : decode cX3_begin 4 = .ok (.istore 6, 2) := by decide +kernel
theorem dX3_begin_6 : decode cX3_begin 6 = .ok (.iload 6, 2) := by decide +kernel
theorem dX3_begin_8 : decode cX3_begin 8 = .ok (.aload_n 0, 1) := by decide +kernel
theorem dX3_begin_9 : decode cX3_begin 9 = .ok (.getfield 13, 3) := by decide +kernel
theorem dX3_begin_12 : decode cX3_begin 12 = .ok (.if_icmp .ge 36, 3) := by decide +kernel
theorem dX3_begin_15 : decode cX3_begin 15 = .ok (.aload_n 0, 1) := by decide +kernel
theorem dX3_begin_16 : decode cX3_begin 16 = .ok (.getfield 19, 3) := by decide +kernel
theorem dX3_begin_19 : decode cX3_begin 19 = .ok (.iload 6, 2) := by decide +kernel
theorem dX3_begin_21 : decode cX3_begin 21 = .ok (.iload_n 1, 1) := by decide +kernel
theorem dX3_begin_22 : decode cX3_begin 22 = .ok (.iastore, 1) := by decide +kernel
theorem dX3_begin_23 : decode cX3_begin 23 = .ok (.aload_n 0, 1) := by decide +kernel
theorem dX3_begin_24 : decode cX3_begin 24 = .ok (.getfield 23, 3) := by decide +kernel
theorem dX3_begin_27 : decode cX3_begin 27 = .ok (.iload 6, 2) := by decide +kernel
theorem dX3_begin_29 : decode cX3_begin 29 = .ok (.iload_n 2, 1) := by decide +kernel
theorem dX3_begin_30 : decode cX3_begin 30 = .ok (.iastore, 1) := by decide +kernel
theorem dX3_begin_31 : decode cX3_begin 31 = .ok (.aload_n 0, 1) := by decide +kernel
theorem dX3_begin_32 : decode cX3_begin 32 = .ok (.getfield 26, 3) := by decide +kernel
theorem dX3_begin_35 : decode cX3_begin 35 = .ok (.iload 6, 2) := by decide +kernel
theorem dX3_begin_37 : decode cX3_begin 37 = .ok (.iload_n 3, 1) := by decide +kernel
theorem dX3_begin_38 : decode cX3_begin 38 = .ok (.iastore, 1) := by decide +kernel
theorem dX3_begin_39 : decode cX3_begin 39 = .ok (.aload_n 0, 1) := by decide +kernel
theorem dX3_begin_40 : decode cX3_begin 40 = .ok (.getfield 29, 3) := by decide +kernel
theorem dX3_begin_43 : decode cX3_begin 43 = .ok (.iload 6, 2) := by decide +kernel
theorem dX3_begin_45 : decode cX3_begin 45 = .ok (.lload 4, 2) := by decide +kernel
theorem dX3_begin_47 : decode cX3_begin 47 = .ok (.lastore, 1) := by decide +kernel
theorem dX3_begin_48 : decode cX3_begin 48 = .ok (.aload_n 0, 1) := by decide +kernel
theorem dX3_begin_49 : decode cX3_begin 49 = .ok (.dup, 1) := by decide +kernel
theorem dX3_begin_50 : decode cX3_begin 50 = .ok (.getfield 36, 3) := by decide +kernel
theorem dX3_begin_53 : decode cX3_begin 53 = .ok (.iconst 1, 1) := by decide +kernel
theorem dX3_begin_54 : decode cX3_begin 54 = .ok (.iadd, 1) := by decide +kernel
theorem dX3_begin_55 : decode cX3_begin 55 = .ok (.putfield 36, 3) := by decide +kernel
theorem dX3_begin_58 : decode cX3_begin 58 = .ok (.iload 6, 2) := by decide +kernel
theorem dX3_begin_60 : decode cX3_begin 60 = .ok (.ireturn, 1) := by decide +kernel
theorem dX3_end_0 : decode cX3_end 0 = .ok (.iload_n 1, 1) := by decide +kernel
theorem dX3_end_1 : decode cX3_end 1 = .ok (.ifCond .lt 18, 3) := by decide +kernel
theorem dX3_end_4 : decode cX3_end 4 = .ok (.iload_n 1, 1) := by decide +kernel
theorem dX3_end_5 : decode cX3_end 5 = .ok (.aload_n 0, 1) := by decide +kernel
theorem dX3_end_6 : decode cX3_end 6 = .ok (.getfield 13, 3) := by decide +kernel
theorem dX3_end_9 : decode cX3_end 9 = .ok (.if_icmp .ge 10, 3) := by decide +kernel
theorem dX3_end_12 : decode cX3_end 12 = .ok (.aload_n 0, 1) := by decide +kernel
theorem dX3_end_13 : decode cX3_end 13 = .ok (.getfield 33, 3) := by decide +kernel
theorem dX3_end_16 : decode cX3_end 16 = .ok (.iload_n 1, 1) := by decide +kernel
theorem dX3_end_17 : decode cX3_end 17 = .ok (.lload_n 2, 1) := by decide +kernel
theorem dX3_end_18 : decode cX3_end 18 = .ok (.lastore, 1) := by decide +kernel
theorem dX3_end_19 : decode cX3_end 19 = .ok (.return_, 1) := by decide +kernel
theorem dX4_init_0 : decode cX4_init 0 = .ok (.aload_n 0, 1) := by decide +kernel
theorem dX4_init_1 : decode cX4_init 1 = .ok (.invokespecial 3, 3) := by decide +kernel
theorem dX4_init_4 : decode cX4_init 4 = .ok (.aload_n 0, 1) := by decide +kernel
theorem dX4_init_5 : decode cX4_init 5 = .ok (.sipush 1440, 3) := by decide +kernel
theorem dX4_init_8 : decode cX4_init 8 = .ok (.newarray .int, 2) := by decide +kernel
theorem dX4_init_10 : decode cX4_init 10 = .ok (.putfield 9, 3) := by decide +kernel
theorem dX4_init_13 : decode cX4_init 13 = .ok (.aload_n 0, 1) := by decide +kernel
theorem dX4_init_14 : decode cX4_init 14 = .ok (.sipush 480, 3) := by decide +kernel
theorem dX4_init_17 : decode cX4_init 17 = .ok (.newarray .int, 2) := by decide +kernel
theorem dX4_init_19 : decode cX4_init 19 = .ok (.putfield 15, 3) := by decide +kernel
theorem dX4_init_22 : decode cX4_init 22 = .ok (.aload_n 0, 1) := by decide +kernel
theorem dX4_init_23 : decode cX4_init 23 = .ok (.sipush 480, 3) := by decide +kernel
theorem dX4_init_26 : decode cX4_init 26 = .ok (.newarray .int, 2) := by decide +kernel
theorem dX4_init_28 : decode cX4_init 28 = .ok (.putfield 18, 3) := by decide +kernel
theorem dX4_init_31 : decode cX4_init 31 = .ok (.aload_n 0, 1) := by decide +kernel
theorem dX4_init_32 : decode cX4_init 32 = .ok (.sipush 480, 3) := by decide +kernel
theorem dX4_init_35 : decode cX4_init 35 = .ok (.newarray .int, 2) := by decide +kernel
theorem dX4_init_37 : decode cX4_init 37 = .ok (.putfield 21, 3) := by decide +kernel
theorem dX4_init_40 : decode cX4_init 40 = .ok (.aload_n 0, 1) := by decide +kernel
theorem dX4_init_41 : decode cX4_init 41 = .ok (.bipush 40, 2) := by decide +kernel
theorem dX4_init_43 : decode cX4_init 43 = .ok (.newarray .int, 2) := by decide +kernel
theorem dX4_init_45 : decode cX4_init 45 = .ok (.putfield 24, 3) := by decide +kernel
theorem dX4_init_48 : decode cX4_init 48 = .ok (.aload_n 0, 1) := by decide +kernel
theorem dX4_init_49 : decode cX4_init 49 = .ok (.bipush 40, 2) := by decide +kernel
theorem dX4_init_51 : decode cX4_init 51 = .ok (.newarray .int, 2) := by decide +kernel
theorem dX4_init_53 : decode cX4_init 53 = .ok (.putfield 27, 3) := by decide +kernel
theorem dX4_init_56 : decode cX4_init 56 = .ok (.return_, 1) := by decide +kernel
theorem dX4_put_0 : decode cX4_put 0 = .ok (.iload_n 1, 1) := by decide +kernel
theorem dX4_put_1 : decode cX4_put 1 = .ok (.bipush 12, 2) := by decide +kernel
theorem dX4_put_3 : decode cX4_put 3 = .ok (.imul, 1) := by decide +kernel
theorem dX4_put_4 : decode cX4_put 4 = .ok (.iload_n 2, 1) := by decide +kernel
theorem dX4_put_5 : decode cX4_put 5 = .ok (.iadd, 1) := by decide +kernel
theorem dX4_put_6 : decode cX4_put 6 = .ok (.istore 7, 2) := by decide +kernel
theorem dX4_put_8 : decode cX4_put 8 = .ok (.aload_n 0, 1) := by decide +kernel
theorem dX4_put_9 : decode cX4_put 9 = .ok (.getfield 15, 3) := by decide +kernel
theorem dX4_put_12 : decode cX4_put 12 = .ok (.iload 7, 2) := by decide +kernel
theorem dX4_put_14 : decode cX4_put 14 = .ok (.iaload, 1) := by decide +kernel
theorem dX4_put_15 : decode cX4_put 15 = .ok (.ifCond .ne 43, 3) := by decide +kernel
theorem dX4_put_18 : decode cX4_put 18 = .ok (.aload_n 0, 1) := by decide +kernel
theorem dX4_put_19 : decode cX4_put 19 = .ok (.getfield 18, 3) := by decide +kernel
theorem dX4_put_22 : decode cX4_put 22 = .ok (.iload 7, 2) := by decide +kernel
theorem dX4_put_24 : decode cX4_put 24 = .ok (.aload_n 0, 1) := by decide +kernel
theorem dX4_put_25 : decode cX4_put 25 = .ok (.getfield 24, 3) := by decide +kernel
theorem dX4_put_28 : decode cX4_put 28 = .ok (.iload_n 1, 1) := by decide +kernel
theorem dX4_put_29 : decode cX4_put 29 = .ok (.iaload, 1) := by decide +kernel
theorem dX4_put_30 : decode cX4_put 30 = .ok (.iastore, 1) := by decide +kernel
theorem dX4_put_31 : decode cX4_put 31 = .ok (.aload_n 0, 1) := by decide +kernel
theorem dX4_put_32 : decode cX4_put 32 = .ok (.getfield 21, 3) := by decide +kernel
theorem dX4_put_35 : decode cX4_put 35 = .ok (.iload_n 1, 1) := by decide +kernel
theorem dX4_put_36 : decode cX4_put 36 = .ok (.bipush 12, 2) := by decide +kernel
theorem dX4_put_38 : decode cX4_put 38 = .ok (.imul, 1) := by decide +kernel
theorem dX4_put_39 : decode cX4_put 39 = .ok (.aload_n 0, 1) := by decide +kernel
theorem dX4_put_40 : decode cX4_put 40 = .ok (.getfield 24, 3) := by decide +kernel
theorem dX4_put_43 : decode cX4_put 43 = .ok (.iload_n 1, 1) := by decide +kernel
theorem dX4_put_44 : decode cX4_put 44 = .ok (.iaload, 1) := by decide +kernel
theorem dX4_put_45 : decode cX4_put 45 = .ok (.iadd, 1) := by decide +kernel
theorem dX4_put_46 : decode cX4_put 46 = .ok (.iload_n 2, 1) := by decide +kernel
theorem dX4_put_47 : decode cX4_put 47 = .ok (.iastore, 1) := by decide +kernel
theorem dX4_put_48 : decode cX4_put 48 = .ok (.aload_n 0, 1) := by decide +kernel
theorem dX4_put_49 : decode cX4_put 49 = .ok (.getfield 24, 3) := by decide +kernel
theorem dX4_put_52 : decode cX4_put 52 = .ok (.iload_n 1, 1) := by decide +kernel
theorem dX4_put_53 : decode cX4_put 53 = .ok (.dup2, 1) := by decide +kernel
theorem dX4_put_54 : decode cX4_put 54 = .ok (.iaload, 1) := by decide +kernel
theorem dX4_put_55 : decode cX4_put 55 = .ok (.iconst 1, 1) := by decide +kernel
theorem dX4_put_56 : decode cX4_put 56 = .ok (.iadd, 1) := by decide +kernel
theorem dX4_put_57 : decode cX4_put 57 = .ok (.iastore, 1) := by decide +kernel
theorem dX4_put_58 : decode cX4_put 58 = .ok (.aload_n 0, 1) := by decide +kernel
theorem dX4_put_59 : decode cX4_put 59 = .ok (.getfield 15, 3) := by decide +kernel
theorem dX4_put_62 : decode cX4_put 62 = .ok (.iload 7, 2) := by decide +kernel
theorem dX4_put_64 : decode cX4_put 64 = .ok (.iload 6, 2) := by decide +kernel
theorem dX4_put_66 : decode cX4_put 66 = .ok (.ifCond .eq 7, 3) := by decide +kernel
theorem dX4_put_69 : decode cX4_put 69 = .ok (.iconst 2, 1) := by decide +kernel
theorem dX4_put_70 : decode cX4_put 70 = .ok (.goto 4, 3) := by decide +kernel
theorem dX4_put_73 : decode cX4_put 73 = .ok (.iconst 1, 1) := by decide +kernel
theorem dX4_put_74 : decode cX4_put 74 = .ok (.iastore, 1) := by decide +kernel
theorem dX4_put_75 : decode cX4_put 75 = .ok (.aload_n 0, 1) := by decide +kernel
theorem dX4_put_76 : decode cX4_put 76 = .ok (.getfield 9, 3) := by decide +kernel
theorem dX4_put_79 : decode cX4_put 79 = .ok (.iload 7, 2) := by decide +kernel
theorem dX4_put_81 : decode cX4_put 81 = .ok (.iconst 3, 1) := by decide +kernel
theorem dX4_put_82 : decode cX4_put 82 = .ok (.imul, 1) := by decide +kernel
theorem dX4_put_83 : decode cX4_put 83 = .ok (.iload_n 3, 1) := by decide +kernel
theorem dX4_put_84 : decode cX4_put 84 = .ok (.iastore, 1) := by decide +kernel
theorem dX4_put_85 : decode cX4_put 85 = .ok (.aload_n 0, 1) := by decide +kernel
theorem dX4_put_86 : decode cX4_put 86 = .ok (.getfield 9, 3) := by decide +kernel
theorem dX4_put_89 : decode cX4_put 89 = .ok (.iload 7, 2) := by decide +kernel
theorem dX4_put_91 : decode cX4_put 91 = .ok (.iconst 3, 1) := by decide +kernel
theorem dX4_put_92 : decode cX4_put 92 = .ok (.imul, 1) := by decide +kernel
theorem dX4_put_93 : decode cX4_put 93 = .ok (.iconst 1, 1) := by decide +kernel
theorem dX4_put_94 : decode cX4_put 94 = .ok (.iadd, 1) := by decide +kernel
theorem dX4_put_95 : decode cX4_put 95 = .ok (.iload 6, 2) := by decide +kernel
theorem dX4_put_97 : decode cX4_put 97 = .ok (.ifCond .eq 8, 3) := by decide +kernel
theorem dX4_put_100 : decode cX4_put 100 = .ok (.iload 4, 2) := by decide +kernel
theorem dX4_put_102 : decode cX4_put 102 = .ok (.goto 4, 3) := by decide +kernel
theorem dX4_put_105 : decode cX4_put 105 = .ok (.iconst 0, 1) := by decide +kernel
theorem dX4_put_106 : decode cX4_put 106 = .ok (.iastore, 1) := by decide +kernel
theorem dX4_put_107 : decode cX4_put 107 = .ok (.aload_n 0, 1) := by decide +kernel
theorem dX4_put_108 : decode cX4_put 108 = .ok (.getfield 9, 3) := by decide +kernel
theorem dX4_put_111 : decode cX4_put 111 = .ok (.iload 7, 2) := by decide +kernel
theorem dX4_put_113 : decode cX4_put 113 = .ok (.iconst 3, 1) := by decide +kernel
theorem dX4_put_114 : decode cX4_put 114 = .ok (.imul, 1) := by decide +kernel
theorem dX4_put_115 : decode cX4_put 115 = .ok (.iconst 2, 1) := by decide +kernel
theorem dX4_put_116 : decode cX4_put 116 = .ok (.iadd, 1) := by decide +kernel
theorem dX4_put_117 : decode cX4_put 117 = .ok (.iload 6, 2) := by decide +kernel
theorem dX4_put_119 : decode cX4_put 119 = .ok (.ifCond .eq 8, 3) := by decide +kernel
theorem dX4_put_122 : decode cX4_put 122 = .ok (.iload 5, 2) := by decide +kernel
theorem dX4_put_124 : decode cX4_put 124 = .ok (.goto 4, 3) := by decide +kernel
theorem dX4_put_127 : decode cX4_put 127 = .ok (.iconst 0, 1) := by decide +kernel
theorem dX4_put_128 : decode cX4_put 128 = .ok (.iastore, 1) := by decide +kernel
theorem dX4_put_129 : decode cX4_put 129 = .ok (.return_, 1) := by decide +kernel
theorem dX4_tearAt_0 : decode cX4_tearAt 0 = .ok (.aload_n 0, 1) := by decide +kernel
theorem dX4_tearAt_1 : decode cX4_tearAt 1 = .ok (.getfield 27, 3) := by decide +kernel
theorem dX4_tearAt_4 : decode cX4_tearAt 4 = .ok (.iload_n 1, 1) := by decide +kernel
theorem dX4_tearAt_5 : decode cX4_tearAt 5 = .ok (.sipush 4095, 3) := by decide +kernel
theorem dX4_tearAt_8 : decode cX4_tearAt 8 = .ok (.iload_n 2, 1) := by decide +kernel
theorem dX4_tearAt_9 : decode cX4_tearAt 9 = .ok (.ishl, 1) := by decide +kernel
theorem dX4_tearAt_10 : decode cX4_tearAt 10 = .ok (.sipush 4095, 3) := by decide +kernel
theorem dX4_tearAt_13 : decode cX4_tearAt 13 = .ok (.iand, 1) := by decide +kernel
theorem dX4_tearAt_14 : decode cX4_tearAt 14 = .ok (.iastore, 1) := by decide +kernel
theorem dX4_tearAt_15 : decode cX4_tearAt 15 = .ok (.return_, 1) := by decide +kernel
set_option maxRecDepth 20000 in
theorem ggX4_tornAt_J6_bitCount_0f7a4 : GoodIn wsX4_tornAt wsJ6_bitCount_0f7a4 := goodIn_r _ [5, 6, 7, 8] (by decide +kernel) (by decide +kernel)
set_option maxRecDepth 20000 in
theorem gX4_tornAt_J6_bitCount_0f7a4 : GoodIn wsX4_tornAt (va_wsS RX4 30 yJ6_bitCount_0f7a4 wsJ6_bitCount_0f7a4) := goodIn_app (goodIn_of _ (by decide +kernel)) ggX4_tornAt_J6_bitCount_0f7a4
theorem dX4_tornAt_0 : decode cX4_tornAt 0 = .ok (.bipush 12, 2) := by decide +kernel
theorem dX4_tornAt_2 : decode cX4_tornAt 2 = .ok (.aload_n 0, 1) := by decide +kernel
theorem dX4_tornAt_3 : decode cX4_tornAt 3 = .ok (.getfield 27, 3) := by decide +kernel
theorem dX4_tornAt_6 : decode cX4_tornAt 6 = .ok (.iload_n 1, 1) := by decide +kernel
theorem dX4_tornAt_7 : decode cX4_tornAt 7 = .ok (.iaload, 1) := by decide +kernel
theorem dX4_tornAt_8 : decode cX4_tornAt 8 = .ok (.invokestatic 30, 3) := by decide +kernel
theorem dX4_tornAt_11 : decode cX4_tornAt 11 = .ok (.isub, 1) := by decide +kernel
theorem dX4_tornAt_12 : decode cX4_tornAt 12 = .ok (.ireturn, 1) := by decide +kernel
theorem dX4_bringBack_0 : decode cX4_bringBack 0 = .ok (.aload_n 0, 1) := by decide +kernel
theorem dX4_bringBack_1 : decode cX4_bringBack 1 = .ok (.getfield 27, 3) := by decide +kernel
theorem dX4_bringBack_4 : decode cX4_bringBack 4 = .ok (.iload_n 1, 1) := by decide +kernel
theorem dX4_bringBack_5 : decode cX4_bringBack 5 = .ok (.dup2, 1) := by decide +kernel
theorem dX4_bringBack_6 : decode cX4_bringBack 6 = .ok (.iaload, 1) := by decide +kernel
theorem dX4_bringBack_7 : decode cX4_bringBack 7 = .ok (.iconst 1, 1) := by decide +kernel
theorem dX4_bringBack_8 : decode cX4_bringBack 8 = .ok (.iload_n 2, 1) := by decide +kernel
theorem dX4_bringBack_9 : decode cX4_bringBack 9 = .ok (.ishl, 1) := by decide +kernel
theorem dX4_bringBack_10 : decode cX4_bringBack 10 = .ok (.iconst (-1), 1) := by decide +kernel
theorem dX4_bringBack_11 : decode cX4_bringBack 11 = .ok (.ixor, 1) := by decide +kernel
theorem dX4_bringBack_12 : decode cX4_bringBack 12 = .ok (.iand, 1) := by decide +kernel
theorem dX4_bringBack_13 : decode cX4_bringBack 13 = .ok (.iastore, 1) := by decide +kernel
theorem dX4_bringBack_14 : decode cX4_bringBack 14 = .ok (.return_, 1) := by decide +kernel
theorem dX4_isOpen_0 : decode cX4_isOpen 0 = .ok (.aload_n 0, 1) := by decide +kernel
theorem dX4_isOpen_1 : decode cX4_isOpen 1 = .ok (.getfield 27, 3) := by decide +kernel
theorem dX4_isOpen_4 : decode cX4_isOpen 4 = .ok (.iload_n 1, 1) := by decide +kernel
theorem dX4_isOpen_5 : decode cX4_isOpen 5 = .ok (.iaload, 1) := by decide +kernel
theorem dX4_isOpen_6 : decode cX4_isOpen 6 = .ok (.iload_n 2, 1) := by decide +kernel
theorem dX4_isOpen_7 : decode cX4_isOpen 7 = .ok (.ishr, 1) := by decide +kernel
theorem dX4_isOpen_8 : decode cX4_isOpen 8 = .ok (.iconst 1, 1) := by decide +kernel
theorem dX4_isOpen_9 : decode cX4_isOpen 9 = .ok (.iand, 1) := by decide +kernel
theorem dX4_isOpen_10 : decode cX4_isOpen 10 = .ok (.iconst 1, 1) := by decide +kernel
theorem dX4_isOpen_11 : decode cX4_isOpen 11 = .ok (.if_icmp .ne 7, 3) := by decide +kernel
theorem dX4_isOpen_14 : decode cX4_isOpen 14 = .ok (.iconst 1, 1) := by decide +kernel
theorem dX4_isOpen_15 : decode cX4_isOpen 15 = .ok (.goto 4, 3) := by decide +kernel
theorem dX4_isOpen_18 : decode cX4_isOpen 18 = .ok (.iconst 0, 1) := by decide +kernel
theorem dX4_isOpen_19 : decode cX4_isOpen 19 = .ok (.ireturn, 1) := by decide +kernel
theorem dX4_sizeOf_0 : decode cX4_sizeOf 0 = .ok (.aload_n 0, 1) := by decide +kernel
theorem dX4_sizeOf_1 : decode cX4_sizeOf 1 = .ok (.getfield 24, 3) := by decide +kernel
theorem dX4_sizeOf_4 : decode cX4_sizeOf 4 = .ok (.iload_n 1, 1) := by decide +kernel
theorem dX4_sizeOf_5 : decode cX4_sizeOf 5 = .ok (.iaload, 1) := by decide +kernel
theorem dX4_sizeOf_6 : decode cX4_sizeOf 6 = .ok (.ireturn, 1) := by decide +kernel
theorem dX4_workAt_0 : decode cX4_workAt 0 = .ok (.aload_n 0, 1) := by decide +kernel
theorem dX4_workAt_1 : decode cX4_workAt 1 = .ok (.getfield 21, 3) := by decide +kernel
theorem dX4_workAt_4 : decode cX4_workAt 4 = .ok (.iload_n 1, 1) := by decide +kernel
theorem dX4_workAt_5 : decode cX4_workAt 5 = .ok (.bipush 12, 2) := by decide +kernel
theorem dX4_workAt_7 : decode cX4_workAt 7 = .ok (.imul, 1) := by decide +kernel
theorem dX4_workAt_8 : decode cX4_workAt 8 = .ok (.iload_n 2, 1) := by decide +kernel
theorem dX4_workAt_9 : decode cX4_workAt 9 = .ok (.iadd, 1) := by decide +kernel
theorem dX4_workAt_10 : decode cX4_workAt 10 = .ok (.iaload, 1) := by decide +kernel
theorem dX4_workAt_11 : decode cX4_workAt 11 = .ok (.ireturn, 1) := by decide +kernel
theorem dX4_coinsOf_0 : decode cX4_coinsOf 0 = .ok (.aload_n 0, 1) := by decide +kernel
theorem dX4_coinsOf_1 : decode cX4_coinsOf 1 = .ok (.getfield 9, 3) := by decide +kernel
theorem dX4_coinsOf_4 : decode cX4_coinsOf 4 = .ok (.iload_n 1, 1) := by decide +kernel
theorem dX4_coinsOf_5 : decode cX4_coinsOf 5 = .ok (.bipush 12, 2) := by decide +kernel
theorem dX4_coinsOf_7 : decode cX4_coinsOf 7 = .ok (.imul, 1) := by decide +kernel
theorem dX4_coinsOf_8 : decode cX4_coinsOf 8 = .ok (.iload_n 2, 1) := by decide +kernel
theorem dX4_coinsOf_9 : decode cX4_coinsOf 9 = .ok (.iadd, 1) := by decide +kernel
theorem dX4_coinsOf_10 : decode cX4_coinsOf 10 = .ok (.iconst 3, 1) := by decide +kernel
theorem dX4_coinsOf_11 : decode cX4_coinsOf 11 = .ok (.imul, 1) := by decide +kernel
theorem dX4_coinsOf_12 : decode cX4_coinsOf 12 = .ok (.iload_n 3, 1) := by decide +kernel
theorem dX4_coinsOf_13 : decode cX4_coinsOf 13 = .ok (.iadd, 1) := by decide +kernel
theorem dX4_coinsOf_14 : decode cX4_coinsOf 14 = .ok (.iaload, 1) := by decide +kernel
theorem dX4_coinsOf_15 : decode cX4_coinsOf 15 = .ok (.ireturn, 1) := by decide +kernel
theorem dX4_wayOf_0 : decode cX4_wayOf 0 = .ok (.aload_n 0, 1) := by decide +kernel
theorem dX4_wayOf_1 : decode cX4_wayOf 1 = .ok (.getfield 15, 3) := by decide +kernel
theorem dX4_wayOf_4 : decode cX4_wayOf 4 = .ok (.iload_n 1, 1) := by decide +kernel
theorem dX4_wayOf_5 : decode cX4_wayOf 5 = .ok (.bipush 12, 2) := by decide +kernel
theorem dX4_wayOf_7 : decode cX4_wayOf 7 = .ok (.imul, 1) := by decide +kernel
theorem dX4_wayOf_8 : decode cX4_wayOf 8 = .ok (.iload_n 2, 1) := by decide +kernel
theorem dX4_wayOf_9 : decode cX4_wayOf 9 = .ok (.iadd, 1) := by decide +kernel
theorem dX4_wayOf_10 : decode cX4_wayOf 10 = .ok (.iaload, 1) := by decide +kernel
theorem dX4_wayOf_11 : decode cX4_wayOf 11 = .ok (.ireturn, 1) := by decide +kernel
theorem dX4_placeOf_0 : decode cX4_placeOf 0 = .ok (.iload_n 1, 1) := by decide +kernel
theorem dX4_placeOf_1 : decode cX4_placeOf 1 = .ok (.bipush 12, 2) := by decide +kernel
theorem dX4_placeOf_3 : decode cX4_placeOf 3 = .ok (.imul, 1) := by decide +kernel
theorem dX4_placeOf_4 : decode cX4_placeOf 4 = .ok (.iload_n 2, 1) := by decide +kernel
theorem dX4_placeOf_5 : decode cX4_placeOf 5 = .ok (.iadd, 1) := by decide +kernel
theorem dX4_placeOf_6 : decode cX4_placeOf 6 = .ok (.istore_n 3, 1) := by decide +kernel
theorem dX4_placeOf_7 : decode cX4_placeOf 7 = .ok (.aload_n 0, 1) := by decide +kernel
theorem dX4_placeOf_8 : decode cX4_placeOf 8 = .ok (.getfield 15, 3) := by decide +kernel
theorem dX4_placeOf_11 : decode cX4_placeOf 11 = .ok (.iload_n 3, 1) := by decide +kernel
theorem dX4_placeOf_12 : decode cX4_placeOf 12 = .ok (.iaload, 1) := by decide +kernel
theorem dX4_placeOf_13 : decode cX4_placeOf 13 = .ok (.ifCond .ne 7, 3) := by decide +kernel
theorem dX4_placeOf_16 : decode cX4_placeOf 16 = .ok (.iconst (-1), 1) := by decide +kernel
theorem dX4_placeOf_17 : decode cX4_placeOf 17 = .ok (.goto 9, 3) := by decide +kernel
theorem dX4_placeOf_20 : decode cX4_placeOf 20 = .ok (.aload_n 0, 1) := by decide +kernel
theorem dX4_placeOf_21 : decode cX4_placeOf 21 = .ok (.getfield 18, 3) := by decide +kernel
theorem dX4_placeOf_24 : decode cX4_placeOf 24 = .ok (.iload_n 3, 1) := by decide +kernel
theorem dX4_placeOf_25 : decode cX4_placeOf 25 = .ok (.iaload, 1) := by decide +kernel
theorem dX4_placeOf_26 : decode cX4_placeOf 26 = .ok (.ireturn, 1) := by decide +kernel
theorem dX5_init_0 : decode cX5_init 0 = .ok (.aload_n 0, 1) := by decide +kernel
theorem dX5_init_1 : decode cX5_init 1 = .ok (.invokespecial 3, 3) := by decide +kernel
theorem dX5_init_4 : decode cX5_init 4 = .ok (.aload_n 0, 1) := by decide +kernel
theorem dX5_init_5 : decode cX5_init 5 = .ok (.bipush 60, 2) := by decide +kernel
theorem dX5_init_7 : decode cX5_init 7 = .ok (.newarray .int, 2) := by decide +kernel
theorem dX5_init_9 : decode cX5_init 9 = .ok (.putfield 9, 3) := by decide +kernel
theorem dX5_init_12 : decode cX5_init 12 = .ok (.aload_n 0, 1) := by decide +kernel
theorem dX5_init_13 : decode cX5_init 13 = .ok (.bipush 60, 2) := by decide +kernel
theorem dX5_init_15 : decode cX5_init 15 = .ok (.newarray .int, 2) := by decide +kernel
theorem dX5_init_17 : decode cX5_init 17 = .ok (.putfield 15, 3) := by decide +kernel
theorem dX5_init_20 : decode cX5_init 20 = .ok (.aload_n 0, 1) := by decide +kernel
theorem dX5_init_21 : decode cX5_init 21 = .ok (.bipush 60, 2) := by decide +kernel
theorem dX5_init_23 : decode cX5_init 23 = .ok (.newarray .int, 2) := by decide +kernel
theorem dX5_init_25 : decode cX5_init 25 = .ok (.putfield 18, 3) := by decide +kernel
theorem dX5_init_28 : decode cX5_init 28 = .ok (.return_, 1) := by decide +kernel
theorem dX5_add_0 : decode cX5_add 0 = .ok (.aload_n 0, 1) := by decide +kernel
theorem dX5_add_1 : decode cX5_add 1 = .ok (.getfield 9, 3) := by decide +kernel
theorem dX5_add_4 : decode cX5_add 4 = .ok (.aload_n 0, 1) := by decide +kernel
theorem dX5_add_5 : decode cX5_add 5 = .ok (.getfield 21, 3) := by decide +kernel
theorem dX5_add_8 : decode cX5_add 8 = .ok (.iload_n 1, 1) := by decide +kernel
theorem dX5_add_9 : decode cX5_add 9 = .ok (.iastore, 1) := by decide +kernel
theorem dX5_add_10 : decode cX5_add 10 = .ok (.aload_n 0, 1) := by decide +kernel
theorem dX5_add_11 : decode cX5_add 11 = .ok (.getfield 15, 3) := by decide +kernel
theorem dX5_add_14 : decode cX5_add 14 = .ok (.aload_n 0, 1) := by decide +kernel
theorem dX5_add_15 : decode cX5_add 15 = .ok (.getfield 21, 3) := by decide +kernel
theorem dX5_add_18 : decode cX5_add 18 = .ok (.iload_n 2, 1) := by decide +kernel
theorem dX5_add_19 : decode cX5_add 19 = .ok (.iastore, 1) := by decide +kernel
theorem dX5_add_20 : decode cX5_add 20 = .ok (.aload_n 0, 1) := by decide +kernel
theorem dX5_add_21 : decode cX5_add 21 = .ok (.getfield 18, 3) := by decide +kernel
theorem dX5_add_24 : decode cX5_add 24 = .ok (.aload_n 0, 1) := by decide +kernel
theorem dX5_add_25 : decode cX5_add 25 = .ok (.getfield 21, 3) := by decide +kernel
theorem dX5_add_28 : decode cX5_add 28 = .ok (.iload_n 3, 1) := by decide +kernel
theorem dX5_add_29 : decode cX5_add 29 = .ok (.iastore, 1) := by decide +kernel
theorem dX5_add_30 : decode cX5_add 30 = .ok (.aload_n 0, 1) := by decide +kernel
theorem dX5_add_31 : decode cX5_add 31 = .ok (.dup, 1) := by decide +kernel
theorem dX5_add_32 : decode cX5_add 32 = .ok (.getfield 21, 3) := by decide +kernel
theorem dX5_add_35 : decode cX5_add 35 = .ok (.iconst 1, 1) := by decide +kernel
theorem dX5_add_36 : decode cX5_add 36 = .ok (.iadd, 1) := by decide +kernel
theorem dX5_add_37 : decode cX5_add 37 = .ok (.putfield 21, 3) := by decide +kernel
theorem dX5_add_40 : decode cX5_add 40 = .ok (.aload_n 0, 1) := by decide +kernel
theorem dX5_add_41 : decode cX5_add 41 = .ok (.dup, 1) := by decide +kernel
theorem dX5_add_42 : decode cX5_add 42 = .ok (.getfield 25, 3) := by decide +kernel
theorem dX5_add_45 : decode cX5_add 45 = .ok (.iload_n 2, 1) := by decide +kernel
theorem dX5_add_46 : decode cX5_add 46 = .ok (.i2l, 1) := by decide +kernel
theorem dX5_add_47 : decode cX5_add 47 = .ok (.ladd, 1) := by decide +kernel
theorem dX5_add_48 : decode cX5_add 48 = .ok (.putfield 25, 3) := by decide +kernel
theorem dX5_add_51 : decode cX5_add 51 = .ok (.return_, 1) := by decide +kernel
theorem dX6_init_0 : decode cX6_init 0 = .ok (.aload_n 0, 1) := by decide +kernel
theorem dX6_init_1 : decode cX6_init 1 = .ok (.invokespecial 3, 3) := by decide +kernel
theorem dX6_init_4 : decode cX6_init 4 = .ok (.aload_n 0, 1) := by decide +kernel
theorem dX6_init_5 : decode cX6_init 5 = .ok (.bipush 12, 2) := by decide +kernel
theorem dX6_init_7 : decode cX6_init 7 = .ok (.newarray .int, 2) := by decide +kernel
theorem dX6_init_9 : decode cX6_init 9 = .ok (.putfield 9, 3) := by decide +kernel
theorem dX6_init_12 : decode cX6_init 12 = .ok (.aload_n 0, 1) := by decide +kernel
theorem dX6_init_13 : decode cX6_init 13 = .ok (.bipush 72, 2) := by decide +kernel
theorem dX6_init_15 : decode cX6_init 15 = .ok (.newarray .int, 2) := by decide +kernel
theorem dX6_init_17 : decode cX6_init 17 = .ok (.putfield 15, 3) := by decide +kernel
theorem dX6_init_20 : decode cX6_init 20 = .ok (.aload_n 0, 1) := by decide +kernel
theorem dX6_init_21 : decode cX6_init 21 = .ok (.sipush 216, 3) := by decide +kernel
theorem dX6_init_24 : decode cX6_init 24 = .ok (.newarray .int, 2) := by decide +kernel
theorem dX6_init_26 : decode cX6_init 26 = .ok (.putfield 18, 3) := by decide +kernel
theorem dX6_init_29 : decode cX6_init 29 = .ok (.aload_n 0, 1) := by decide +kernel
theorem dX6_init_30 : decode cX6_init 30 = .ok (.sipush 216, 3) := by decide +kernel
theorem dX6_init_33 : decode cX6_init 33 = .ok (.newarray .int, 2) := by decide +kernel
theorem dX6_init_35 : decode cX6_init 35 = .ok (.putfield 21, 3) := by decide +kernel
theorem dX6_init_38 : decode cX6_init 38 = .ok (.return_, 1) := by decide +kernel
