theorem dX5_begins_114 : decode cX5_begins 114 = .ok (.iastore, 1) := by decide +kernel
theorem dX5_begins_115 : decode cX5_begins 115 = .ok (.return_, 1) := by decide +kernel
theorem dX5_begins_116 : decode cX5_begins 116 = .ok (.aload_n 0, 1) := by decide +kernel
theorem dX5_begins_117 : decode cX5_begins 117 = .ok (.invokevirtual 175, 3) := by decide +kernel
theorem dX5_begins_120 : decode cX5_begins 120 = .ok (.return_, 1) := by decide +kernel
theorem dX5_tagOf_0 : decode cX5_tagOf 0 = .ok (.aload_n 0, 1) := by decide +kernel
theorem dX5_tagOf_1 : decode cX5_tagOf 1 = .ok (.getfield 66, 3) := by decide +kernel
theorem dX5_tagOf_4 : decode cX5_tagOf 4 = .ok (.iload_n 1, 1) := by decide +kernel
theorem dX5_tagOf_5 : decode cX5_tagOf 5 = .ok (.laload, 1) := by decide +kernel
theorem dX5_tagOf_6 : decode cX5_tagOf 6 = .ok (.ldc2_w 177, 3) := by decide +kernel
theorem dX5_tagOf_9 : decode cX5_tagOf 9 = .ok (.aload_n 0, 1) := by decide +kernel
theorem dX5_tagOf_10 : decode cX5_tagOf 10 = .ok (.getfield 27, 3) := by decide +kernel
theorem dX5_tagOf_13 : decode cX5_tagOf 13 = .ok (.iload_n 1, 1) := by decide +kernel
theorem dX5_tagOf_14 : decode cX5_tagOf 14 = .ok (.iaload, 1) := by decide +kernel
theorem dX5_tagOf_15 : decode cX5_tagOf 15 = .ok (.i2l, 1) := by decide +kernel
theorem dX5_tagOf_16 : decode cX5_tagOf 16 = .ok (.ldiv, 1) := by decide +kernel
theorem dX5_tagOf_17 : decode cX5_tagOf 17 = .ok (.aload_n 0, 1) := by decide +kernel
theorem dX5_tagOf_18 : decode cX5_tagOf 18 = .ok (.getfield 88, 3) := by decide +kernel
theorem dX5_tagOf_21 : decode cX5_tagOf 21 = .ok (.aload_n 0, 1) := by decide +kernel
theorem dX5_tagOf_22 : decode cX5_tagOf 22 = .ok (.getfield 36, 3) := by decide +kernel
theorem dX5_tagOf_25 : decode cX5_tagOf 25 = .ok (.iload_n 1, 1) := by decide +kernel
theorem dX5_tagOf_26 : decode cX5_tagOf 26 = .ok (.iaload, 1) := by decide +kernel
theorem dX5_tagOf_27 : decode cX5_tagOf 27 = .ok (.iaload, 1) := by decide +kernel
theorem dX5_tagOf_28 : decode cX5_tagOf 28 = .ok (.i2l, 1) := by decide +kernel
theorem dX5_tagOf_29 : decode cX5_tagOf 29 = .ok (.lmul, 1) := by decide +kernel
theorem dX5_tagOf_30 : decode cX5_tagOf 30 = .ok (.ladd, 1) := by decide +kernel
theorem dX5_tagOf_31 : decode cX5_tagOf 31 = .ok (.lreturn, 1) := by decide +kernel
theorem dX5_groupTagOf_0 : decode cX5_groupTagOf 0 = .ok (.aload_n 0, 1) := by decide +kernel
theorem dX5_groupTagOf_1 : decode cX5_groupTagOf 1 = .ok (.getfield 24, 3) := by decide +kernel
theorem dX5_groupTagOf_4 : decode cX5_groupTagOf 4 = .ok (.iload_n 1, 1) := by decide +kernel
theorem dX5_groupTagOf_5 : decode cX5_groupTagOf 5 = .ok (.iaload, 1) := by decide +kernel
theorem dX5_groupTagOf_6 : decode cX5_groupTagOf 6 = .ok (.istore_n 2, 1) := by decide +kernel
theorem dX5_groupTagOf_7 : decode cX5_groupTagOf 7 = .ok (.aload_n 0, 1) := by decide +kernel
theorem dX5_groupTagOf_8 : decode cX5_groupTagOf 8 = .ok (.getfield 17, 3) := by decide +kernel
theorem dX5_groupTagOf_11 : decode cX5_groupTagOf 11 = .ok (.iload_n 2, 1) := by decide +kernel
theorem dX5_groupTagOf_12 : decode cX5_groupTagOf 12 = .ok (.laload, 1) := by decide +kernel
theorem dX5_groupTagOf_13 : decode cX5_groupTagOf 13 = .ok (.ldc2_w 177, 3) := by decide +kernel
theorem dX5_groupTagOf_16 : decode cX5_groupTagOf 16 = .ok (.aload_n 0, 1) := by decide +kernel
theorem dX5_groupTagOf_17 : decode cX5_groupTagOf 17 = .ok (.getfield 13, 3) := by decide +kernel
theorem dX5_groupTagOf_20 : decode cX5_groupTagOf 20 = .ok (.iload_n 2, 1) := by decide +kernel
theorem dX5_groupTagOf_21 : decode cX5_groupTagOf 21 = .ok (.iaload, 1) := by decide +kernel
theorem dX5_groupTagOf_22 : decode cX5_groupTagOf 22 = .ok (.i2l, 1) := by decide +kernel
theorem dX5_groupTagOf_23 : decode cX5_groupTagOf 23 = .ok (.ldiv, 1) := by decide +kernel
theorem dX5_groupTagOf_24 : decode cX5_groupTagOf 24 = .ok (.aload_n 0, 1) := by decide +kernel
theorem dX5_groupTagOf_25 : decode cX5_groupTagOf 25 = .ok (.getfield 88, 3) := by decide +kernel
theorem dX5_groupTagOf_28 : decode cX5_groupTagOf 28 = .ok (.aload_n 0, 1) := by decide +kernel
theorem dX5_groupTagOf_29 : decode cX5_groupTagOf 29 = .ok (.getfield 36, 3) := by decide +kernel
theorem dX5_groupTagOf_32 : decode cX5_groupTagOf 32 = .ok (.iload_n 1, 1) := by decide +kernel
theorem dX5_groupTagOf_33 : decode cX5_groupTagOf 33 = .ok (.iaload, 1) := by decide +kernel
theorem dX5_groupTagOf_34 : decode cX5_groupTagOf 34 = .ok (.iaload, 1) := by decide +kernel
theorem dX5_groupTagOf_35 : decode cX5_groupTagOf 35 = .ok (.i2l, 1) := by decide +kernel
theorem dX5_groupTagOf_36 : decode cX5_groupTagOf 36 = .ok (.lmul, 1) := by decide +kernel
theorem dX5_groupTagOf_37 : decode cX5_groupTagOf 37 = .ok (.ladd, 1) := by decide +kernel
theorem dX5_groupTagOf_38 : decode cX5_groupTagOf 38 = .ok (.lreturn, 1) := by decide +kernel
set_option maxRecDepth 20000 in
theorem ggX5_excess_X5_tagOf : GoodIn wsX5_excess wsX5_tagOf := goodIn_r _ [19, 10, 20, 21, 6, 7, 40, 41, 42, 43, 44, 45, 46, 47, 48, 49, 50, 51, 52, 53, 54, 55, 56, 57, 58, 59, 60, 61, 62, 63, 64, 65, 66, 67, 68, 69, 70, 71, 72, 73, 74, 75, 76, 77, 78, 79, 80, 81] (by decide +kernel) (by decide +kernel)
set_option maxRecDepth 20000 in
theorem gX5_excess_X5_tagOf : GoodIn wsX5_excess (wsV RX5 179 RX5 yX5_tagOf wsX5_tagOf) := goodIn_app (goodIn_of _ (by decide +kernel)) ggX5_excess_X5_tagOf
set_option maxRecDepth 20000 in
theorem ggX5_excess_X5_groupTagOf : GoodIn wsX5_excess wsX5_groupTagOf := goodIn_r _ [25, 3, 12, 20, 26, 6, 7, 40, 41, 42, 43, 44, 45, 46, 47, 48, 49, 50, 51, 52, 53, 54, 55, 56, 57, 58, 59, 60, 61, 62, 63, 64, 65, 66, 67, 68, 69, 70, 71, 72, 73, 74, 75, 76, 77, 78, 79, 80, 81] (by decide +kernel) (by decide +kernel)
set_option maxRecDepth 20000 in
theorem gX5_excess_X5_groupTagOf : GoodIn wsX5_excess (wsV RX5 183 RX5 yX5_groupTagOf wsX5_groupTagOf) := goodIn_app (goodIn_of _ (by decide +kernel)) ggX5_excess_X5_groupTagOf
set_option maxRecDepth 20000 in
theorem ggX5_excess_X5_goes : GoodIn wsX5_excess wsX5_goes := goodIn_r _ [30, 7, 31, 4, 32, 6, 33, 34, 35, 36, 37, 38, 39, 8, 5, 3, 40, 41, 42, 43, 44, 45, 46, 47, 48, 49, 50, 51, 52, 53, 54, 55, 56, 57, 58, 59, 60, 61, 62, 63, 64, 65, 66, 67, 68, 69, 70, 71, 72, 73, 74, 75, 76, 77, 78, 79, 80, 81] (by decide +kernel) (by decide +kernel)
set_option maxRecDepth 20000 in
theorem gX5_excess_X5_goes : GoodIn wsX5_excess (wsV RX5 171 RX5 yX5_goes wsX5_goes) := goodIn_app (goodIn_of _ (by decide +kernel)) ggX5_excess_X5_goes
theorem dX5_excess_0 : decode cX5_excess 0 = .ok (.iconst (-1), 1) := by decide +kernel
theorem dX5_excess_1 : decode cX5_excess 1 = .ok (.istore_n 1, 1) := by decide +kernel
theorem dX5_excess_2 : decode cX5_excess 2 = .ok (.iconst 0, 1) := by decide +kernel
theorem dX5_excess_3 : decode cX5_excess 3 = .ok (.istore_n 2, 1) := by decide +kernel
theorem dX5_excess_4 : decode cX5_excess 4 = .ok (.iload_n 2, 1) := by decide +kernel
theorem dX5_excess_5 : decode cX5_excess 5 = .ok (.aload_n 0, 1) := by decide +kernel
theorem dX5_excess_6 : decode cX5_excess 6 = .ok (.getfield 117, 3) := by decide +kernel
theorem dX5_excess_9 : decode cX5_excess 9 = .ok (.if_icmp .ge 163, 3) := by decide +kernel
theorem dX5_excess_12 : decode cX5_excess 12 = .ok (.iconst (-1), 1) := by decide +kernel
theorem dX5_excess_13 : decode cX5_excess 13 = .ok (.istore_n 3, 1) := by decide +kernel
theorem dX5_excess_14 : decode cX5_excess 14 = .ok (.iconst 0, 1) := by decide +kernel
theorem dX5_excess_15 : decode cX5_excess 15 = .ok (.istore 4, 2) := by decide +kernel
theorem dX5_excess_17 : decode cX5_excess 17 = .ok (.iload 4, 2) := by decide +kernel
theorem dX5_excess_19 : decode cX5_excess 19 = .ok (.aload_n 0, 1) := by decide +kernel
theorem dX5_excess_20 : decode cX5_excess 20 = .ok (.getfield 128, 3) := by decide +kernel
theorem dX5_excess_23 : decode cX5_excess 23 = .ok (.if_icmp .ge 117, 3) := by decide +kernel
theorem dX5_excess_26 : decode cX5_excess 26 = .ok (.aload_n 0, 1) := by decide +kernel
theorem dX5_excess_27 : decode cX5_excess 27 = .ok (.getfield 24, 3) := by decide +kernel
theorem dX5_excess_30 : decode cX5_excess 30 = .ok (.iload 4, 2) := by decide +kernel
theorem dX5_excess_32 : decode cX5_excess 32 = .ok (.iaload, 1) := by decide +kernel
theorem dX5_excess_33 : decode cX5_excess 33 = .ok (.iload_n 2, 1) := by decide +kernel
theorem dX5_excess_34 : decode cX5_excess 34 = .ok (.if_icmp .ne 100, 3) := by decide +kernel
theorem dX5_excess_37 : decode cX5_excess 37 = .ok (.aload_n 0, 1) := by decide +kernel
theorem dX5_excess_38 : decode cX5_excess 38 = .ok (.getfield 42, 3) := by decide +kernel
theorem dX5_excess_41 : decode cX5_excess 41 = .ok (.iload 4, 2) := by decide +kernel
theorem dX5_excess_43 : decode cX5_excess 43 = .ok (.iaload, 1) := by decide +kernel
theorem dX5_excess_44 : decode cX5_excess 44 = .ok (.ifCond .ne 6, 3) := by decide +kernel
theorem dX5_excess_47 : decode cX5_excess 47 = .ok (.goto 87, 3) := by decide +kernel
theorem dX5_excess_50 : decode cX5_excess 50 = .ok (.ldc2_w 115, 3) := by decide +kernel
theorem dX5_excess_53 : decode cX5_excess 53 = .ok (.aload_n 0, 1) := by decide +kernel
theorem dX5_excess_54 : decode cX5_excess 54 = .ok (.getfield 88, 3) := by decide +kernel
theorem dX5_excess_57 : decode cX5_excess 57 = .ok (.aload_n 0, 1) := by decide +kernel
theorem dX5_excess_58 : decode cX5_excess 58 = .ok (.getfield 36, 3) := by decide +kernel
theorem dX5_excess_61 : decode cX5_excess 61 = .ok (.iload 4, 2) := by decide +kernel
theorem dX5_excess_63 : decode cX5_excess 63 = .ok (.iaload, 1) := by decide +kernel
theorem dX5_excess_64 : decode cX5_excess 64 = .ok (.iaload, 1) := by decide +kernel
theorem dX5_excess_65 : decode cX5_excess 65 = .ok (.i2l, 1) := by decide +kernel
theorem dX5_excess_66 : decode cX5_excess 66 = .ok (.lmul, 1) := by decide +kernel
theorem dX5_excess_67 : decode cX5_excess 67 = .ok (.lstore 5, 2) := by decide +kernel
theorem dX5_excess_69 : decode cX5_excess 69 = .ok (.aload_n 0, 1) := by decide +kernel
theorem dX5_excess_70 : decode cX5_excess 70 = .ok (.getfield 82, 3) := by decide +kernel
theorem dX5_excess_73 : decode cX5_excess 73 = .ok (.iload 4, 2) := by decide +kernel
theorem dX5_excess_75 : decode cX5_excess 75 = .ok (.laload, 1) := by decide +kernel
theorem dX5_excess_76 : decode cX5_excess 76 = .ok (.lload 5, 2) := by decide +kernel
theorem dX5_excess_78 : decode cX5_excess 78 = .ok (.lcmp, 1) := by decide +kernel
theorem dX5_excess_79 : decode cX5_excess 79 = .ok (.ifCond .lt 18, 3) := by decide +kernel
theorem dX5_excess_82 : decode cX5_excess 82 = .ok (.aload_n 0, 1) := by decide +kernel
theorem dX5_excess_83 : decode cX5_excess 83 = .ok (.getfield 82, 3) := by decide +kernel
theorem dX5_excess_86 : decode cX5_excess 86 = .ok (.bipush 8, 2) := by decide +kernel
theorem dX5_excess_88 : decode cX5_excess 88 = .ok (.iload_n 2, 1) := by decide +kernel
theorem dX5_excess_89 : decode cX5_excess 89 = .ok (.iadd, 1) := by decide +kernel
theorem dX5_excess_90 : decode cX5_excess 90 = .ok (.laload, 1) := by decide +kernel
theorem dX5_excess_91 : decode cX5_excess 91 = .ok (.lload 5, 2) := by decide +kernel
theorem dX5_excess_93 : decode cX5_excess 93 = .ok (.lcmp, 1) := by decide +kernel
theorem dX5_excess_94 : decode cX5_excess 94 = .ok (.ifCond .ge 17, 3) := by decide +kernel
theorem dX5_excess_97 : decode cX5_excess 97 = .ok (.aload_n 0, 1) := by decide +kernel
theorem dX5_excess_98 : decode cX5_excess 98 = .ok (.getfield 63, 3) := by decide +kernel
theorem dX5_excess_101 : decode cX5_excess 101 = .ok (.iload 4, 2) := by decide +kernel
theorem dX5_excess_103 : decode cX5_excess 103 = .ok (.dup2, 1) := by decide +kernel
theorem dX5_excess_104 : decode cX5_excess 104 = .ok (.iaload, 1) := by decide +kernel
theorem dX5_excess_105 : decode cX5_excess 105 = .ok (.iconst 1, 1) := by decide +kernel
theorem dX5_excess_106 : decode cX5_excess 106 = .ok (.iadd, 1) := by decide +kernel
theorem dX5_excess_107 : decode cX5_excess 107 = .ok (.iastore, 1) := by decide +kernel
theorem dX5_excess_108 : decode cX5_excess 108 = .ok (.goto 26, 3) := by decide +kernel
theorem dX5_excess_111 : decode cX5_excess 111 = .ok (.iload_n 3, 1) := by decide +kernel
theorem dX5_excess_112 : decode cX5_excess 112 = .ok (.iconst (-1), 1) := by decide +kernel
theorem dX5_excess_113 : decode cX5_excess 113 = .ok (.if_icmp .eq 18, 3) := by decide +kernel
theorem dX5_excess_116 : decode cX5_excess 116 = .ok (.aload_n 0, 1) := by decide +kernel
theorem dX5_excess_117 : decode cX5_excess 117 = .ok (.iload 4, 2) := by decide +kernel
theorem dX5_excess_119 : decode cX5_excess 119 = .ok (.invokevirtual 179, 3) := by decide +kernel
theorem dX5_excess_122 : decode cX5_excess 122 = .ok (.aload_n 0, 1) := by decide +kernel
theorem dX5_excess_123 : decode cX5_excess 123 = .ok (.iload_n 3, 1) := by decide +kernel
theorem dX5_excess_124 : decode cX5_excess 124 = .ok (.invokevirtual 179, 3) := by decide +kernel
theorem dX5_excess_127 : decode cX5_excess 127 = .ok (.lcmp, 1) := by decide +kernel
theorem dX5_excess_128 : decode cX5_excess 128 = .ok (.ifCond .ge 6, 3) := by decide +kernel
theorem dX5_excess_131 : decode cX5_excess 131 = .ok (.iload 4, 2) := by decide +kernel
theorem dX5_excess_133 : decode cX5_excess 133 = .ok (.istore_n 3, 1) := by decide +kernel
theorem dX5_excess_134 : decode cX5_excess 134 = .ok (.iinc 4 1, 3) := by decide +kernel
theorem dX5_excess_137 : decode cX5_excess 137 = .ok (.goto (-120), 3) := by decide +kernel
theorem dX5_excess_140 : decode cX5_excess 140 = .ok (.iload_n 3, 1) := by decide +kernel
theorem dX5_excess_141 : decode cX5_excess 141 = .ok (.iconst (-1), 1) := by decide +kernel
theorem dX5_excess_142 : decode cX5_excess 142 = .ok (.if_icmp .eq 24, 3) := by decide +kernel
theorem dX5_excess_145 : decode cX5_excess 145 = .ok (.iload_n 1, 1) := by decide +kernel
theorem dX5_excess_146 : decode cX5_excess 146 = .ok (.iconst (-1), 1) := by decide +kernel
theorem dX5_excess_147 : decode cX5_excess 147 = .ok (.if_icmp .eq 17, 3) := by decide +kernel
theorem dX5_excess_150 : decode cX5_excess 150 = .ok (.aload_n 0, 1) := by decide +kernel
theorem dX5_excess_151 : decode cX5_excess 151 = .ok (.iload_n 3, 1) := by decide +kernel
theorem dX5_excess_152 : decode cX5_excess 152 = .ok (.invokevirtual 183, 3) := by decide +kernel
theorem dX5_excess_155 : decode cX5_excess 155 = .ok (.aload_n 0, 1) := by decide +kernel
theorem dX5_excess_156 : decode cX5_excess 156 = .ok (.iload_n 1, 1) := by decide +kernel
theorem dX5_excess_157 : decode cX5_excess 157 = .ok (.invokevirtual 183, 3) := by decide +kernel
theorem dX5_excess_160 : decode cX5_excess 160 = .ok (.lcmp, 1) := by decide +kernel
theorem dX5_excess_161 : decode cX5_excess 161 = .ok (.ifCond .ge 5, 3) := by decide +kernel
theorem dX5_excess_164 : decode cX5_excess 164 = .ok (.iload_n 3, 1) := by decide +kernel
theorem dX5_excess_165 : decode cX5_excess 165 = .ok (.istore_n 1, 1) := by decide +kernel
theorem dX5_excess_166 : decode cX5_excess 166 = .ok (.iinc 2 1, 3) := by decide +kernel
theorem dX5_excess_169 : decode cX5_excess 169 = .ok (.goto (-165), 3) := by decide +kernel
theorem dX5_excess_172 : decode cX5_excess 172 = .ok (.iload_n 1, 1) := by decide +kernel
theorem dX5_excess_173 : decode cX5_excess 173 = .ok (.iconst (-1), 1) := by decide +kernel
theorem dX5_excess_174 : decode cX5_excess 174 = .ok (.if_icmp .ne 4, 3) := by decide +kernel
theorem dX5_excess_177 : decode cX5_excess 177 = .ok (.return_, 1) := by decide +kernel
theorem dX5_excess_178 : decode cX5_excess 178 = .ok (.aload_n 0, 1) := by decide +kernel
theorem dX5_excess_179 : decode cX5_excess 179 = .ok (.getfield 24, 3) := by decide +kernel
theorem dX5_excess_182 : decode cX5_excess 182 = .ok (.iload_n 1, 1) := by decide +kernel
theorem dX5_excess_183 : decode cX5_excess 183 = .ok (.iaload, 1) := by decide +kernel
theorem dX5_excess_184 : decode cX5_excess 184 = .ok (.istore_n 2, 1) := by decide +kernel
theorem dX5_excess_185 : decode cX5_excess 185 = .ok (.aload_n 0, 1) := by decide +kernel
theorem dX5_excess_186 : decode cX5_excess 186 = .ok (.iload_n 1, 1) := by decide +kernel
theorem dX5_excess_187 : decode cX5_excess 187 = .ok (.invokevirtual 179, 3) := by decide +kernel
theorem dX5_excess_190 : decode cX5_excess 190 = .ok (.lstore_n 3, 1) := by decide +kernel
theorem dX5_excess_191 : decode cX5_excess 191 = .ok (.aload_n 0, 1) := by decide +kernel
theorem dX5_excess_192 : decode cX5_excess 192 = .ok (.iload_n 1, 1) := by decide +kernel
theorem dX5_excess_193 : decode cX5_excess 193 = .ok (.invokevirtual 183, 3) := by decide +kernel
theorem dX5_excess_196 : decode cX5_excess 196 = .ok (.lstore 5, 2) := by decide +kernel
theorem dX5_excess_198 : decode cX5_excess 198 = .ok (.aload_n 0, 1) := by decide +kernel
theorem dX5_excess_199 : decode cX5_excess 199 = .ok (.getfield 66, 3) := by decide +kernel
theorem dX5_excess_202 : decode cX5_excess 202 = .ok (.iload_n 1, 1) := by decide +kernel
theorem dX5_excess_203 : decode cX5_excess 203 = .ok (.lload_n 3, 1) := by decide +kernel
theorem dX5_excess_204 : decode cX5_excess 204 = .ok (.lastore, 1) := by decide +kernel
theorem dX5_excess_205 : decode cX5_excess 205 = .ok (.aload_n 0, 1) := by decide +kernel
theorem dX5_excess_206 : decode cX5_excess 206 = .ok (.getfield 21, 3) := by decide +kernel
theorem dX5_excess_209 : decode cX5_excess 209 = .ok (.iload_n 2, 1) := by decide +kernel
theorem dX5_excess_210 : decode cX5_excess 210 = .ok (.aload_n 0, 1) := by decide +kernel
theorem dX5_excess_211 : decode cX5_excess 211 = .ok (.getfield 21, 3) := by decide +kernel
theorem dX5_excess_214 : decode cX5_excess 214 = .ok (.iload_n 2, 1) := by decide +kernel
theorem dX5_excess_215 : decode cX5_excess 215 = .ok (.laload, 1) := by decide +kernel
theorem dX5_excess_216 : decode cX5_excess 216 = .ok (.lload_n 3, 1) := by decide +kernel
theorem dX5_excess_217 : decode cX5_excess 217 = .ok (.lcmp, 1) := by decide +kernel
theorem dX5_excess_218 : decode cX5_excess 218 = .ok (.ifCond .ge 7, 3) := by decide +kernel
theorem dX5_excess_221 : decode cX5_excess 221 = .ok (.lload_n 3, 1) := by decide +kernel
theorem dX5_excess_222 : decode cX5_excess 222 = .ok (.goto 9, 3) := by decide +kernel
theorem dX5_excess_225 : decode cX5_excess 225 = .ok (.aload_n 0, 1) := by decide +kernel
theorem dX5_excess_226 : decode cX5_excess 226 = .ok (.getfield 21, 3) := by decide +kernel
theorem dX5_excess_229 : decode cX5_excess 229 = .ok (.iload_n 2, 1) := by decide +kernel
theorem dX5_excess_230 : decode cX5_excess 230 = .ok (.laload, 1) := by decide +kernel
theorem dX5_excess_231 : decode cX5_excess 231 = .ok (.lastore, 1) := by decide +kernel
theorem dX5_excess_232 : decode cX5_excess 232 = .ok (.aload_n 0, 1) := by decide +kernel
theorem dX5_excess_233 : decode cX5_excess 233 = .ok (.getfield 17, 3) := by decide +kernel
theorem dX5_excess_236 : decode cX5_excess 236 = .ok (.iload_n 2, 1) := by decide +kernel
theorem dX5_excess_237 : decode cX5_excess 237 = .ok (.lload 5, 2) := by decide +kernel
theorem dX5_excess_239 : decode cX5_excess 239 = .ok (.lastore, 1) := by decide +kernel
theorem dX5_excess_240 : decode cX5_excess 240 = .ok (.aload_n 0, 1) := by decide +kernel
theorem dX5_excess_241 : decode cX5_excess 241 = .ok (.aload_n 0, 1) := by decide +kernel
theorem dX5_excess_242 : decode cX5_excess 242 = .ok (.getfield 135, 3) := by decide +kernel
theorem dX5_excess_245 : decode cX5_excess 245 = .ok (.lload 5, 2) := by decide +kernel
theorem dX5_excess_247 : decode cX5_excess 247 = .ok (.lcmp, 1) := by decide +kernel
theorem dX5_excess_248 : decode cX5_excess 248 = .ok (.ifCond .ge 8, 3) := by decide +kernel
theorem dX5_excess_251 : decode cX5_excess 251 = .ok (.lload 5, 2) := by decide +kernel
theorem dX5_excess_253 : decode cX5_excess 253 = .ok (.goto 7, 3) := by decide +kernel
theorem dX5_excess_256 : decode cX5_excess 256 = .ok (.aload_n 0, 1) := by decide +kernel
theorem dX5_excess_257 : decode cX5_excess 257 = .ok (.getfield 135, 3) := by decide +kernel
theorem dX5_excess_260 : decode cX5_excess 260 = .ok (.putfield 135, 3) := by decide +kernel
theorem dX5_excess_263 : decode cX5_excess 263 = .ok (.aload_n 0, 1) := by decide +kernel
theorem dX5_excess_264 : decode cX5_excess 264 = .ok (.iload_n 1, 1) := by decide +kernel
theorem dX5_excess_265 : decode cX5_excess 265 = .ok (.iconst 2, 1) := by decide +kernel
theorem dX5_excess_266 : decode cX5_excess 266 = .ok (.invokevirtual 171, 3) := by decide +kernel
theorem dX5_excess_269 : decode cX5_excess 269 = .ok (.istore 7, 2) := by decide +kernel
theorem dX5_excess_271 : decode cX5_excess 271 = .ok (.aload_n 0, 1) := by decide +kernel
theorem dX5_excess_272 : decode cX5_excess 272 = .ok (.getfield 51, 3) := by decide +kernel
theorem dX5_excess_275 : decode cX5_excess 275 = .ok (.iload_n 1, 1) := by decide +kernel
theorem dX5_excess_276 : decode cX5_excess 276 = .ok (.dup2, 1) := by decide +kernel
theorem dX5_excess_277 : decode cX5_excess 277 = .ok (.iaload, 1) := by decide +kernel
theorem dX5_excess_278 : decode cX5_excess 278 = .ok (.aload_n 0, 1) := by decide +kernel
theorem dX5_excess_279 : decode cX5_excess 279 = .ok (.getfield 88, 3) := by decide +kernel
theorem dX5_excess_282 : decode cX5_excess 282 = .ok (.iload 7, 2) := by decide +kernel
theorem dX5_excess_284 : decode cX5_excess 284 = .ok (.iaload, 1) := by decide +kernel
theorem dX5_excess_285 : decode cX5_excess 285 = .ok (.iadd, 1) := by decide +kernel
theorem dX5_excess_286 : decode cX5_excess 286 = .ok (.iastore, 1) := by decide +kernel
theorem dX5_excess_287 : decode cX5_excess 287 = .ok (.return_, 1) := by decide +kernel
theorem dX5_goes_0 : decode cX5_goes 0 = .ok (.aload_n 0, 1) := by decide +kernel
theorem dX5_goes_1 : decode cX5_goes 1 = .ok (.getfield 36, 3) := by decide +kernel
theorem dX5_goes_4 : decode cX5_goes 4 = .ok (.iload_n 1, 1) := by decide +kernel
theorem dX5_goes_5 : decode cX5_goes 5 = .ok (.iaload, 1) := by decide +kernel
theorem dX5_goes_6 : decode cX5_goes 6 = .ok (.istore_n 3, 1) := by decide +kernel
theorem dX5_goes_7 : decode cX5_goes 7 = .ok (.aload_n 0, 1) := by decide +kernel
theorem dX5_goes_8 : decode cX5_goes 8 = .ok (.getfield 36, 3) := by decide +kernel
theorem dX5_goes_11 : decode cX5_goes 11 = .ok (.iload_n 1, 1) := by decide +kernel
theorem dX5_goes_12 : decode cX5_goes 12 = .ok (.aload_n 0, 1) := by decide +kernel
theorem dX5_goes_13 : decode cX5_goes 13 = .ok (.getfield 103, 3) := by decide +kernel
theorem dX5_goes_16 : decode cX5_goes 16 = .ok (.iload_n 3, 1) := by decide +kernel
theorem dX5_goes_17 : decode cX5_goes 17 = .ok (.iaload, 1) := by decide +kernel
theorem dX5_goes_18 : decode cX5_goes 18 = .ok (.iastore, 1) := by decide +kernel
theorem dX5_goes_19 : decode cX5_goes 19 = .ok (.aload_n 0, 1) := by decide +kernel
theorem dX5_goes_20 : decode cX5_goes 20 = .ok (.getfield 42, 3) := by decide +kernel
theorem dX5_goes_23 : decode cX5_goes 23 = .ok (.iload_n 1, 1) := by decide +kernel
theorem dX5_goes_24 : decode cX5_goes 24 = .ok (.dup2, 1) := by decide +kernel
theorem dX5_goes_25 : decode cX5_goes 25 = .ok (.iaload, 1) := by decide +kernel
theorem dX5_goes_26 : decode cX5_goes 26 = .ok (.iconst 1, 1) := by decide +kernel
theorem dX5_goes_27 : decode cX5_goes 27 = .ok (.isub, 1) := by decide +kernel
theorem dX5_goes_28 : decode cX5_goes 28 = .ok (.iastore, 1) := by decide +kernel
theorem dX5_goes_29 : decode cX5_goes 29 = .ok (.aload_n 0, 1) := by decide +kernel
theorem dX5_goes_30 : decode cX5_goes 30 = .ok (.getfield 45, 3) := by decide +kernel
theorem dX5_goes_33 : decode cX5_goes 33 = .ok (.iload_n 1, 1) := by decide +kernel
theorem dX5_goes_34 : decode cX5_goes 34 = .ok (.dup2, 1) := by decide +kernel
theorem dX5_goes_35 : decode cX5_goes 35 = .ok (.iaload, 1) := by decide +kernel
theorem dX5_goes_36 : decode cX5_goes 36 = .ok (.aload_n 0, 1) := by decide +kernel
theorem dX5_goes_37 : decode cX5_goes 37 = .ok (.getfield 88, 3) := by decide +kernel
theorem dX5_goes_40 : decode cX5_goes 40 = .ok (.iload_n 3, 1) := by decide +kernel
theorem dX5_goes_41 : decode cX5_goes 41 = .ok (.iaload, 1) := by decide +kernel
theorem dX5_goes_42 : decode cX5_goes 42 = .ok (.isub, 1) := by decide +kernel
theorem dX5_goes_43 : decode cX5_goes 43 = .ok (.iastore, 1) := by decide +kernel
theorem dX5_goes_44 : decode cX5_goes 44 = .ok (.aload_n 0, 1) := by decide +kernel
theorem dX5_goes_45 : decode cX5_goes 45 = .ok (.getfield 94, 3) := by decide +kernel
theorem dX5_goes_48 : decode cX5_goes 48 = .ok (.iload_n 3, 1) := by decide +kernel
theorem dX5_goes_49 : decode cX5_goes 49 = .ok (.aload_n 0, 1) := by decide +kernel
theorem dX5_goes_50 : decode cX5_goes 50 = .ok (.getfield 139, 3) := by decide +kernel
theorem dX5_goes_53 : decode cX5_goes 53 = .ok (.iastore, 1) := by decide +kernel
theorem dX5_goes_54 : decode cX5_goes 54 = .ok (.aload_n 0, 1) := by decide +kernel
theorem dX5_goes_55 : decode cX5_goes 55 = .ok (.getfield 97, 3) := by decide +kernel
theorem dX5_goes_58 : decode cX5_goes 58 = .ok (.iload_n 3, 1) := by decide +kernel
theorem dX5_goes_59 : decode cX5_goes 59 = .ok (.iload_n 2, 1) := by decide +kernel
theorem dX5_goes_60 : decode cX5_goes 60 = .ok (.iastore, 1) := by decide +kernel
theorem dX5_goes_61 : decode cX5_goes 61 = .ok (.aload_n 0, 1) := by decide +kernel
theorem dX5_goes_62 : decode cX5_goes 62 = .ok (.getfield 106, 3) := by decide +kernel
theorem dX5_goes_65 : decode cX5_goes 65 = .ok (.aload_n 0, 1) := by decide +kernel
theorem dX5_goes_66 : decode cX5_goes 66 = .ok (.getfield 147, 3) := by decide +kernel
theorem dX5_goes_69 : decode cX5_goes 69 = .ok (.iload_n 3, 1) := by decide +kernel
theorem dX5_goes_70 : decode cX5_goes 70 = .ok (.iastore, 1) := by decide +kernel
theorem dX5_goes_71 : decode cX5_goes 71 = .ok (.aload_n 0, 1) := by decide +kernel
theorem dX5_goes_72 : decode cX5_goes 72 = .ok (.dup, 1) := by decide +kernel
theorem dX5_goes_73 : decode cX5_goes 73 = .ok (.getfield 147, 3) := by decide +kernel
theorem dX5_goes_76 : decode cX5_goes 76 = .ok (.iconst 1, 1) := by decide +kernel
theorem dX5_goes_77 : decode cX5_goes 77 = .ok (.iadd, 1) := by decide +kernel
theorem dX5_goes_78 : decode cX5_goes 78 = .ok (.putfield 147, 3) := by decide +kernel
theorem dX5_goes_81 : decode cX5_goes 81 = .ok (.aload_n 0, 1) := by decide +kernel
theorem dX5_goes_82 : decode cX5_goes 82 = .ok (.iload_n 3, 1) := by decide +kernel
theorem dX5_goes_83 : decode cX5_goes 83 = .ok (.putfield 9, 3) := by decide +kernel
theorem dX5_goes_86 : decode cX5_goes 86 = .ok (.aload_n 0, 1) := by decide +kernel
theorem dX5_goes_87 : decode cX5_goes 87 = .ok (.aload_n 0, 1) := by decide +kernel
theorem dX5_goes_88 : decode cX5_goes 88 = .ok (.getfield 88, 3) := by decide +kernel
theorem dX5_goes_91 : decode cX5_goes 91 = .ok (.iload_n 3, 1) := by decide +kernel
theorem dX5_goes_92 : decode cX5_goes 92 = .ok (.iaload, 1) := by decide +kernel
theorem dX5_goes_93 : decode cX5_goes 93 = .ok (.putfield 142, 3) := by decide +kernel
theorem dX5_goes_96 : decode cX5_goes 96 = .ok (.aload_n 0, 1) := by decide +kernel
theorem dX5_goes_97 : decode cX5_goes 97 = .ok (.getfield 82, 3) := by decide +kernel
theorem dX5_goes_100 : decode cX5_goes 100 = .ok (.iload_n 1, 1) := by decide +kernel
theorem dX5_goes_101 : decode cX5_goes 101 = .ok (.dup2, 1) := by decide +kernel
theorem dX5_goes_102 : decode cX5_goes 102 = .ok (.laload, 1) := by decide +kernel
theorem dX5_goes_103 : decode cX5_goes 103 = .ok (.ldc2_w 115, 3) := by decide +kernel
theorem dX5_goes_106 : decode cX5_goes 106 = .ok (.aload_n 0, 1) := by decide +kernel
theorem dX5_goes_107 : decode cX5_goes 107 = .ok (.getfield 88, 3) := by decide +kernel
theorem dX5_goes_110 : decode cX5_goes 110 = .ok (.iload_n 3, 1) := by decide +kernel
theorem dX5_goes_111 : decode cX5_goes 111 = .ok (.iaload, 1) := by decide +kernel
theorem dX5_goes_112 : decode cX5_goes 112 = .ok (.i2l, 1) := by decide +kernel
theorem dX5_goes_113 : decode cX5_goes 113 = .ok (.lmul, 1) := by decide +kernel
theorem dX5_goes_114 : decode cX5_goes 114 = .ok (.lsub, 1) := by decide +kernel
theorem dX5_goes_115 : decode cX5_goes 115 = .ok (.lastore, 1) := by decide +kernel
theorem dX5_goes_116 : decode cX5_goes 116 = .ok (.aload_n 0, 1) := by decide +kernel
theorem dX5_goes_117 : decode cX5_goes 117 = .ok (.getfield 82, 3) := by decide +kernel
theorem dX5_goes_120 : decode cX5_goes 120 = .ok (.bipush 8, 2) := by decide +kernel
theorem dX5_goes_122 : decode cX5_goes 122 = .ok (.aload_n 0, 1) := by decide +kernel
theorem dX5_goes_123 : decode cX5_goes 123 = .ok (.getfield 24, 3) := by decide +kernel
theorem dX5_goes_126 : decode cX5_goes 126 = .ok (.iload_n 1, 1) := by decide +kernel
theorem dX5_goes_127 : decode cX5_goes 127 = .ok (.iaload, 1) := by decide +kernel
theorem dX5_goes_128 : decode cX5_goes 128 = .ok (.iadd, 1) := by decide +kernel
theorem dX5_goes_129 : decode cX5_goes 129 = .ok (.dup2, 1) := by decide +kernel
theorem dX5_goes_130 : decode cX5_goes 130 = .ok (.laload, 1) := by decide +kernel
theorem dX5_goes_131 : decode cX5_goes 131 = .ok (.ldc2_w 115, 3) := by decide +kernel
theorem dX5_goes_134 : decode cX5_goes 134 = .ok (.aload_n 0, 1) := by decide +kernel
theorem dX5_goes_135 : decode cX5_goes 135 = .ok (.getfield 88, 3) := by decide +kernel
theorem dX5_goes_138 : decode cX5_goes 138 = .ok (.iload_n 3, 1) := by decide +kernel
theorem dX5_goes_139 : decode cX5_goes 139 = .ok (.iaload, 1) := by decide +kernel
theorem dX5_goes_140 : decode cX5_goes 140 = .ok (.i2l, 1) := by decide +kernel
theorem dX5_goes_141 : decode cX5_goes 141 = .ok (.lmul, 1) := by decide +kernel
theorem dX5_goes_142 : decode cX5_goes 142 = .ok (.lsub, 1) := by decide +kernel
theorem dX5_goes_143 : decode cX5_goes 143 = .ok (.lastore, 1) := by decide +kernel
theorem dX5_goes_144 : decode cX5_goes 144 = .ok (.iload_n 3, 1) := by decide +kernel
theorem dX5_goes_145 : decode cX5_goes 145 = .ok (.ireturn, 1) := by decide +kernel
theorem dX5_now_0 : decode cX5_now 0 = .ok (.aload_n 0, 1) := by decide +kernel
theorem dX5_now_1 : decode cX5_now 1 = .ok (.getfield 139, 3) := by decide +kernel
theorem dX5_now_4 : decode cX5_now 4 = .ok (.ireturn, 1) := by decide +kernel
set_option maxRecDepth 20000 in
theorem ggX5_packet_X5_in : GoodIn wsX5_packet wsX5_in := goodIn_r _ [12] (by decide +kernel) (by decide +kernel)
set_option maxRecDepth 20000 in
theorem gX5_packet_X5_in : GoodIn wsX5_packet (va_wsS RX5 120 yX5_in wsX5_in) := goodIn_app (goodIn_of _ (by decide +kernel)) ggX5_packet_X5_in
theorem dX5_packet_0 : decode cX5_packet 0 = .ok (.iload_n 1, 1) := by decide +kernel
theorem dX5_packet_1 : decode cX5_packet 1 = .ok (.iconst 0, 1) := by decide +kernel
theorem dX5_packet_2 : decode cX5_packet 2 = .ok (.aload_n 0, 1) := by decide +kernel
theorem dX5_packet_3 : decode cX5_packet 3 = .ok (.getfield 132, 3) := by decide +kernel
theorem dX5_packet_6 : decode cX5_packet 6 = .ok (.iconst 1, 1) := by decide +kernel
theorem dX5_packet_7 : decode cX5_packet 7 = .ok (.isub, 1) := by decide +kernel
theorem dX5_packet_8 : decode cX5_packet 8 = .ok (.invokestatic 120, 3) := by decide +kernel
theorem dX5_packet_11 : decode cX5_packet 11 = .ok (.ifCond .ne 5, 3) := by decide +kernel
theorem dX5_packet_14 : decode cX5_packet 14 = .ok (.iconst (-1), 1) := by decide +kernel
theorem dX5_packet_15 : decode cX5_packet 15 = .ok (.ireturn, 1) := by decide +kernel
theorem dX5_packet_16 : decode cX5_packet 16 = .ok (.iload_n 2, 1) := by decide +kernel
theorem dX5_packet_17 : decode cX5_packet 17 = .ok (.tableswitch 100 0 6 #[43, 50, 57, 64, 71, 78, 85], 43) := by decide +kernel
theorem dX5_packet_60 : decode cX5_packet 60 = .ok (.aload_n 0, 1) := by decide +kernel
theorem dX5_packet_61 : decode cX5_packet 61 = .ok (.getfield 85, 3) := by decide +kernel
theorem dX5_packet_64 : decode cX5_packet 64 = .ok (.iload_n 1, 1) := by decide +kernel
theorem dX5_packet_65 : decode cX5_packet 65 = .ok (.iaload, 1) := by decide +kernel
theorem dX5_packet_66 : decode cX5_packet 66 = .ok (.ireturn, 1) := by decide +kernel
theorem dX5_packet_67 : decode cX5_packet 67 = .ok (.aload_n 0, 1) := by decide +kernel
theorem dX5_packet_68 : decode cX5_packet 68 = .ok (.getfield 88, 3) := by decide +kernel
theorem dX5_packet_71 : decode cX5_packet 71 = .ok (.iload_n 1, 1) := by decide +kernel
theorem dX5_packet_72 : decode cX5_packet 72 = .ok (.iaload, 1) := by decide +kernel
theorem dX5_packet_73 : decode cX5_packet 73 = .ok (.ireturn, 1) := by decide +kernel
theorem dX5_packet_74 : decode cX5_packet 74 = .ok (.aload_n 0, 1) := by decide +kernel
theorem dX5_packet_75 : decode cX5_packet 75 = .ok (.getfield 91, 3) := by decide +kernel
theorem dX5_packet_78 : decode cX5_packet 78 = .ok (.iload_n 1, 1) := by decide +kernel
theorem dX5_packet_79 : decode cX5_packet 79 = .ok (.iaload, 1) := by decide +kernel
theorem dX5_packet_80 : decode cX5_packet 80 = .ok (.ireturn, 1) := by decide +kernel
theorem dX5_packet_81 : decode cX5_packet 81 = .ok (.aload_n 0, 1) := by decide +kernel
theorem dX5_packet_82 : decode cX5_packet 82 = .ok (.getfield 94, 3) := by decide +kernel
theorem dX5_packet_85 : decode cX5_packet 85 = .ok (.iload_n 1, 1) := by decide +kernel
theorem dX5_packet_86 : decode cX5_packet 86 = .ok (.iaload, 1) := by decide +kernel
theorem dX5_packet_87 : decode cX5_packet 87 = .ok (.ireturn, 1) := by decide +kernel
theorem dX5_packet_88 : decode cX5_packet 88 = .ok (.aload_n 0, 1) := by decide +kernel
theorem dX5_packet_89 : decode cX5_packet 89 = .ok (.getfield 97, 3) := by decide +kernel
theorem dX5_packet_92 : decode cX5_packet 92 = .ok (.iload_n 1, 1) := by decide +kernel
theorem dX5_packet_93 : decode cX5_packet 93 = .ok (.iaload, 1) := by decide +kernel
theorem dX5_packet_94 : decode cX5_packet 94 = .ok (.ireturn, 1) := by decide +kernel
theorem dX5_packet_95 : decode cX5_packet 95 = .ok (.aload_n 0, 1) := by decide +kernel
theorem dX5_packet_96 : decode cX5_packet 96 = .ok (.getfield 100, 3) := by decide +kernel
theorem dX5_packet_99 : decode cX5_packet 99 = .ok (.iload_n 1, 1) := by decide +kernel
theorem dX5_packet_100 : decode cX5_packet 100 = .ok (.iaload, 1) := by decide +kernel
theorem dX5_packet_101 : decode cX5_packet 101 = .ok (.ireturn, 1) := by decide +kernel
theorem dX5_packet_102 : decode cX5_packet 102 = .ok (.aload_n 0, 1) := by decide +kernel
theorem dX5_packet_103 : decode cX5_packet 103 = .ok (.getfield 109, 3) := by decide +kernel
theorem dX5_packet_106 : decode cX5_packet 106 = .ok (.iload_n 1, 1) := by decide +kernel
theorem dX5_packet_107 : decode cX5_packet 107 = .ok (.baload, 1) := by decide +kernel
theorem dX5_packet_108 : decode cX5_packet 108 = .ok (.ifCond .eq 7, 3) := by decide +kernel
theorem dX5_packet_111 : decode cX5_packet 111 = .ok (.iconst 1, 1) := by decide +kernel
theorem dX5_packet_112 : decode cX5_packet 112 = .ok (.goto 4, 3) := by decide +kernel
theorem dX5_packet_115 : decode cX5_packet 115 = .ok (.iconst 0, 1) := by decide +kernel
theorem dX5_packet_116 : decode cX5_packet 116 = .ok (.ireturn, 1) := by decide +kernel
theorem dX5_packet_117 : decode cX5_packet 117 = .ok (.iconst (-1), 1) := by decide +kernel
theorem dX5_packet_118 : decode cX5_packet 118 = .ok (.ireturn, 1) := by decide +kernel
set_option maxRecDepth 20000 in
theorem ggX5_sent_X5_in : GoodIn wsX5_sent wsX5_in := goodIn_r _ [6] (by decide +kernel) (by decide +kernel)
set_option maxRecDepth 20000 in
theorem gX5_sent_X5_in : GoodIn wsX5_sent (va_wsS RX5 120 yX5_in wsX5_in) := goodIn_app (goodIn_of _ (by decide +kernel)) ggX5_sent_X5_in
theorem dX5_sent_0 : decode cX5_sent 0 = .ok (.iload_n 1, 1) := by decide +kernel
theorem dX5_sent_1 : decode cX5_sent 1 = .ok (.iconst 0, 1) := by decide +kernel
theorem dX5_sent_2 : decode cX5_sent 2 = .ok (.aload_n 0, 1) := by decide +kernel
theorem dX5_sent_3 : decode cX5_sent 3 = .ok (.getfield 147, 3) := by decide +kernel
theorem dX5_sent_6 : decode cX5_sent 6 = .ok (.iconst 1, 1) := by decide +kernel
theorem dX5_sent_7 : decode cX5_sent 7 = .ok (.isub, 1) := by decide +kernel
theorem dX5_sent_8 : decode cX5_sent 8 = .ok (.invokestatic 120, 3) := by decide +kernel
theorem dX5_sent_11 : decode cX5_sent 11 = .ok (.ifCond .eq 12, 3) := by decide +kernel
theorem dX5_sent_14 : decode cX5_sent 14 = .ok (.aload_n 0, 1) := by decide +kernel
theorem dX5_sent_15 : decode cX5_sent 15 = .ok (.getfield 106, 3) := by decide +kernel
theorem dX5_sent_18 : decode cX5_sent 18 = .ok (.iload_n 1, 1) := by decide +kernel
theorem dX5_sent_19 : decode cX5_sent 19 = .ok (.iaload, 1) := by decide +kernel
theorem dX5_sent_20 : decode cX5_sent 20 = .ok (.goto 4, 3) := by decide +kernel
theorem dX5_sent_23 : decode cX5_sent 23 = .ok (.iconst (-1), 1) := by decide +kernel
theorem dX5_sent_24 : decode cX5_sent 24 = .ok (.ireturn, 1) := by decide +kernel
set_option maxRecDepth 20000 in
theorem ggX5_about_X5_in : GoodIn wsX5_about wsX5_in := goodIn_r _ [13] (by decide +kernel) (by decide +kernel)
set_option maxRecDepth 20000 in
theorem gX5_about_X5_in : GoodIn wsX5_about (va_wsS RX5 120 yX5_in wsX5_in) := goodIn_app (goodIn_of _ (by decide +kernel)) ggX5_about_X5_in
theorem dX5_about_0 : decode cX5_about 0 = .ok (.iload_n 1, 1) := by decide +kernel
theorem dX5_about_1 : decode cX5_about 1 = .ok (.iconst 0, 1) := by decide +kernel
theorem dX5_about_2 : decode cX5_about 2 = .ok (.aload_n 0, 1) := by decide +kernel
theorem dX5_about_3 : decode cX5_about 3 = .ok (.getfield 128, 3) := by decide +kernel
theorem dX5_about_6 : decode cX5_about 6 = .ok (.iconst 1, 1) := by decide +kernel
theorem dX5_about_7 : decode cX5_about 7 = .ok (.isub, 1) := by decide +kernel
theorem dX5_about_8 : decode cX5_about 8 = .ok (.invokestatic 120, 3) := by decide +kernel
theorem dX5_about_11 : decode cX5_about 11 = .ok (.ifCond .ne 5, 3) := by decide +kernel
theorem dX5_about_14 : decode cX5_about 14 = .ok (.iconst (-1), 1) := by decide +kernel
theorem dX5_about_15 : decode cX5_about 15 = .ok (.ireturn, 1) := by decide +kernel
theorem dX5_about_16 : decode cX5_about 16 = .ok (.iload_n 2, 1) := by decide +kernel
theorem dX5_about_17 : decode cX5_about 17 = .ok (.tableswitch 103 0 7 #[47, 54, 61, 68, 75, 82, 89, 96], 47) := by decide +kernel
theorem dX5_about_64 : decode cX5_about 64 = .ok (.aload_n 0, 1) := by decide +kernel
theorem dX5_about_65 : decode cX5_about 65 = .ok (.getfield 42, 3) := by decide +kernel
theorem dX5_about_68 : decode cX5_about 68 = .ok (.iload_n 1, 1) := by decide +kernel
theorem dX5_about_69 : decode cX5_about 69 = .ok (.iaload, 1) := by decide +kernel
theorem dX5_about_70 : decode cX5_about 70 = .ok (.ireturn, 1) := by decide +kernel
theorem dX5_about_71 : decode cX5_about 71 = .ok (.aload_n 0, 1) := by decide +kernel
theorem dX5_about_72 : decode cX5_about 72 = .ok (.getfield 45, 3) := by decide +kernel
theorem dX5_about_75 : decode cX5_about 75 = .ok (.iload_n 1, 1) := by decide +kernel
theorem dX5_about_76 : decode cX5_about 76 = .ok (.iaload, 1) := by decide +kernel
theorem dX5_about_77 : decode cX5_about 77 = .ok (.ireturn, 1) := by decide +kernel
theorem dX5_about_78 : decode cX5_about 78 = .ok (.aload_n 0, 1) := by decide +kernel
theorem dX5_about_79 : decode cX5_about 79 = .ok (.getfield 48, 3) := by decide +kernel
theorem dX5_about_82 : decode cX5_about 82 = .ok (.iload_n 1, 1) := by decide +kernel
theorem dX5_about_83 : decode cX5_about 83 = .ok (.iaload, 1) := by decide +kernel
theorem dX5_about_84 : decode cX5_about 84 = .ok (.ireturn, 1) := by decide +kernel
theorem dX5_about_85 : decode cX5_about 85 = .ok (.aload_n 0, 1) := by decide +kernel
theorem dX5_about_86 : decode cX5_about 86 = .ok (.getfield 51, 3) := by decide +kernel
theorem dX5_about_89 : decode cX5_about 89 = .ok (.iload_n 1, 1) := by decide +kernel
theorem dX5_about_90 : decode cX5_about 90 = .ok (.iaload, 1) := by decide +kernel
theorem dX5_about_91 : decode cX5_about 91 = .ok (.ireturn, 1) := by decide +kernel
theorem dX5_about_92 : decode cX5_about 92 = .ok (.aload_n 0, 1) := by decide +kernel
theorem dX5_about_93 : decode cX5_about 93 = .ok (.getfield 54, 3) := by decide +kernel
theorem dX5_about_96 : decode cX5_about 96 = .ok (.iload_n 1, 1) := by decide +kernel
theorem dX5_about_97 : decode cX5_about 97 = .ok (.iaload, 1) := by decide +kernel
theorem dX5_about_98 : decode cX5_about 98 = .ok (.ireturn, 1) := by decide +kernel
theorem dX5_about_99 : decode cX5_about 99 = .ok (.aload_n 0, 1) := by decide +kernel
theorem dX5_about_100 : decode cX5_about 100 = .ok (.getfield 57, 3) := by decide +kernel
theorem dX5_about_103 : decode cX5_about 103 = .ok (.iload_n 1, 1) := by decide +kernel
theorem dX5_about_104 : decode cX5_about 104 = .ok (.iaload, 1) := by decide +kernel
theorem dX5_about_105 : decode cX5_about 105 = .ok (.ireturn, 1) := by decide +kernel
theorem dX5_about_106 : decode cX5_about 106 = .ok (.aload_n 0, 1) := by decide +kernel
theorem dX5_about_107 : decode cX5_about 107 = .ok (.getfield 60, 3) := by decide +kernel
theorem dX5_about_110 : decode cX5_about 110 = .ok (.iload_n 1, 1) := by decide +kernel
theorem dX5_about_111 : decode cX5_about 111 = .ok (.iaload, 1) := by decide +kernel
theorem dX5_about_112 : decode cX5_about 112 = .ok (.ireturn, 1) := by decide +kernel
theorem dX5_about_113 : decode cX5_about 113 = .ok (.aload_n 0, 1) := by decide +kernel
theorem dX5_about_114 : decode cX5_about 114 = .ok (.getfield 63, 3) := by decide +kernel
theorem dX5_about_117 : decode cX5_about 117 = .ok (.iload_n 1, 1) := by decide +kernel
theorem dX5_about_118 : decode cX5_about 118 = .ok (.iaload, 1) := by decide +kernel
theorem dX5_about_119 : decode cX5_about 119 = .ok (.ireturn, 1) := by decide +kernel
theorem dX5_about_120 : decode cX5_about 120 = .ok (.iconst (-1), 1) := by decide +kernel
theorem dX5_about_121 : decode cX5_about 121 = .ok (.ireturn, 1) := by decide +kernel
set_option maxRecDepth 20000 in
theorem ggX5_tokens_X5_in : GoodIn wsX5_tokens wsX5_in := goodIn_r _ [7] (by decide +kernel) (by decide +kernel)
set_option maxRecDepth 20000 in
theorem gX5_tokens_X5_in : GoodIn wsX5_tokens (va_wsS RX5 120 yX5_in wsX5_in) := goodIn_app (goodIn_of _ (by decide +kernel)) ggX5_tokens_X5_in
theorem dX5_tokens_0 : decode cX5_tokens 0 = .ok (.iload_n 2, 1) := by decide +kernel
theorem dX5_tokens_1 : decode cX5_tokens 1 = .ok (.iconst 1, 1) := by decide +kernel
theorem dX5_tokens_2 : decode cX5_tokens 2 = .ok (.if_icmp .ne 31, 3) := by decide +kernel
theorem dX5_tokens_5 : decode cX5_tokens 5 = .ok (.iload_n 1, 1) := by decide +kernel
theorem dX5_tokens_6 : decode cX5_tokens 6 = .ok (.iconst 0, 1) := by decide +kernel
theorem dX5_tokens_7 : decode cX5_tokens 7 = .ok (.aload_n 0, 1) := by decide +kernel
theorem dX5_tokens_8 : decode cX5_tokens 8 = .ok (.getfield 117, 3) := by decide +kernel
theorem dX5_tokens_11 : decode cX5_tokens 11 = .ok (.iconst 1, 1) := by decide +kernel
theorem dX5_tokens_12 : decode cX5_tokens 12 = .ok (.isub, 1) := by decide +kernel
theorem dX5_tokens_13 : decode cX5_tokens 13 = .ok (.invokestatic 120, 3) := by decide +kernel
theorem dX5_tokens_16 : decode cX5_tokens 16 = .ok (.ifCond .eq 15, 3) := by decide +kernel
theorem dX5_tokens_19 : decode cX5_tokens 19 = .ok (.aload_n 0, 1) := by decide +kernel
theorem dX5_tokens_20 : decode cX5_tokens 20 = .ok (.getfield 82, 3) := by decide +kernel
theorem dX5_tokens_23 : decode cX5_tokens 23 = .ok (.bipush 8, 2) := by decide +kernel
theorem dX5_tokens_25 : decode cX5_tokens 25 = .ok (.iload_n 1, 1) := by decide +kernel
theorem dX5_tokens_26 : decode cX5_tokens 26 = .ok (.iadd, 1) := by decide +kernel
theorem dX5_tokens_27 : decode cX5_tokens 27 = .ok (.laload, 1) := by decide +kernel
theorem dX5_tokens_28 : decode cX5_tokens 28 = .ok (.goto 4, 3) := by decide +kernel
theorem dX5_tokens_31 : decode cX5_tokens 31 = .ok (.lconst 0, 1) := by decide +kernel
theorem dX5_tokens_32 : decode cX5_tokens 32 = .ok (.lreturn, 1) := by decide +kernel
theorem dX5_tokens_33 : decode cX5_tokens 33 = .ok (.iload_n 1, 1) := by decide +kernel
theorem dX5_tokens_34 : decode cX5_tokens 34 = .ok (.iconst 0, 1) := by decide +kernel
theorem dX5_tokens_35 : decode cX5_tokens 35 = .ok (.aload_n 0, 1) := by decide +kernel
theorem dX5_tokens_36 : decode cX5_tokens 36 = .ok (.getfield 128, 3) := by decide +kernel
theorem dX5_tokens_39 : decode cX5_tokens 39 = .ok (.iconst 1, 1) := by decide +kernel
theorem dX5_tokens_40 : decode cX5_tokens 40 = .ok (.isub, 1) := by decide +kernel
theorem dX5_tokens_41 : decode cX5_tokens 41 = .ok (.invokestatic 120, 3) := by decide +kernel
theorem dX5_tokens_44 : decode cX5_tokens 44 = .ok (.ifCond .ne 5, 3) := by decide +kernel
theorem dX5_tokens_47 : decode cX5_tokens 47 = .ok (.lconst 0, 1) := by decide +kernel
theorem dX5_tokens_48 : decode cX5_tokens 48 = .ok (.lreturn, 1) := by decide +kernel
theorem dX5_tokens_49 : decode cX5_tokens 49 = .ok (.iload_n 2, 1) := by decide +kernel
theorem dX5_tokens_50 : decode cX5_tokens 50 = .ok (.ifCond .ne 12, 3) := by decide +kernel
theorem dX5_tokens_53 : decode cX5_tokens 53 = .ok (.aload_n 0, 1) := by decide +kernel
theorem dX5_tokens_54 : decode cX5_tokens 54 = .ok (.getfield 82, 3) := by decide +kernel
theorem dX5_tokens_57 : decode cX5_tokens 57 = .ok (.iload_n 1, 1) := by decide +kernel
theorem dX5_tokens_58 : decode cX5_tokens 58 = .ok (.laload, 1) := by decide +kernel
theorem dX5_tokens_59 : decode cX5_tokens 59 = .ok (.goto 21, 3) := by decide +kernel
theorem dX5_tokens_62 : decode cX5_tokens 62 = .ok (.iload_n 2, 1) := by decide +kernel
theorem dX5_tokens_63 : decode cX5_tokens 63 = .ok (.iconst 2, 1) := by decide +kernel
theorem dX5_tokens_64 : decode cX5_tokens 64 = .ok (.if_icmp .ne 15, 3) := by decide +kernel
theorem dX5_tokens_67 : decode cX5_tokens 67 = .ok (.aload_n 0, 1) := by decide +kernel
theorem dX5_tokens_68 : decode cX5_tokens 68 = .ok (.getfield 82, 3) := by decide +kernel
theorem dX5_tokens_71 : decode cX5_tokens 71 = .ok (.bipush 12, 2) := by decide +kernel
theorem dX5_tokens_73 : decode cX5_tokens 73 = .ok (.iload_n 1, 1) := by decide +kernel
theorem dX5_tokens_74 : decode cX5_tokens 74 = .ok (.iadd, 1) := by decide +kernel
theorem dX5_tokens_75 : decode cX5_tokens 75 = .ok (.laload, 1) := by decide +kernel
theorem dX5_tokens_76 : decode cX5_tokens 76 = .ok (.goto 4, 3) := by decide +kernel
theorem dX5_tokens_79 : decode cX5_tokens 79 = .ok (.lconst 0, 1) := by decide +kernel
theorem dX5_tokens_80 : decode cX5_tokens 80 = .ok (.lreturn, 1) := by decide +kernel
set_option maxRecDepth 20000 in
theorem ggX5_tag_X5_in : GoodIn wsX5_tag wsX5_in := goodIn_r _ [10] (by decide +kernel) (by decide +kernel)
set_option maxRecDepth 20000 in
theorem gX5_tag_X5_in : GoodIn wsX5_tag (va_wsS RX5 120 yX5_in wsX5_in) := goodIn_app (goodIn_of _ (by decide +kernel)) ggX5_tag_X5_in
theorem dX5_tag_0 : decode cX5_tag 0 = .ok (.iload_n 2, 1) := by decide +kernel
theorem dX5_tag_1 : decode cX5_tag 1 = .ok (.iconst 3, 1) := by decide +kernel
theorem dX5_tag_2 : decode cX5_tag 2 = .ok (.if_icmp .ne 8, 3) := by decide +kernel
theorem dX5_tag_5 : decode cX5_tag 5 = .ok (.aload_n 0, 1) := by decide +kernel
theorem dX5_tag_6 : decode cX5_tag 6 = .ok (.getfield 135, 3) := by decide +kernel
theorem dX5_tag_9 : decode cX5_tag 9 = .ok (.lreturn, 1) := by decide +kernel
theorem dX5_tag_10 : decode cX5_tag 10 = .ok (.iload_n 2, 1) := by decide +kernel
theorem dX5_tag_11 : decode cX5_tag 11 = .ok (.ifCond .ne 28, 3) := by decide +kernel
theorem dX5_tag_14 : decode cX5_tag 14 = .ok (.iload_n 1, 1) := by decide +kernel
theorem dX5_tag_15 : decode cX5_tag 15 = .ok (.iconst 0, 1) := by decide +kernel
theorem dX5_tag_16 : decode cX5_tag 16 = .ok (.aload_n 0, 1) := by decide +kernel
theorem dX5_tag_17 : decode cX5_tag 17 = .ok (.getfield 128, 3) := by decide +kernel
theorem dX5_tag_20 : decode cX5_tag 20 = .ok (.iconst 1, 1) := by decide +kernel
theorem dX5_tag_21 : decode cX5_tag 21 = .ok (.isub, 1) := by decide +kernel
theorem dX5_tag_22 : decode cX5_tag 22 = .ok (.invokestatic 120, 3) := by decide +kernel
theorem dX5_tag_25 : decode cX5_tag 25 = .ok (.ifCond .eq 12, 3) := by decide +kernel
theorem dX5_tag_28 : decode cX5_tag 28 = .ok (.aload_n 0, 1) := by decide +kernel
theorem dX5_tag_29 : decode cX5_tag 29 = .ok (.getfield 66, 3) := by decide +kernel
theorem dX5_tag_32 : decode cX5_tag 32 = .ok (.iload_n 1, 1) := by decide +kernel
theorem dX5_tag_33 : decode cX5_tag 33 = .ok (.laload, 1) := by decide +kernel
theorem dX5_tag_34 : decode cX5_tag 34 = .ok (.goto 4, 3) := by decide +kernel
theorem dX5_tag_37 : decode cX5_tag 37 = .ok (.lconst 0, 1) := by decide +kernel
theorem dX5_tag_38 : decode cX5_tag 38 = .ok (.lreturn, 1) := by decide +kernel
theorem dX5_tag_39 : decode cX5_tag 39 = .ok (.iload_n 2, 1) := by decide +kernel
theorem dX5_tag_40 : decode cX5_tag 40 = .ok (.iconst 1, 1) := by decide +kernel
theorem dX5_tag_41 : decode cX5_tag 41 = .ok (.if_icmp .eq 8, 3) := by decide +kernel
theorem dX5_tag_44 : decode cX5_tag 44 = .ok (.iload_n 2, 1) := by decide +kernel
theorem dX5_tag_45 : decode cX5_tag 45 = .ok (.iconst 2, 1) := by decide +kernel
theorem dX5_tag_46 : decode cX5_tag 46 = .ok (.if_icmp .ne 21, 3) := by decide +kernel
theorem dX5_tag_49 : decode cX5_tag 49 = .ok (.iload_n 1, 1) := by decide +kernel
theorem dX5_tag_50 : decode cX5_tag 50 = .ok (.iconst 0, 1) := by decide +kernel
theorem dX5_tag_51 : decode cX5_tag 51 = .ok (.aload_n 0, 1) := by decide +kernel
theorem dX5_tag_52 : decode cX5_tag 52 = .ok (.getfield 117, 3) := by decide +kernel
theorem dX5_tag_55 : decode cX5_tag 55 = .ok (.iconst 1, 1) := by decide +kernel
theorem dX5_tag_56 : decode cX5_tag 56 = .ok (.isub, 1) := by decide +kernel
theorem dX5_tag_57 : decode cX5_tag 57 = .ok (.invokestatic 120, 3) := by decide +kernel
theorem dX5_tag_60 : decode cX5_tag 60 = .ok (.ifCond .eq 7, 3) := by decide +kernel
theorem dX5_tag_63 : decode cX5_tag 63 = .ok (.iconst 1, 1) := by decide +kernel
theorem dX5_tag_64 : decode cX5_tag 64 = .ok (.goto 4, 3) := by decide +kernel
theorem dX5_tag_67 : decode cX5_tag 67 = .ok (.iconst 0, 1) := by decide +kernel
theorem dX5_tag_68 : decode cX5_tag 68 = .ok (.istore_n 3, 1) := by decide +kernel
theorem dX5_tag_69 : decode cX5_tag 69 = .ok (.iload_n 3, 1) := by decide +kernel
theorem dX5_tag_70 : decode cX5_tag 70 = .ok (.ifCond .ne 7, 3) := by decide +kernel
theorem dX5_tag_73 : decode cX5_tag 73 = .ok (.lconst 0, 1) := by decide +kernel
theorem dX5_tag_74 : decode cX5_tag 74 = .ok (.goto 23, 3) := by decide +kernel
theorem dX5_tag_77 : decode cX5_tag 77 = .ok (.iload_n 2, 1) := by decide +kernel
theorem dX5_tag_78 : decode cX5_tag 78 = .ok (.iconst 1, 1) := by decide +kernel
theorem dX5_tag_79 : decode cX5_tag 79 = .ok (.if_icmp .ne 12, 3) := by decide +kernel
theorem dX5_tag_82 : decode cX5_tag 82 = .ok (.aload_n 0, 1) := by decide +kernel
theorem dX5_tag_83 : decode cX5_tag 83 = .ok (.getfield 17, 3) := by decide +kernel
theorem dX5_tag_86 : decode cX5_tag 86 = .ok (.iload_n 1, 1) := by decide +kernel
theorem dX5_tag_87 : decode cX5_tag 87 = .ok (.laload, 1) := by decide +kernel
theorem dX5_tag_88 : decode cX5_tag 88 = .ok (.goto 9, 3) := by decide +kernel
theorem dX5_tag_91 : decode cX5_tag 91 = .ok (.aload_n 0, 1) := by decide +kernel
theorem dX5_tag_92 : decode cX5_tag 92 = .ok (.getfield 21, 3) := by decide +kernel
theorem dX5_tag_95 : decode cX5_tag 95 = .ok (.iload_n 1, 1) := by decide +kernel
theorem dX5_tag_96 : decode cX5_tag 96 = .ok (.laload, 1) := by decide +kernel
theorem dX5_tag_97 : decode cX5_tag 97 = .ok (.lreturn, 1) := by decide +kernel
theorem dX5_count_0 : decode cX5_count 0 = .ok (.iload_n 1, 1) := by decide +kernel
theorem dX5_count_1 : decode cX5_count 1 = .ok (.tableswitch 69 0 5 #[39, 44, 49, 54, 59, 64], 39) := by decide +kernel
theorem dX5_count_40 : decode cX5_count 40 = .ok (.aload_n 0, 1) := by decide +kernel
theorem dX5_count_41 : decode cX5_count 41 = .ok (.getfield 117, 3) := by decide +kernel
theorem dX5_count_44 : decode cX5_count 44 = .ok (.ireturn, 1) := by decide +kernel
theorem dX5_count_45 : decode cX5_count 45 = .ok (.aload_n 0, 1) := by decide +kernel
theorem dX5_count_46 : decode cX5_count 46 = .ok (.getfield 128, 3) := by decide +kernel
theorem dX5_count_49 : decode cX5_count 49 = .ok (.ireturn, 1) := by decide +kernel
theorem dX5_count_50 : decode cX5_count 50 = .ok (.aload_n 0, 1) := by decide +kernel
theorem dX5_count_51 : decode cX5_count 51 = .ok (.getfield 132, 3) := by decide +kernel
theorem dX5_count_54 : decode cX5_count 54 = .ok (.ireturn, 1) := by decide +kernel
theorem dX5_count_55 : decode cX5_count 55 = .ok (.aload_n 0, 1) := by decide +kernel
theorem dX5_count_56 : decode cX5_count 56 = .ok (.getfield 147, 3) := by decide +kernel
theorem dX5_count_59 : decode cX5_count 59 = .ok (.ireturn, 1) := by decide +kernel
theorem dX5_count_60 : decode cX5_count 60 = .ok (.aload_n 0, 1) := by decide +kernel
theorem dX5_count_61 : decode cX5_count 61 = .ok (.getfield 161, 3) := by decide +kernel
theorem dX5_count_64 : decode cX5_count 64 = .ok (.ireturn, 1) := by decide +kernel
theorem dX5_count_65 : decode cX5_count 65 = .ok (.aload_n 0, 1) := by decide +kernel
theorem dX5_count_66 : decode cX5_count 66 = .ok (.getfield 9, 3) := by decide +kernel
theorem dX5_count_69 : decode cX5_count 69 = .ok (.ireturn, 1) := by decide +kernel
theorem dX5_count_70 : decode cX5_count 70 = .ok (.iconst (-1), 1) := by decide +kernel
theorem dX5_count_71 : decode cX5_count 71 = .ok (.ireturn, 1) := by decide +kernel
theorem dJ9_max_7cf53_0 : decode cJ9_max_7cf53 0 = .ok (.iload_n 0, 1) := by decide +kernel
theorem dJ9_max_7cf53_1 : decode cJ9_max_7cf53 1 = .ok (.iload_n 1, 1) := by decide +kernel
theorem dJ9_max_7cf53_2 : decode cJ9_max_7cf53 2 = .ok (.if_icmp .lt 7, 3) := by decide +kernel
theorem dJ9_max_7cf53_5 : decode cJ9_max_7cf53 5 = .ok (.iload_n 0, 1) := by decide +kernel
theorem dJ9_max_7cf53_6 : decode cJ9_max_7cf53 6 = .ok (.goto 4, 3) := by decide +kernel
theorem dJ9_max_7cf53_9 : decode cJ9_max_7cf53 9 = .ok (.iload_n 1, 1) := by decide +kernel
theorem dJ9_max_7cf53_10 : decode cJ9_max_7cf53 10 = .ok (.ireturn, 1) := by decide +kernel
theorem dJ9_max_f86c9_0 : decode cJ9_max_f86c9 0 = .ok (.lload_n 0, 1) := by decide +kernel
theorem dJ9_max_f86c9_1 : decode cJ9_max_f86c9 1 = .ok (.lload_n 2, 1) := by decide +kernel
theorem dJ9_max_f86c9_2 : decode cJ9_max_f86c9 2 = .ok (.lcmp, 1) := by decide +kernel
theorem dJ9_max_f86c9_3 : decode cJ9_max_f86c9 3 = .ok (.ifCond .lt 7, 3) := by decide +kernel
theorem dJ9_max_f86c9_6 : decode cJ9_max_f86c9 6 = .ok (.lload_n 0, 1) := by decide +kernel
theorem dJ9_max_f86c9_7 : decode cJ9_max_f86c9 7 = .ok (.goto 4, 3) := by decide +kernel
theorem dJ9_max_f86c9_10 : decode cJ9_max_f86c9 10 = .ok (.lload_n 2, 1) := by decide +kernel
theorem dJ9_max_f86c9_11 : decode cJ9_max_f86c9 11 = .ok (.lreturn, 1) := by decide +kernel
theorem dJ9_min_7cf53_0 : decode cJ9_min_7cf53 0 = .ok (.iload_n 0, 1) := by decide +kernel
theorem dJ9_min_7cf53_1 : decode cJ9_min_7cf53 1 = .ok (.iload_n 1, 1) := by decide +kernel
theorem dJ9_min_7cf53_2 : decode cJ9_min_7cf53 2 = .ok (.if_icmp .gt 7, 3) := by decide +kernel
theorem dJ9_min_7cf53_5 : decode cJ9_min_7cf53 5 = .ok (.iload_n 0, 1) := by decide +kernel
theorem dJ9_min_7cf53_6 : decode cJ9_min_7cf53 6 = .ok (.goto 4, 3) := by decide +kernel
theorem dJ9_min_7cf53_9 : decode cJ9_min_7cf53 9 = .ok (.iload_n 1, 1) := by decide +kernel
theorem dJ9_min_7cf53_10 : decode cJ9_min_7cf53 10 = .ok (.ireturn, 1) := by decide +kernel
theorem dJ9_min_f86c9_0 : decode cJ9_min_f86c9 0 = .ok (.lload_n 0, 1) := by decide +kernel
theorem dJ9_min_f86c9_1 : decode cJ9_min_f86c9 1 = .ok (.lload_n 2, 1) := by decide +kernel
theorem dJ9_min_f86c9_2 : decode cJ9_min_f86c9 2 = .ok (.lcmp, 1) := by decide +kernel
theorem dJ9_min_f86c9_3 : decode cJ9_min_f86c9 3 = .ok (.ifCond .gt 7, 3) := by decide +kernel
theorem dJ9_min_f86c9_6 : decode cJ9_min_f86c9 6 = .ok (.lload_n 0, 1) := by decide +kernel
theorem dJ9_min_f86c9_7 : decode cJ9_min_f86c9 7 = .ok (.goto 4, 3) := by decide +kernel
theorem dJ9_min_f86c9_10 : decode cJ9_min_f86c9 10 = .ok (.lload_n 2, 1) := by decide +kernel
theorem dJ9_min_f86c9_11 : decode cJ9_min_f86c9 11 = .ok (.lreturn, 1) := by decide +kernel
theorem dJxa1e45_init_da8c8_0 : decode cJxa1e45_init_da8c8 0 = .ok (.aload_n 0, 1) := by decide +kernel
theorem dJxa1e45_init_da8c8_1 : decode cJxa1e45_init_da8c8 1 = .ok (.invokespecial 1, 3) := by decide +kernel
theorem dJxa1e45_init_da8c8_4 : decode cJxa1e45_init_da8c8 4 = .ok (.return_, 1) := by decide +kernel
set_option maxRecDepth 20000 in
theorem ggJxc12de_init_da8c8_Jxa1e45_init_da8c8 : GoodIn wsJxc12de_init_da8c8 wsJxa1e45_init_da8c8 := goodIn_r _ [5, 6, 7, 8] (by decide +kernel) (by decide +kernel)
set_option maxRecDepth 20000 in
theorem gJxc12de_init_da8c8_Jxa1e45_init_da8c8 : GoodIn wsJxc12de_init_da8c8 (wsJxa1e45_init_da8c8) := ggJxc12de_init_da8c8_Jxa1e45_init_da8c8
theorem dJxc12de_init_da8c8_0 : decode cJxc12de_init_da8c8 0 = .ok (.aload_n 0, 1) := by decide +kernel
theorem dJxc12de_init_da8c8_1 : decode cJxc12de_init_da8c8 1 = .ok (.invokespecial 1, 3) := by decide +kernel
theorem dJxc12de_init_da8c8_4 : decode cJxc12de_init_da8c8 4 = .ok (.aload_n 0, 1) := by decide +kernel
theorem dJxc12de_init_da8c8_5 : decode cJxc12de_init_da8c8 5 = .ok (.iconst 0, 1) := by decide +kernel
theorem dJxc12de_init_da8c8_6 : decode cJxc12de_init_da8c8 6 = .ok (.putfield 7, 3) := by decide +kernel
theorem dJxc12de_init_da8c8_9 : decode cJxc12de_init_da8c8 9 = .ok (.return_, 1) := by decide +kernel
set_option maxRecDepth 20000 in
theorem ggJx4a65c_init_da8c8_Jxc12de_init_da8c8 : GoodIn wsJx4a65c_init_da8c8 wsJxc12de_init_da8c8 := goodIn_r _ [6, 7, 8, 9, 10, 11, 12, 13, 14, 15, 16, 17] (by decide +kernel) (by decide +kernel)
set_option maxRecDepth 20000 in
theorem gJx4a65c_init_da8c8_Jxc12de_init_da8c8 : GoodIn wsJx4a65c_init_da8c8 (wsJxc12de_init_da8c8) := ggJx4a65c_init_da8c8_Jxc12de_init_da8c8
theorem dJx4a65c_init_da8c8_0 : decode cJx4a65c_init_da8c8 0 = .ok (.aload_n 0, 1) := by decide +kernel
theorem dJx4a65c_init_da8c8_1 : decode cJx4a65c_init_da8c8 1 = .ok (.invokespecial 1, 3) := by decide +kernel
theorem dJx4a65c_init_da8c8_4 : decode cJx4a65c_init_da8c8 4 = .ok (.aload_n 0, 1) := by decide +kernel
theorem dJx4a65c_init_da8c8_5 : decode cJx4a65c_init_da8c8 5 = .ok (.getstatic 39, 3) := by decide +kernel
theorem dJx4a65c_init_da8c8_8 : decode cJx4a65c_init_da8c8 8 = .ok (.putfield 9, 3) := by decide +kernel
theorem dJx4a65c_init_da8c8_11 : decode cJx4a65c_init_da8c8 11 = .ok (.return_, 1) := by decide +kernel
set_option maxRecDepth 20000 in
theorem ggJx4a65c_grow_92f84_J8_newLength_cabcc : GoodIn wsJx4a65c_grow_92f84 wsJ8_newLength_cabcc := goodIn_r _ [11, 12, 4, 5, 6, 13, 14, 15, 10, 16] (by decide +kernel) (by decide +kernel)
set_option maxRecDepth 20000 in
theorem gJx4a65c_grow_92f84_J8_newLength_cabcc : GoodIn wsJx4a65c_grow_92f84 (va_wsS RJx4a65c 73 yJ8_newLength_cabcc wsJ8_newLength_cabcc) := goodIn_app (goodIn_of _ (by decide +kernel)) ggJx4a65c_grow_92f84_J8_newLength_cabcc
set_option maxRecDepth 20000 in
theorem ggJx4a65c_grow_92f84_J7_copyOf_1904c : GoodIn wsJx4a65c_grow_92f84 wsJ7_copyOf_1904c := goodIn_r _ [20, 21, 22, 23, 24, 25, 26, 19, 27, 28, 29, 30, 31, 5, 32, 33, 34, 35, 36] (by decide +kernel) (by decide +kernel)
set_option maxRecDepth 20000 in
theorem gJx4a65c_grow_92f84_J7_copyOf_1904c : GoodIn wsJx4a65c_grow_92f84 (va_wsS RJx4a65c 66 yJ7_copyOf_1904c wsJ7_copyOf_1904c) := goodIn_app (goodIn_of _ (by decide +kernel)) ggJx4a65c_grow_92f84_J7_copyOf_1904c
theorem dJx4a65c_grow_92f84_0 : decode cJx4a65c_grow_92f84 0 = .ok (.aload_n 0, 1) := by decide +kernel
theorem dJx4a65c_grow_92f84_1 : decode cJx4a65c_grow_92f84 1 = .ok (.getfield 9, 3) := by decide +kernel
theorem dJx4a65c_grow_92f84_4 : decode cJx4a65c_grow_92f84 4 = .ok (.arraylength, 1) := by decide +kernel
theorem dJx4a65c_grow_92f84_5 : decode cJx4a65c_grow_92f84 5 = .ok (.istore_n 2, 1) := by decide +kernel
theorem dJx4a65c_grow_92f84_6 : decode cJx4a65c_grow_92f84 6 = .ok (.iload_n 2, 1) := by decide +kernel
theorem dJx4a65c_grow_92f84_7 : decode cJx4a65c_grow_92f84 7 = .ok (.ifCond .gt 13, 3) := by decide +kernel
theorem dJx4a65c_grow_92f84_10 : decode cJx4a65c_grow_92f84 10 = .ok (.aload_n 0, 1) := by decide +kernel
theorem dJx4a65c_grow_92f84_11 : decode cJx4a65c_grow_92f84 11 = .ok (.getfield 9, 3) := by decide +kernel
theorem dJx4a65c_grow_92f84_14 : decode cJx4a65c_grow_92f84 14 = .ok (.getstatic 39, 3) := by decide +kernel
theorem dJx4a65c_grow_92f84_17 : decode cJx4a65c_grow_92f84 17 = .ok (.if_acmp .eq 28, 3) := by decide +kernel
theorem dJx4a65c_grow_92f84_20 : decode cJx4a65c_grow_92f84 20 = .ok (.iload_n 2, 1) := by decide +kernel
theorem dJx4a65c_grow_92f84_21 : decode cJx4a65c_grow_92f84 21 = .ok (.iload_n 1, 1) := by decide +kernel
theorem dJx4a65c_grow_92f84_22 : decode cJx4a65c_grow_92f84 22 = .ok (.iload_n 2, 1) := by decide +kernel
theorem dJx4a65c_grow_92f84_23 : decode cJx4a65c_grow_92f84 23 = .ok (.isub, 1) := by decide +kernel
theorem dJx4a65c_grow_92f84_24 : decode cJx4a65c_grow_92f84 24 = .ok (.iload_n 2, 1) := by decide +kernel
theorem dJx4a65c_grow_92f84_25 : decode cJx4a65c_grow_92f84 25 = .ok (.iconst 1, 1) := by decide +kernel
theorem dJx4a65c_grow_92f84_26 : decode cJx4a65c_grow_92f84 26 = .ok (.ishr, 1) := by decide +kernel
theorem dJx4a65c_grow_92f84_27 : decode cJx4a65c_grow_92f84 27 = .ok (.invokestatic 73, 3) := by decide +kernel
theorem dJx4a65c_grow_92f84_30 : decode cJx4a65c_grow_92f84 30 = .ok (.istore_n 3, 1) := by decide +kernel
theorem dJx4a65c_grow_92f84_31 : decode cJx4a65c_grow_92f84 31 = .ok (.aload_n 0, 1) := by decide +kernel
theorem dJx4a65c_grow_92f84_32 : decode cJx4a65c_grow_92f84 32 = .ok (.aload_n 0, 1) := by decide +kernel
theorem dJx4a65c_grow_92f84_33 : decode cJx4a65c_grow_92f84 33 = .ok (.getfield 9, 3) := by decide +kernel
theorem dJx4a65c_grow_92f84_36 : decode cJx4a65c_grow_92f84 36 = .ok (.iload_n 3, 1) := by decide +kernel
theorem dJx4a65c_grow_92f84_37 : decode cJx4a65c_grow_92f84 37 = .ok (.invokestatic 66, 3) := by decide +kernel
theorem dJx4a65c_grow_92f84_40 : decode cJx4a65c_grow_92f84 40 = .ok (.dup_x1, 1) := by decide +kernel
theorem dJx4a65c_grow_92f84_41 : decode cJx4a65c_grow_92f84 41 = .ok (.putfield 9, 3) := by decide +kernel
theorem dJx4a65c_grow_92f84_44 : decode cJx4a65c_grow_92f84 44 = .ok (.areturn, 1) := by decide +kernel
theorem dJx4a65c_grow_92f84_45 : decode cJx4a65c_grow_92f84 45 = .ok (.aload_n 0, 1) := by decide +kernel
theorem dJx4a65c_grow_92f84_46 : decode cJx4a65c_grow_92f84 46 = .ok (.bipush 10, 2) := by decide +kernel
theorem dJx4a65c_grow_92f84_48 : decode cJx4a65c_grow_92f84 48 = .ok (.iload_n 1, 1) := by decide +kernel
theorem dJx4a65c_grow_92f84_49 : decode cJx4a65c_grow_92f84 49 = .ok (.invokestatic 79, 3) := by decide +kernel
theorem dJx4a65c_grow_92f84_52 : decode cJx4a65c_grow_92f84 52 = .ok (.anewarray 7, 3) := by decide +kernel
theorem dJx4a65c_grow_92f84_55 : decode cJx4a65c_grow_92f84 55 = .ok (.dup_x1, 1) := by decide +kernel
theorem dJx4a65c_grow_92f84_56 : decode cJx4a65c_grow_92f84 56 = .ok (.putfield 9, 3) := by decide +kernel
theorem dJx4a65c_grow_92f84_59 : decode cJx4a65c_grow_92f84 59 = .ok (.areturn, 1) := by decide +kernel
set_option maxRecDepth 20000 in
theorem ggJx4a65c_grow_d5877_Jx4a65c_grow_92f84 : GoodIn wsJx4a65c_grow_d5877 wsJx4a65c_grow_92f84 := goodIn_r _ [6, 7, 8, 9, 10, 11, 12, 13, 14, 15, 16, 17, 18, 19, 20, 21, 22, 23, 24, 25, 26, 27, 28, 29, 30, 31, 32, 33, 34, 35, 36, 37, 38, 39, 40, 41, 42, 43, 44, 45] (by decide +kernel) (by decide +kernel)
set_option maxRecDepth 20000 in
theorem gJx4a65c_grow_d5877_Jx4a65c_grow_92f84 : GoodIn wsJx4a65c_grow_d5877 (wsV RJx4a65c 69 RJx4a65c yJx4a65c_grow_92f84 wsJx4a65c_grow_92f84) := goodIn_app (goodIn_of _ (by decide +kernel)) ggJx4a65c_grow_d5877_Jx4a65c_grow_92f84
theorem dJx4a65c_grow_d5877_0 : decode cJx4a65c_grow_d5877 0 = .ok (.aload_n 0, 1) := by decide +kernel
theorem dJx4a65c_grow_d5877_1 : decode cJx4a65c_grow_d5877 1 = .ok (.aload_n 0, 1) := by decide +kernel
theorem dJx4a65c_grow_d5877_2 : decode cJx4a65c_grow_d5877 2 = .ok (.getfield 48, 3) := by decide +kernel
theorem dJx4a65c_grow_d5877_5 : decode cJx4a65c_grow_d5877 5 = .ok (.iconst 1, 1) := by decide +kernel
theorem dJx4a65c_grow_d5877_6 : decode cJx4a65c_grow_d5877 6 = .ok (.iadd, 1) := by decide +kernel
theorem dJx4a65c_grow_d5877_7 : decode cJx4a65c_grow_d5877 7 = .ok (.invokevirtual 69, 3) := by decide +kernel
theorem dJx4a65c_grow_d5877_10 : decode cJx4a65c_grow_d5877 10 = .ok (.areturn, 1) := by decide +kernel
theorem dJx4a65c_size_8abf5_0 : decode cJx4a65c_size_8abf5 0 = .ok (.aload_n 0, 1) := by decide +kernel
theorem dJx4a65c_size_8abf5_1 : decode cJx4a65c_size_8abf5 1 = .ok (.getfield 48, 3) := by decide +kernel
theorem dJx4a65c_size_8abf5_4 : decode cJx4a65c_size_8abf5 4 = .ok (.ireturn, 1) := by decide +kernel
theorem dJx4a65c_elementData_915e3_0 : decode cJx4a65c_elementData_915e3 0 = .ok (.aload_n 0, 1) := by decide +kernel
theorem dJx4a65c_elementData_915e3_1 : decode cJx4a65c_elementData_915e3 1 = .ok (.getfield 9, 3) := by decide +kernel
theorem dJx4a65c_elementData_915e3_4 : decode cJx4a65c_elementData_915e3 4 = .ok (.iload_n 1, 1) := by decide +kernel
theorem dJx4a65c_elementData_915e3_5 : decode cJx4a65c_elementData_915e3 5 = .ok (.aaload, 1) := by decide +kernel
theorem dJx4a65c_elementData_915e3_6 : decode cJx4a65c_elementData_915e3 6 = .ok (.areturn, 1) := by decide +kernel
set_option maxRecDepth 20000 in
theorem ggJx4a65c_get_915e3_J15_checkIndex_7cf53 : GoodIn wsJx4a65c_get_915e3 wsJ15_checkIndex_7cf53 := goodIn_r _ [5, 6, 7, 8, 9] (by decide +kernel) (by decide +kernel)
set_option maxRecDepth 20000 in
theorem gJx4a65c_get_915e3_J15_checkIndex_7cf53 : GoodIn wsJx4a65c_get_915e3 (va_wsS RJx4a65c 118 yJ15_checkIndex_7cf53 wsJ15_checkIndex_7cf53) := goodIn_app (goodIn_of _ (by decide +kernel)) ggJx4a65c_get_915e3_J15_checkIndex_7cf53
set_option maxRecDepth 20000 in
theorem ggJx4a65c_get_915e3_Jx4a65c_elementData_915e3 : GoodIn wsJx4a65c_get_915e3 wsJx4a65c_elementData_915e3 := goodIn_r _ [14, 15, 16, 17, 18] (by decide +kernel) (by decide +kernel)
set_option maxRecDepth 20000 in
theorem gJx4a65c_get_915e3_Jx4a65c_elementData_915e3 : GoodIn wsJx4a65c_get_915e3 (wsV RJx4a65c 123 RJx4a65c yJx4a65c_elementData_915e3 wsJx4a65c_elementData_915e3) := goodIn_app (goodIn_of _ (by decide +kernel)) ggJx4a65c_get_915e3_Jx4a65c_elementData_915e3
theorem dJx4a65c_get_915e3_0 : decode cJx4a65c_get_915e3 0 = .ok (.iload_n 1, 1) := by decide +kernel
theorem dJx4a65c_get_915e3_1 : decode cJx4a65c_get_915e3 1 = .ok (.aload_n 0, 1) := by decide +kernel
theorem dJx4a65c_get_915e3_2 : decode cJx4a65c_get_915e3 2 = .ok (.getfield 48, 3) := by decide +kernel
theorem dJx4a65c_get_915e3_5 : decode cJx4a65c_get_915e3 5 = .ok (.invokestatic 118, 3) := by decide +kernel
theorem dJx4a65c_get_915e3_8 : decode cJx4a65c_get_915e3 8 = .ok (.pop, 1) := by decide +kernel
theorem dJx4a65c_get_915e3_9 : decode cJx4a65c_get_915e3 9 = .ok (.aload_n 0, 1) := by decide +kernel
theorem dJx4a65c_get_915e3_10 : decode cJx4a65c_get_915e3 10 = .ok (.iload_n 1, 1) := by decide +kernel
theorem dJx4a65c_get_915e3_11 : decode cJx4a65c_get_915e3 11 = .ok (.invokevirtual 123, 3) := by decide +kernel
theorem dJx4a65c_get_915e3_14 : decode cJx4a65c_get_915e3 14 = .ok (.areturn, 1) := by decide +kernel
set_option maxRecDepth 20000 in
theorem ggJx4a65c_add_72be8_Jx4a65c_grow_d5877 : GoodIn wsJx4a65c_add_72be8 wsJx4a65c_grow_d5877 := goodIn_r _ [6, 1, 7, 8, 9, 5, 10, 11, 12, 13, 14, 15, 16, 17, 18, 19, 20, 21, 22, 23, 24, 25, 26, 27, 28, 29, 30, 31, 32, 33, 34, 35, 36, 37, 38, 39, 40, 41, 42, 43, 44, 45, 46, 47, 48, 49] (by decide +kernel) (by decide +kernel)
set_option maxRecDepth 20000 in
theorem gJx4a65c_add_72be8_Jx4a65c_grow_d5877 : GoodIn wsJx4a65c_add_72be8 (wsV RJx4a65c 129 RJx4a65c yJx4a65c_grow_d5877 wsJx4a65c_grow_d5877) := goodIn_app (goodIn_of _ (by decide +kernel)) ggJx4a65c_add_72be8_Jx4a65c_grow_d5877
theorem dJx4a65c_add_72be8_0 : decode cJx4a65c_add_72be8 0 = .ok (.iload_n 3, 1) := by decide +kernel
theorem dJx4a65c_add_72be8_1 : decode cJx4a65c_add_72be8 1 = .ok (.aload_n 2, 1) := by decide +kernel
theorem dJx4a65c_add_72be8_2 : decode cJx4a65c_add_72be8 2 = .ok (.arraylength, 1) := by decide +kernel
theorem dJx4a65c_add_72be8_3 : decode cJx4a65c_add_72be8 3 = .ok (.if_icmp .ne 8, 3) := by decide +kernel
theorem dJx4a65c_add_72be8_6 : decode cJx4a65c_add_72be8 6 = .ok (.aload_n 0, 1) := by decide +kernel
theorem dJx4a65c_add_72be8_7 : decode cJx4a65c_add_72be8 7 = .ok (.invokevirtual 129, 3) := by decide +kernel
theorem dJx4a65c_add_72be8_10 : decode cJx4a65c_add_72be8 10 = .ok (.astore_n 2, 1) := by decide +kernel
theorem dJx4a65c_add_72be8_11 : decode cJx4a65c_add_72be8 11 = .ok (.aload_n 2, 1) := by decide +kernel
theorem dJx4a65c_add_72be8_12 : decode cJx4a65c_add_72be8 12 = .ok (.iload_n 3, 1) := by decide +kernel
theorem dJx4a65c_add_72be8_13 : decode cJx4a65c_add_72be8 13 = .ok (.aload_n 1, 1) := by decide +kernel
theorem dJx4a65c_add_72be8_14 : decode cJx4a65c_add_72be8 14 = .ok (.aastore, 1) := by decide +kernel
theorem dJx4a65c_add_72be8_15 : decode cJx4a65c_add_72be8 15 = .ok (.aload_n 0, 1) := by decide +kernel
theorem dJx4a65c_add_72be8_16 : decode cJx4a65c_add_72be8 16 = .ok (.iload_n 3, 1) := by decide +kernel
theorem dJx4a65c_add_72be8_17 : decode cJx4a65c_add_72be8 17 = .ok (.iconst 1, 1) := by decide +kernel
theorem dJx4a65c_add_72be8_18 : decode cJx4a65c_add_72be8 18 = .ok (.iadd, 1) := by decide +kernel
theorem dJx4a65c_add_72be8_19 : decode cJx4a65c_add_72be8 19 = .ok (.putfield 48, 3) := by decide +kernel
theorem dJx4a65c_add_72be8_22 : decode cJx4a65c_add_72be8 22 = .ok (.return_, 1) := by decide +kernel
set_option maxRecDepth 20000 in
theorem ggJx4a65c_add_9ea2d_Jx4a65c_add_72be8 : GoodIn wsJx4a65c_add_9ea2d wsJx4a65c_add_72be8 := goodIn_r _ [9, 4, 10, 11, 12, 8, 13, 14, 15, 16, 17, 3, 18, 19, 20, 21, 22, 23, 24, 25, 26, 27, 28, 29, 30, 31, 32, 33, 34, 35, 36, 37, 38, 39, 40, 41, 42, 43, 44, 45, 46, 47, 48, 49, 50, 51, 52, 53, 54, 55] (by decide +kernel) (by decide +kernel)
set_option maxRecDepth 20000 in
theorem gJx4a65c_add_9ea2d_Jx4a65c_add_72be8 : GoodIn wsJx4a65c_add_9ea2d (wsV RJx4a65c 131 RJx4a65c yJx4a65c_add_72be8 wsJx4a65c_add_72be8) := goodIn_app (goodIn_of _ (by decide +kernel)) ggJx4a65c_add_9ea2d_Jx4a65c_add_72be8
theorem dJx4a65c_add_9ea2d_0 : decode cJx4a65c_add_9ea2d 0 = .ok (.aload_n 0, 1) := by decide +kernel
theorem dJx4a65c_add_9ea2d_1 : decode cJx4a65c_add_9ea2d 1 = .ok (.dup, 1) := by decide +kernel
theorem dJx4a65c_add_9ea2d_2 : decode cJx4a65c_add_9ea2d 2 = .ok (.getfield 63, 3) := by decide +kernel
theorem dJx4a65c_add_9ea2d_5 : decode cJx4a65c_add_9ea2d 5 = .ok (.iconst 1, 1) := by decide +kernel
theorem dJx4a65c_add_9ea2d_6 : decode cJx4a65c_add_9ea2d 6 = .ok (.iadd, 1) := by decide +kernel
theorem dJx4a65c_add_9ea2d_7 : decode cJx4a65c_add_9ea2d 7 = .ok (.putfield 63, 3) := by decide +kernel
theorem dJx4a65c_add_9ea2d_10 : decode cJx4a65c_add_9ea2d 10 = .ok (.aload_n 0, 1) := by decide +kernel
theorem dJx4a65c_add_9ea2d_11 : decode cJx4a65c_add_9ea2d 11 = .ok (.aload_n 1, 1) := by decide +kernel
theorem dJx4a65c_add_9ea2d_12 : decode cJx4a65c_add_9ea2d 12 = .ok (.aload_n 0, 1) := by decide +kernel
theorem dJx4a65c_add_9ea2d_13 : decode cJx4a65c_add_9ea2d 13 = .ok (.getfield 9, 3) := by decide +kernel
theorem dJx4a65c_add_9ea2d_16 : decode cJx4a65c_add_9ea2d 16 = .ok (.aload_n 0, 1) := by decide +kernel
theorem dJx4a65c_add_9ea2d_17 : decode cJx4a65c_add_9ea2d 17 = .ok (.getfield 48, 3) := by decide +kernel
theorem dJx4a65c_add_9ea2d_20 : decode cJx4a65c_add_9ea2d 20 = .ok (.invokevirtual 131, 3) := by decide +kernel
theorem dJx4a65c_add_9ea2d_23 : decode cJx4a65c_add_9ea2d 23 = .ok (.iconst 1, 1) := by decide +kernel
theorem dJx4a65c_add_9ea2d_24 : decode cJx4a65c_add_9ea2d 24 = .ok (.ireturn, 1) := by decide +kernel
set_option maxRecDepth 20000 in
theorem ggJ7_copyOf_1904c_J7_copyOf_6403c : GoodIn wsJ7_copyOf_1904c wsJ7_copyOf_6403c := goodIn_r _ [8, 9, 10, 11, 12, 13, 14, 15, 16, 17, 18] (by decide +kernel) (by decide +kernel)
set_option maxRecDepth 20000 in
theorem gJ7_copyOf_1904c_J7_copyOf_6403c : GoodIn wsJ7_copyOf_1904c (va_wsS RJ7 300 yJ7_copyOf_6403c wsJ7_copyOf_6403c) := goodIn_app (goodIn_of _ (by decide +kernel)) ggJ7_copyOf_1904c_J7_copyOf_6403c
theorem dJ7_copyOf_1904c_0 : decode cJ7_copyOf_1904c 0 = .ok (.aload_n 0, 1) := by decide +kernel
theorem dJ7_copyOf_1904c_1 : decode cJ7_copyOf_1904c 1 = .ok (.iload_n 1, 1) := by decide +kernel
theorem dJ7_copyOf_1904c_2 : decode cJ7_copyOf_1904c 2 = .ok (.aload_n 0, 1) := by decide +kernel
theorem dJ7_copyOf_1904c_3 : decode cJ7_copyOf_1904c 3 = .ok (.invokevirtual 86, 3) := by decide +kernel
theorem dJ7_copyOf_1904c_6 : decode cJ7_copyOf_1904c 6 = .ok (.invokestatic 300, 3) := by decide +kernel
theorem dJ7_copyOf_1904c_9 : decode cJ7_copyOf_1904c 9 = .ok (.areturn, 1) := by decide +kernel
theorem dJ7_copyOf_6403c_0 : decode cJ7_copyOf_6403c 0 = .ok (.aload_n 2, 1) := by decide +kernel
theorem dJ7_copyOf_6403c_1 : decode cJ7_copyOf_6403c 1 = .ok (.ldc 110, 2) := by decide +kernel
theorem dJ7_copyOf_6403c_3 : decode cJ7_copyOf_6403c 3 = .ok (.if_acmp .ne 10, 3) := by decide +kernel
theorem dJ7_copyOf_6403c_6 : decode cJ7_copyOf_6403c 6 = .ok (.iload_n 1, 1) := by decide +kernel
theorem dJ7_copyOf_6403c_7 : decode cJ7_copyOf_6403c 7 = .ok (.anewarray 2, 3) := by decide +kernel
theorem dJ7_copyOf_6403c_10 : decode cJ7_copyOf_6403c 10 = .ok (.goto 14, 3) := by decide +kernel
theorem dJ7_copyOf_6403c_13 : decode cJ7_copyOf_6403c 13 = .ok (.aload_n 2, 1) := by decide +kernel
theorem dJ7_copyOf_6403c_14 : decode cJ7_copyOf_6403c 14 = .ok (.invokevirtual 90, 3) := by decide +kernel
theorem dJ7_copyOf_6403c_17 : decode cJ7_copyOf_6403c 17 = .ok (.iload_n 1, 1) := by decide +kernel
theorem dJ7_copyOf_6403c_18 : decode cJ7_copyOf_6403c 18 = .ok (.invokestatic 95, 3) := by decide +kernel
theorem dJ7_copyOf_6403c_21 : decode cJ7_copyOf_6403c 21 = .ok (.checkcast 110, 3) := by decide +kernel
theorem dJ7_copyOf_6403c_24 : decode cJ7_copyOf_6403c 24 = .ok (.astore_n 3, 1) := by decide +kernel
theorem dJ7_copyOf_6403c_25 : decode cJ7_copyOf_6403c 25 = .ok (.aload_n 0, 1) := by decide +kernel
theorem dJ7_copyOf_6403c_26 : decode cJ7_copyOf_6403c 26 = .ok (.iconst 0, 1) := by decide +kernel
theorem dJ7_copyOf_6403c_27 : decode cJ7_copyOf_6403c 27 = .ok (.aload_n 3, 1) := by decide +kernel
theorem dJ7_copyOf_6403c_28 : decode cJ7_copyOf_6403c 28 = .ok (.iconst 0, 1) := by decide +kernel
theorem dJ7_copyOf_6403c_29 : decode cJ7_copyOf_6403c 29 = .ok (.aload_n 0, 1) := by decide +kernel
theorem dJ7_copyOf_6403c_30 : decode cJ7_copyOf_6403c 30 = .ok (.arraylength, 1) := by decide +kernel
theorem dJ7_copyOf_6403c_31 : decode cJ7_copyOf_6403c 31 = .ok (.iload_n 1, 1) := by decide +kernel
theorem dJ7_copyOf_6403c_32 : decode cJ7_copyOf_6403c 32 = .ok (.invokestatic 304, 3) := by decide +kernel
theorem dJ7_copyOf_6403c_35 : decode cJ7_copyOf_6403c 35 = .ok (.invokestatic 150, 3) := by decide +kernel
theorem dJ7_copyOf_6403c_38 : decode cJ7_copyOf_6403c 38 = .ok (.aload_n 3, 1) := by decide +kernel
theorem dJ7_copyOf_6403c_39 : decode cJ7_copyOf_6403c 39 = .ok (.areturn, 1) := by decide +kernel
set_option maxRecDepth 20000 in
theorem ggJ15_checkIndex_7cf53_J3_checkIndex_8e157 : GoodIn wsJ15_checkIndex_7cf53 wsJ3_checkIndex_8e157 := goodIn_r _ [4] (by decide +kernel) (by decide +kernel)
set_option maxRecDepth 20000 in
theorem gJ15_checkIndex_7cf53_J3_checkIndex_8e157 : GoodIn wsJ15_checkIndex_7cf53 (va_wsS RJ15 105 yJ3_checkIndex_8e157 wsJ3_checkIndex_8e157) := goodIn_app (goodIn_of _ (by decide +kernel)) ggJ15_checkIndex_7cf53_J3_checkIndex_8e157
theorem dJ15_checkIndex_7cf53_0 : decode cJ15_checkIndex_7cf53 0 = .ok (.iload_n 0, 1) := by decide +kernel
theorem dJ15_checkIndex_7cf53_1 : decode cJ15_checkIndex_7cf53 1 = .ok (.iload_n 1, 1) := by decide +kernel
theorem dJ15_checkIndex_7cf53_2 : decode cJ15_checkIndex_7cf53 2 = .ok (.aconst_null, 1) := by decide +kernel
theorem dJ15_checkIndex_7cf53_3 : decode cJ15_checkIndex_7cf53 3 = .ok (.invokestatic 105, 3) := by decide +kernel
theorem dJ15_checkIndex_7cf53_6 : decode cJ15_checkIndex_7cf53 6 = .ok (.ireturn, 1) := by decide +kernel
set_option maxRecDepth 20000 in
theorem ggJ8_newLength_cabcc_J8_hugeLength_7cf53 : GoodIn wsJ8_newLength_cabcc wsJ8_hugeLength_7cf53 := goodIn_r _ [9, 5] (by decide +kernel) (by decide +kernel)
set_option maxRecDepth 20000 in
theorem gJ8_newLength_cabcc_J8_hugeLength_7cf53 : GoodIn wsJ8_newLength_cabcc (va_wsS RJ8 201 yJ8_hugeLength_7cf53 wsJ8_hugeLength_7cf53) := goodIn_app (goodIn_of _ (by decide +kernel)) ggJ8_newLength_cabcc_J8_hugeLength_7cf53
theorem dJ8_newLength_cabcc_0 : decode cJ8_newLength_cabcc 0 = .ok (.iload_n 0, 1) := by decide +kernel
theorem dJ8_newLength_cabcc_1 : decode cJ8_newLength_cabcc 1 = .ok (.iload_n 1, 1) := by decide +kernel
theorem dJ8_newLength_cabcc_2 : decode cJ8_newLength_cabcc 2 = .ok (.iload_n 2, 1) := by decide +kernel
theorem dJ8_newLength_cabcc_3 : decode cJ8_newLength_cabcc 3 = .ok (.invokestatic 194, 3) := by decide +kernel
theorem dJ8_newLength_cabcc_6 : decode cJ8_newLength_cabcc 6 = .ok (.iadd, 1) := by decide +kernel
theorem dJ8_newLength_cabcc_7 : decode cJ8_newLength_cabcc 7 = .ok (.istore_n 3, 1) := by decide +kernel
theorem dJ8_newLength_cabcc_8 : decode cJ8_newLength_cabcc 8 = .ok (.iconst 0, 1) := by decide +kernel
theorem dJ8_newLength_cabcc_9 : decode cJ8_newLength_cabcc 9 = .ok (.iload_n 3, 1) := by decide +kernel
theorem dJ8_newLength_cabcc_10 : decode cJ8_newLength_cabcc 10 = .ok (.if_icmp .ge 11, 3) := by decide +kernel
theorem dJ8_newLength_cabcc_13 : decode cJ8_newLength_cabcc 13 = .ok (.iload_n 3, 1) := by decide +kernel
theorem dJ8_newLength_cabcc_14 : decode cJ8_newLength_cabcc 14 = .ok (.ldc 200, 2) := by decide +kernel
theorem dJ8_newLength_cabcc_16 : decode cJ8_newLength_cabcc 16 = .ok (.if_icmp .gt 5, 3) := by decide +kernel
theorem dJ8_newLength_cabcc_19 : decode cJ8_newLength_cabcc 19 = .ok (.iload_n 3, 1) := by decide +kernel
theorem dJ8_newLength_cabcc_20 : decode cJ8_newLength_cabcc 20 = .ok (.ireturn, 1) := by decide +kernel
theorem dJ8_newLength_cabcc_21 : decode cJ8_newLength_cabcc 21 = .ok (.iload_n 0, 1) := by decide +kernel
theorem dJ8_newLength_cabcc_22 : decode cJ8_newLength_cabcc 22 = .ok (.iload_n 1, 1) := by decide +kernel
theorem dJ8_newLength_cabcc_23 : decode cJ8_newLength_cabcc 23 = .ok (.invokestatic 201, 3) := by decide +kernel
theorem dJ8_newLength_cabcc_26 : decode cJ8_newLength_cabcc 26 = .ok (.ireturn, 1) := by decide +kernel
theorem dJ8_hugeLength_7cf53_0 : decode cJ8_hugeLength_7cf53 0 = .ok (.iload_n 0, 1) := by decide +kernel
theorem dJ8_hugeLength_7cf53_1 : decode cJ8_hugeLength_7cf53 1 = .ok (.iload_n 1, 1) := by decide +kernel
theorem dJ8_hugeLength_7cf53_2 : decode cJ8_hugeLength_7cf53 2 = .ok (.iadd, 1) := by decide +kernel
theorem dJ8_hugeLength_7cf53_3 : decode cJ8_hugeLength_7cf53 3 = .ok (.istore_n 2, 1) := by decide +kernel
theorem dJ8_hugeLength_7cf53_4 : decode cJ8_hugeLength_7cf53 4 = .ok (.iload_n 2, 1) := by decide +kernel
theorem dJ8_hugeLength_7cf53_5 : decode cJ8_hugeLength_7cf53 5 = .ok (.ifCond .ge 44, 3) := by decide +kernel
theorem dJ8_hugeLength_7cf53_8 : decode cJ8_hugeLength_7cf53 8 = .ok (.new 204, 3) := by decide +kernel
theorem dJ8_hugeLength_7cf53_11 : decode cJ8_hugeLength_7cf53 11 = .ok (.dup, 1) := by decide +kernel
theorem dJ8_hugeLength_7cf53_12 : decode cJ8_hugeLength_7cf53 12 = .ok (.new 89, 3) := by decide +kernel
theorem dJ8_hugeLength_7cf53_15 : decode cJ8_hugeLength_7cf53 15 = .ok (.dup, 1) := by decide +kernel
theorem dJ8_hugeLength_7cf53_16 : decode cJ8_hugeLength_7cf53 16 = .ok (.invokespecial 91, 3) := by decide +kernel
theorem dJ8_hugeLength_7cf53_19 : decode cJ8_hugeLength_7cf53 19 = .ok (.ldc 206, 2) := by decide +kernel
theorem dJ8_hugeLength_7cf53_21 : decode cJ8_hugeLength_7cf53 21 = .ok (.invokevirtual 94, 3) := by decide +kernel
theorem dJ8_hugeLength_7cf53_24 : decode cJ8_hugeLength_7cf53 24 = .ok (.iload_n 0, 1) := by decide +kernel
theorem dJ8_hugeLength_7cf53_25 : decode cJ8_hugeLength_7cf53 25 = .ok (.invokevirtual 98, 3) := by decide +kernel
theorem dJ8_hugeLength_7cf53_28 : decode cJ8_hugeLength_7cf53 28 = .ok (.ldc 208, 2) := by decide +kernel
theorem dJ8_hugeLength_7cf53_30 : decode cJ8_hugeLength_7cf53 30 = .ok (.invokevirtual 94, 3) := by decide +kernel
theorem dJ8_hugeLength_7cf53_33 : decode cJ8_hugeLength_7cf53 33 = .ok (.iload_n 1, 1) := by decide +kernel
theorem dJ8_hugeLength_7cf53_34 : decode cJ8_hugeLength_7cf53 34 = .ok (.invokevirtual 98, 3) := by decide +kernel
theorem dJ8_hugeLength_7cf53_37 : decode cJ8_hugeLength_7cf53 37 = .ok (.ldc 210, 2) := by decide +kernel
theorem dJ8_hugeLength_7cf53_39 : decode cJ8_hugeLength_7cf53 39 = .ok (.invokevirtual 94, 3) := by decide +kernel
theorem dJ8_hugeLength_7cf53_42 : decode cJ8_hugeLength_7cf53 42 = .ok (.invokevirtual 101, 3) := by decide +kernel
theorem dJ8_hugeLength_7cf53_45 : decode cJ8_hugeLength_7cf53 45 = .ok (.invokespecial 212, 3) := by decide +kernel
theorem dJ8_hugeLength_7cf53_48 : decode cJ8_hugeLength_7cf53 48 = .ok (.athrow, 1) := by decide +kernel
theorem dJ8_hugeLength_7cf53_49 : decode cJ8_hugeLength_7cf53 49 = .ok (.iload_n 2, 1) := by decide +kernel
theorem dJ8_hugeLength_7cf53_50 : decode cJ8_hugeLength_7cf53 50 = .ok (.ldc 200, 2) := by decide +kernel
theorem dJ8_hugeLength_7cf53_52 : decode cJ8_hugeLength_7cf53 52 = .ok (.if_icmp .gt 6, 3) := by decide +kernel
theorem dJ8_hugeLength_7cf53_55 : decode cJ8_hugeLength_7cf53 55 = .ok (.ldc 200, 2) := by decide +kernel
theorem dJ8_hugeLength_7cf53_57 : decode cJ8_hugeLength_7cf53 57 = .ok (.ireturn, 1) := by decide +kernel
theorem dJ8_hugeLength_7cf53_58 : decode cJ8_hugeLength_7cf53 58 = .ok (.iload_n 2, 1) := by decide +kernel
theorem dJ8_hugeLength_7cf53_59 : decode cJ8_hugeLength_7cf53 59 = .ok (.ireturn, 1) := by decide +kernel
theorem dJ3_checkIndex_8e157_0 : decode cJ3_checkIndex_8e157 0 = .ok (.iload_n 0, 1) := by decide +kernel
theorem dJ3_checkIndex_8e157_1 : decode cJ3_checkIndex_8e157 1 = .ok (.ifCond .lt 8, 3) := by decide +kernel
theorem dJ3_checkIndex_8e157_4 : decode cJ3_checkIndex_8e157 4 = .ok (.iload_n 0, 1) := by decide +kernel
theorem dJ3_checkIndex_8e157_5 : decode cJ3_checkIndex_8e157 5 = .ok (.iload_n 1, 1) := by decide +kernel
theorem dJ3_checkIndex_8e157_6 : decode cJ3_checkIndex_8e157 6 = .ok (.if_icmp .lt 10, 3) := by decide +kernel
theorem dJ3_checkIndex_8e157_9 : decode cJ3_checkIndex_8e157 9 = .ok (.aload_n 2, 1) := by decide +kernel
theorem dJ3_checkIndex_8e157_10 : decode cJ3_checkIndex_8e157 10 = .ok (.iload_n 0, 1) := by decide +kernel
theorem dJ3_checkIndex_8e157_11 : decode cJ3_checkIndex_8e157 11 = .ok (.iload_n 1, 1) := by decide +kernel
theorem dJ3_checkIndex_8e157_12 : decode cJ3_checkIndex_8e157 12 = .ok (.invokestatic 95, 3) := by decide +kernel
theorem dJ3_checkIndex_8e157_15 : decode cJ3_checkIndex_8e157 15 = .ok (.athrow, 1) := by decide +kernel
theorem dJ3_checkIndex_8e157_16 : decode cJ3_checkIndex_8e157 16 = .ok (.iload_n 0, 1) := by decide +kernel
theorem dJ3_checkIndex_8e157_17 : decode cJ3_checkIndex_8e157 17 = .ok (.ireturn, 1) := by decide +kernel
