theorem dX6_readItem_15 : decode cX6_readItem 15 = .ok (.lconst 0, 1) := by decide +kernel
theorem dX6_readItem_16 : decode cX6_readItem 16 = .ok (.lstore_n 1, 1) := by decide +kernel
theorem dX6_readItem_17 : decode cX6_readItem 17 = .ok (.lload_n 1, 1) := by decide +kernel
theorem dX6_readItem_18 : decode cX6_readItem 18 = .ok (.ldc2_w 110, 3) := by decide +kernel
theorem dX6_readItem_21 : decode cX6_readItem 21 = .ok (.lcmp, 1) := by decide +kernel
theorem dX6_readItem_22 : decode cX6_readItem 22 = .ok (.ifCond .ne 10, 3) := by decide +kernel
theorem dX6_readItem_25 : decode cX6_readItem 25 = .ok (.aload_n 0, 1) := by decide +kernel
theorem dX6_readItem_26 : decode cX6_readItem 26 = .ok (.invokevirtual 112, 3) := by decide +kernel
theorem dX6_readItem_29 : decode cX6_readItem 29 = .ok (.goto 53, 3) := by decide +kernel
theorem dX6_readItem_32 : decode cX6_readItem 32 = .ok (.lload_n 1, 1) := by decide +kernel
theorem dX6_readItem_33 : decode cX6_readItem 33 = .ok (.ldc2_w 115, 3) := by decide +kernel
theorem dX6_readItem_36 : decode cX6_readItem 36 = .ok (.lcmp, 1) := by decide +kernel
theorem dX6_readItem_37 : decode cX6_readItem 37 = .ok (.ifCond .ne 10, 3) := by decide +kernel
theorem dX6_readItem_40 : decode cX6_readItem 40 = .ok (.aload_n 0, 1) := by decide +kernel
theorem dX6_readItem_41 : decode cX6_readItem 41 = .ok (.invokevirtual 117, 3) := by decide +kernel
theorem dX6_readItem_44 : decode cX6_readItem 44 = .ok (.goto 38, 3) := by decide +kernel
theorem dX6_readItem_47 : decode cX6_readItem 47 = .ok (.lload_n 1, 1) := by decide +kernel
theorem dX6_readItem_48 : decode cX6_readItem 48 = .ok (.ldc2_w 120, 3) := by decide +kernel
theorem dX6_readItem_51 : decode cX6_readItem 51 = .ok (.lcmp, 1) := by decide +kernel
theorem dX6_readItem_52 : decode cX6_readItem 52 = .ok (.ifCond .ne 10, 3) := by decide +kernel
theorem dX6_readItem_55 : decode cX6_readItem 55 = .ok (.aload_n 0, 1) := by decide +kernel
theorem dX6_readItem_56 : decode cX6_readItem 56 = .ok (.invokevirtual 122, 3) := by decide +kernel
theorem dX6_readItem_59 : decode cX6_readItem 59 = .ok (.goto 23, 3) := by decide +kernel
theorem dX6_readItem_62 : decode cX6_readItem 62 = .ok (.lload_n 1, 1) := by decide +kernel
theorem dX6_readItem_63 : decode cX6_readItem 63 = .ok (.ldc2_w 125, 3) := by decide +kernel
theorem dX6_readItem_66 : decode cX6_readItem 66 = .ok (.lcmp, 1) := by decide +kernel
theorem dX6_readItem_67 : decode cX6_readItem 67 = .ok (.ifCond .ne 10, 3) := by decide +kernel
theorem dX6_readItem_70 : decode cX6_readItem 70 = .ok (.aload_n 0, 1) := by decide +kernel
theorem dX6_readItem_71 : decode cX6_readItem 71 = .ok (.invokevirtual 127, 3) := by decide +kernel
theorem dX6_readItem_74 : decode cX6_readItem 74 = .ok (.goto 8, 3) := by decide +kernel
theorem dX6_readItem_77 : decode cX6_readItem 77 = .ok (.aload_n 0, 1) := by decide +kernel
theorem dX6_readItem_78 : decode cX6_readItem 78 = .ok (.iconst 1, 1) := by decide +kernel
theorem dX6_readItem_79 : decode cX6_readItem 79 = .ok (.putfield 83, 3) := by decide +kernel
theorem dX6_readItem_82 : decode cX6_readItem 82 = .ok (.return_, 1) := by decide +kernel
set_option maxRecDepth 20000 in
theorem ggX6_valley_X6_next : GoodIn wsX6_valley wsX6_next := goodIn_r _ [27, 1, 8, 7, 28, 29, 30, 31, 32, 26, 33, 22, 34, 35, 36, 37, 70, 71, 72, 73, 74, 75, 76, 77, 78, 79, 80, 81, 82, 83, 84, 85, 86, 87, 88, 89, 90, 91, 92, 93, 94, 95, 96, 97, 98, 99] (by decide +kernel) (by decide +kernel)
set_option maxRecDepth 20000 in
theorem gX6_valley_X6_next : GoodIn wsX6_valley (wsV RX6 87 RX6 yX6_next wsX6_next) := goodIn_app (goodIn_of _ (by decide +kernel)) ggX6_valley_X6_next
set_option maxRecDepth 20000 in
theorem ggX6_valley_X6_readItem : GoodIn wsX6_valley wsX6_readItem := goodIn_r _ [41, 7, 28, 42, 43, 44, 45, 2, 46, 47, 48, 26, 49, 3, 14, 50, 51, 52, 53, 23, 24, 25, 27, 1, 8, 29, 30, 31, 32, 33, 22, 34, 35, 36, 37, 54, 55, 56, 57, 58, 59, 60, 61, 4, 16, 62, 63, 64, 65, 5, 18, 66, 67, 68, 69, 6, 20, 70, 71, 72, 73, 74, 75, 76, 77, 78, 79, 80, 81, 82, 83, 84, 85, 86, 87, 88, 89, 90, 91, 92, 93, 94, 95, 96, 97, 98, 99] (by decide +kernel) (by decide +kernel)
set_option maxRecDepth 20000 in
theorem gX6_valley_X6_readItem : GoodIn wsX6_valley (wsV RX6 130 RX6 yX6_readItem wsX6_readItem) := goodIn_app (goodIn_of _ (by decide +kernel)) ggX6_valley_X6_readItem
theorem dX6_valley_0 : decode cX6_valley 0 = .ok (.aload_n 0, 1) := by decide +kernel
theorem dX6_valley_1 : decode cX6_valley 1 = .ok (.iconst 0, 1) := by decide +kernel
theorem dX6_valley_2 : decode cX6_valley 2 = .ok (.putfield 63, 3) := by decide +kernel
theorem dX6_valley_5 : decode cX6_valley 5 = .ok (.aload_n 0, 1) := by decide +kernel
theorem dX6_valley_6 : decode cX6_valley 6 = .ok (.iconst 0, 1) := by decide +kernel
theorem dX6_valley_7 : decode cX6_valley 7 = .ok (.putfield 83, 3) := by decide +kernel
theorem dX6_valley_10 : decode cX6_valley 10 = .ok (.aload_n 0, 1) := by decide +kernel
theorem dX6_valley_11 : decode cX6_valley 11 = .ok (.iconst 0, 1) := by decide +kernel
theorem dX6_valley_12 : decode cX6_valley 12 = .ok (.putfield 94, 3) := by decide +kernel
theorem dX6_valley_15 : decode cX6_valley 15 = .ok (.aload_n 0, 1) := by decide +kernel
theorem dX6_valley_16 : decode cX6_valley 16 = .ok (.iconst 0, 1) := by decide +kernel
theorem dX6_valley_17 : decode cX6_valley 17 = .ok (.putfield 101, 3) := by decide +kernel
theorem dX6_valley_20 : decode cX6_valley 20 = .ok (.aload_n 0, 1) := by decide +kernel
theorem dX6_valley_21 : decode cX6_valley 21 = .ok (.iconst 0, 1) := by decide +kernel
theorem dX6_valley_22 : decode cX6_valley 22 = .ok (.putfield 104, 3) := by decide +kernel
theorem dX6_valley_25 : decode cX6_valley 25 = .ok (.aload_n 0, 1) := by decide +kernel
theorem dX6_valley_26 : decode cX6_valley 26 = .ok (.iconst 0, 1) := by decide +kernel
theorem dX6_valley_27 : decode cX6_valley 27 = .ok (.putfield 107, 3) := by decide +kernel
theorem dX6_valley_30 : decode cX6_valley 30 = .ok (.iconst 0, 1) := by decide +kernel
theorem dX6_valley_31 : decode cX6_valley 31 = .ok (.istore_n 1, 1) := by decide +kernel
theorem dX6_valley_32 : decode cX6_valley 32 = .ok (.aload_n 0, 1) := by decide +kernel
theorem dX6_valley_33 : decode cX6_valley 33 = .ok (.invokevirtual 87, 3) := by decide +kernel
theorem dX6_valley_36 : decode cX6_valley 36 = .ok (.aload_n 0, 1) := by decide +kernel
theorem dX6_valley_37 : decode cX6_valley 37 = .ok (.getfield 73, 3) := by decide +kernel
theorem dX6_valley_40 : decode cX6_valley 40 = .ok (.ifCond .eq 20, 3) := by decide +kernel
theorem dX6_valley_43 : decode cX6_valley 43 = .ok (.aload_n 0, 1) := by decide +kernel
theorem dX6_valley_44 : decode cX6_valley 44 = .ok (.getfield 83, 3) := by decide +kernel
theorem dX6_valley_47 : decode cX6_valley 47 = .ok (.ifCond .ne 13, 3) := by decide +kernel
theorem dX6_valley_50 : decode cX6_valley 50 = .ok (.aload_n 0, 1) := by decide +kernel
theorem dX6_valley_51 : decode cX6_valley 51 = .ok (.invokevirtual 130, 3) := by decide +kernel
theorem dX6_valley_54 : decode cX6_valley 54 = .ok (.iinc 1 1, 3) := by decide +kernel
theorem dX6_valley_57 : decode cX6_valley 57 = .ok (.goto (-21), 3) := by decide +kernel
theorem dX6_valley_60 : decode cX6_valley 60 = .ok (.aload_n 0, 1) := by decide +kernel
theorem dX6_valley_61 : decode cX6_valley 61 = .ok (.getfield 83, 3) := by decide +kernel
theorem dX6_valley_64 : decode cX6_valley 64 = .ok (.ifCond .eq 11, 3) := by decide +kernel
theorem dX6_valley_67 : decode cX6_valley 67 = .ok (.bipush (-10), 2) := by decide +kernel
theorem dX6_valley_69 : decode cX6_valley 69 = .ok (.aload_n 0, 1) := by decide +kernel
theorem dX6_valley_70 : decode cX6_valley 70 = .ok (.getfield 70, 3) := by decide +kernel
theorem dX6_valley_73 : decode cX6_valley 73 = .ok (.isub, 1) := by decide +kernel
theorem dX6_valley_74 : decode cX6_valley 74 = .ok (.ireturn, 1) := by decide +kernel
theorem dX6_valley_75 : decode cX6_valley 75 = .ok (.iconst 0, 1) := by decide +kernel
theorem dX6_valley_76 : decode cX6_valley 76 = .ok (.istore_n 2, 1) := by decide +kernel
theorem dX6_valley_77 : decode cX6_valley 77 = .ok (.iload_n 2, 1) := by decide +kernel
theorem dX6_valley_78 : decode cX6_valley 78 = .ok (.bipush 104, 2) := by decide +kernel
theorem dX6_valley_80 : decode cX6_valley 80 = .ok (.if_icmp .ge 16, 3) := by decide +kernel
theorem dX6_valley_83 : decode cX6_valley 83 = .ok (.aload_n 0, 1) := by decide +kernel
theorem dX6_valley_84 : decode cX6_valley 84 = .ok (.getfield 19, 3) := by decide +kernel
theorem dX6_valley_87 : decode cX6_valley 87 = .ok (.iload_n 2, 1) := by decide +kernel
theorem dX6_valley_88 : decode cX6_valley 88 = .ok (.iconst 0, 1) := by decide +kernel
theorem dX6_valley_89 : decode cX6_valley 89 = .ok (.iastore, 1) := by decide +kernel
theorem dX6_valley_90 : decode cX6_valley 90 = .ok (.iinc 2 1, 3) := by decide +kernel
theorem dX6_valley_93 : decode cX6_valley 93 = .ok (.goto (-16), 3) := by decide +kernel
theorem dX6_valley_96 : decode cX6_valley 96 = .ok (.aload_n 0, 1) := by decide +kernel
theorem dX6_valley_97 : decode cX6_valley 97 = .ok (.aload_n 0, 1) := by decide +kernel
theorem dX6_valley_98 : decode cX6_valley 98 = .ok (.getfield 94, 3) := by decide +kernel
theorem dX6_valley_101 : decode cX6_valley 101 = .ok (.putfield 47, 3) := by decide +kernel
theorem dX6_valley_104 : decode cX6_valley 104 = .ok (.aload_n 0, 1) := by decide +kernel
theorem dX6_valley_105 : decode cX6_valley 105 = .ok (.aload_n 0, 1) := by decide +kernel
theorem dX6_valley_106 : decode cX6_valley 106 = .ok (.getfield 101, 3) := by decide +kernel
theorem dX6_valley_109 : decode cX6_valley 109 = .ok (.putfield 133, 3) := by decide +kernel
theorem dX6_valley_112 : decode cX6_valley 112 = .ok (.aload_n 0, 1) := by decide +kernel
theorem dX6_valley_113 : decode cX6_valley 113 = .ok (.aload_n 0, 1) := by decide +kernel
theorem dX6_valley_114 : decode cX6_valley 114 = .ok (.getfield 104, 3) := by decide +kernel
theorem dX6_valley_117 : decode cX6_valley 117 = .ok (.putfield 136, 3) := by decide +kernel
theorem dX6_valley_120 : decode cX6_valley 120 = .ok (.aload_n 0, 1) := by decide +kernel
theorem dX6_valley_121 : decode cX6_valley 121 = .ok (.aload_n 0, 1) := by decide +kernel
theorem dX6_valley_122 : decode cX6_valley 122 = .ok (.getfield 107, 3) := by decide +kernel
theorem dX6_valley_125 : decode cX6_valley 125 = .ok (.putfield 55, 3) := by decide +kernel
theorem dX6_valley_128 : decode cX6_valley 128 = .ok (.iconst 0, 1) := by decide +kernel
theorem dX6_valley_129 : decode cX6_valley 129 = .ok (.istore_n 2, 1) := by decide +kernel
theorem dX6_valley_130 : decode cX6_valley 130 = .ok (.iload_n 2, 1) := by decide +kernel
theorem dX6_valley_131 : decode cX6_valley 131 = .ok (.iconst 5, 1) := by decide +kernel
theorem dX6_valley_132 : decode cX6_valley 132 = .ok (.if_icmp .ge 23, 3) := by decide +kernel
theorem dX6_valley_135 : decode cX6_valley 135 = .ok (.aload_n 0, 1) := by decide +kernel
theorem dX6_valley_136 : decode cX6_valley 136 = .ok (.getfield 19, 3) := by decide +kernel
theorem dX6_valley_139 : decode cX6_valley 139 = .ok (.iconst 3, 1) := by decide +kernel
theorem dX6_valley_140 : decode cX6_valley 140 = .ok (.iload_n 2, 1) := by decide +kernel
theorem dX6_valley_141 : decode cX6_valley 141 = .ok (.iadd, 1) := by decide +kernel
theorem dX6_valley_142 : decode cX6_valley 142 = .ok (.aload_n 0, 1) := by decide +kernel
theorem dX6_valley_143 : decode cX6_valley 143 = .ok (.getfield 32, 3) := by decide +kernel
theorem dX6_valley_146 : decode cX6_valley 146 = .ok (.iload_n 2, 1) := by decide +kernel
theorem dX6_valley_147 : decode cX6_valley 147 = .ok (.iaload, 1) := by decide +kernel
theorem dX6_valley_148 : decode cX6_valley 148 = .ok (.iastore, 1) := by decide +kernel
theorem dX6_valley_149 : decode cX6_valley 149 = .ok (.iinc 2 1, 3) := by decide +kernel
theorem dX6_valley_152 : decode cX6_valley 152 = .ok (.goto (-22), 3) := by decide +kernel
theorem dX6_valley_155 : decode cX6_valley 155 = .ok (.iconst 0, 1) := by decide +kernel
theorem dX6_valley_156 : decode cX6_valley 156 = .ok (.istore_n 2, 1) := by decide +kernel
theorem dX6_valley_157 : decode cX6_valley 157 = .ok (.iload_n 2, 1) := by decide +kernel
theorem dX6_valley_158 : decode cX6_valley 158 = .ok (.bipush 20, 2) := by decide +kernel
theorem dX6_valley_160 : decode cX6_valley 160 = .ok (.if_icmp .ge 21, 3) := by decide +kernel
theorem dX6_valley_163 : decode cX6_valley 163 = .ok (.aload_n 0, 1) := by decide +kernel
theorem dX6_valley_164 : decode cX6_valley 164 = .ok (.getfield 7, 3) := by decide +kernel
theorem dX6_valley_167 : decode cX6_valley 167 = .ok (.iload_n 2, 1) := by decide +kernel
theorem dX6_valley_168 : decode cX6_valley 168 = .ok (.aload_n 0, 1) := by decide +kernel
theorem dX6_valley_169 : decode cX6_valley 169 = .ok (.getfield 35, 3) := by decide +kernel
theorem dX6_valley_172 : decode cX6_valley 172 = .ok (.iload_n 2, 1) := by decide +kernel
theorem dX6_valley_173 : decode cX6_valley 173 = .ok (.iaload, 1) := by decide +kernel
theorem dX6_valley_174 : decode cX6_valley 174 = .ok (.iastore, 1) := by decide +kernel
theorem dX6_valley_175 : decode cX6_valley 175 = .ok (.iinc 2 1, 3) := by decide +kernel
theorem dX6_valley_178 : decode cX6_valley 178 = .ok (.goto (-21), 3) := by decide +kernel
theorem dX6_valley_181 : decode cX6_valley 181 = .ok (.iconst 0, 1) := by decide +kernel
theorem dX6_valley_182 : decode cX6_valley 182 = .ok (.istore_n 2, 1) := by decide +kernel
theorem dX6_valley_183 : decode cX6_valley 183 = .ok (.iload_n 2, 1) := by decide +kernel
theorem dX6_valley_184 : decode cX6_valley 184 = .ok (.bipush 9, 2) := by decide +kernel
theorem dX6_valley_186 : decode cX6_valley 186 = .ok (.if_icmp .ge 21, 3) := by decide +kernel
theorem dX6_valley_189 : decode cX6_valley 189 = .ok (.aload_n 0, 1) := by decide +kernel
theorem dX6_valley_190 : decode cX6_valley 190 = .ok (.getfield 13, 3) := by decide +kernel
theorem dX6_valley_193 : decode cX6_valley 193 = .ok (.iload_n 2, 1) := by decide +kernel
theorem dX6_valley_194 : decode cX6_valley 194 = .ok (.aload_n 0, 1) := by decide +kernel
theorem dX6_valley_195 : decode cX6_valley 195 = .ok (.getfield 38, 3) := by decide +kernel
theorem dX6_valley_198 : decode cX6_valley 198 = .ok (.iload_n 2, 1) := by decide +kernel
theorem dX6_valley_199 : decode cX6_valley 199 = .ok (.iaload, 1) := by decide +kernel
theorem dX6_valley_200 : decode cX6_valley 200 = .ok (.iastore, 1) := by decide +kernel
theorem dX6_valley_201 : decode cX6_valley 201 = .ok (.iinc 2 1, 3) := by decide +kernel
theorem dX6_valley_204 : decode cX6_valley 204 = .ok (.goto (-21), 3) := by decide +kernel
theorem dX6_valley_207 : decode cX6_valley 207 = .ok (.iconst 0, 1) := by decide +kernel
theorem dX6_valley_208 : decode cX6_valley 208 = .ok (.istore_n 2, 1) := by decide +kernel
theorem dX6_valley_209 : decode cX6_valley 209 = .ok (.iload_n 2, 1) := by decide +kernel
theorem dX6_valley_210 : decode cX6_valley 210 = .ok (.bipush 10, 2) := by decide +kernel
theorem dX6_valley_212 : decode cX6_valley 212 = .ok (.if_icmp .ge 21, 3) := by decide +kernel
theorem dX6_valley_215 : decode cX6_valley 215 = .ok (.aload_n 0, 1) := by decide +kernel
theorem dX6_valley_216 : decode cX6_valley 216 = .ok (.getfield 16, 3) := by decide +kernel
theorem dX6_valley_219 : decode cX6_valley 219 = .ok (.iload_n 2, 1) := by decide +kernel
theorem dX6_valley_220 : decode cX6_valley 220 = .ok (.aload_n 0, 1) := by decide +kernel
theorem dX6_valley_221 : decode cX6_valley 221 = .ok (.getfield 41, 3) := by decide +kernel
theorem dX6_valley_224 : decode cX6_valley 224 = .ok (.iload_n 2, 1) := by decide +kernel
theorem dX6_valley_225 : decode cX6_valley 225 = .ok (.iaload, 1) := by decide +kernel
theorem dX6_valley_226 : decode cX6_valley 226 = .ok (.iastore, 1) := by decide +kernel
theorem dX6_valley_227 : decode cX6_valley 227 = .ok (.iinc 2 1, 3) := by decide +kernel
theorem dX6_valley_230 : decode cX6_valley 230 = .ok (.goto (-21), 3) := by decide +kernel
theorem dX6_valley_233 : decode cX6_valley 233 = .ok (.aload_n 0, 1) := by decide +kernel
theorem dX6_valley_234 : decode cX6_valley 234 = .ok (.getfield 25, 3) := by decide +kernel
theorem dX6_valley_237 : decode cX6_valley 237 = .ok (.iconst 0, 1) := by decide +kernel
theorem dX6_valley_238 : decode cX6_valley 238 = .ok (.iconst 0, 1) := by decide +kernel
theorem dX6_valley_239 : decode cX6_valley 239 = .ok (.bastore, 1) := by decide +kernel
theorem dX6_valley_240 : decode cX6_valley 240 = .ok (.aload_n 0, 1) := by decide +kernel
theorem dX6_valley_241 : decode cX6_valley 241 = .ok (.getfield 25, 3) := by decide +kernel
theorem dX6_valley_244 : decode cX6_valley 244 = .ok (.iconst 1, 1) := by decide +kernel
theorem dX6_valley_245 : decode cX6_valley 245 = .ok (.iconst 0, 1) := by decide +kernel
theorem dX6_valley_246 : decode cX6_valley 246 = .ok (.bastore, 1) := by decide +kernel
theorem dX6_valley_247 : decode cX6_valley 247 = .ok (.aload_n 0, 1) := by decide +kernel
theorem dX6_valley_248 : decode cX6_valley 248 = .ok (.iconst 0, 1) := by decide +kernel
theorem dX6_valley_249 : decode cX6_valley 249 = .ok (.putfield 58, 3) := by decide +kernel
theorem dX6_valley_252 : decode cX6_valley 252 = .ok (.iload_n 1, 1) := by decide +kernel
theorem dX6_valley_253 : decode cX6_valley 253 = .ok (.ireturn, 1) := by decide +kernel
theorem dX6_looksOf_0 : decode cX6_looksOf 0 = .ok (.aload_n 0, 1) := by decide +kernel
theorem dX6_looksOf_1 : decode cX6_looksOf 1 = .ok (.getfield 19, 3) := by decide +kernel
theorem dX6_looksOf_4 : decode cX6_looksOf 4 = .ok (.iconst 3, 1) := by decide +kernel
theorem dX6_looksOf_5 : decode cX6_looksOf 5 = .ok (.iload_n 1, 1) := by decide +kernel
theorem dX6_looksOf_6 : decode cX6_looksOf 6 = .ok (.iadd, 1) := by decide +kernel
theorem dX6_looksOf_7 : decode cX6_looksOf 7 = .ok (.iaload, 1) := by decide +kernel
theorem dX6_looksOf_8 : decode cX6_looksOf 8 = .ok (.bipush 8, 2) := by decide +kernel
theorem dX6_looksOf_10 : decode cX6_looksOf 10 = .ok (.iadd, 1) := by decide +kernel
theorem dX6_looksOf_11 : decode cX6_looksOf 11 = .ok (.iload_n 2, 1) := by decide +kernel
theorem dX6_looksOf_12 : decode cX6_looksOf 12 = .ok (.bipush 8, 2) := by decide +kernel
theorem dX6_looksOf_14 : decode cX6_looksOf 14 = .ok (.irem, 1) := by decide +kernel
theorem dX6_looksOf_15 : decode cX6_looksOf 15 = .ok (.isub, 1) := by decide +kernel
theorem dX6_looksOf_16 : decode cX6_looksOf 16 = .ok (.bipush 8, 2) := by decide +kernel
theorem dX6_looksOf_18 : decode cX6_looksOf 18 = .ok (.irem, 1) := by decide +kernel
theorem dX6_looksOf_19 : decode cX6_looksOf 19 = .ok (.ireturn, 1) := by decide +kernel
set_option maxRecDepth 20000 in
theorem ggX6_looks_X6_isDish : GoodIn wsX6_looks wsX6_isDish := goodIn_r _ [5, 6, 7, 8, 4, 9, 18, 19, 20, 21, 22, 23, 24, 25, 26, 27, 28, 29, 30, 31, 32, 33, 34, 35, 36, 37, 38, 39, 40, 41, 42, 43, 44, 45, 46, 47] (by decide +kernel) (by decide +kernel)
set_option maxRecDepth 20000 in
theorem gX6_looks_X6_isDish : GoodIn wsX6_looks (wsV RX6 139 RX6 yX6_isDish wsX6_isDish) := goodIn_app (goodIn_of _ (by decide +kernel)) ggX6_looks_X6_isDish
set_option maxRecDepth 20000 in
theorem ggX6_looks_X6_isHour : GoodIn wsX6_looks wsX6_isHour := goodIn_r _ [12, 7, 8, 4, 9] (by decide +kernel) (by decide +kernel)
set_option maxRecDepth 20000 in
theorem gX6_looks_X6_isHour : GoodIn wsX6_looks (va_wsS RX6 143 yX6_isHour wsX6_isHour) := goodIn_app (goodIn_of _ (by decide +kernel)) ggX6_looks_X6_isHour
set_option maxRecDepth 20000 in
theorem ggX6_looks_X6_looksOf : GoodIn wsX6_looks wsX6_looksOf := goodIn_r _ [16, 17, 18, 19, 20, 21, 22, 23, 24, 25, 26, 27, 28, 29, 30, 31, 32, 33, 34, 35, 36, 37, 38, 39, 40, 41, 42, 43, 44, 45, 46, 47] (by decide +kernel) (by decide +kernel)
set_option maxRecDepth 20000 in
theorem gX6_looks_X6_looksOf : GoodIn wsX6_looks (wsV RX6 146 RX6 yX6_looksOf wsX6_looksOf) := goodIn_app (goodIn_of _ (by decide +kernel)) ggX6_looks_X6_looksOf
theorem dX6_looks_0 : decode cX6_looks 0 = .ok (.aload_n 0, 1) := by decide +kernel
theorem dX6_looks_1 : decode cX6_looks 1 = .ok (.iload_n 1, 1) := by decide +kernel
theorem dX6_looks_2 : decode cX6_looks 2 = .ok (.invokevirtual 139, 3) := by decide +kernel
theorem dX6_looks_5 : decode cX6_looks 5 = .ok (.ifCond .eq 19, 3) := by decide +kernel
theorem dX6_looks_8 : decode cX6_looks 8 = .ok (.iload_n 2, 1) := by decide +kernel
theorem dX6_looks_9 : decode cX6_looks 9 = .ok (.invokestatic 143, 3) := by decide +kernel
theorem dX6_looks_12 : decode cX6_looks 12 = .ok (.ifCond .eq 12, 3) := by decide +kernel
theorem dX6_looks_15 : decode cX6_looks 15 = .ok (.aload_n 0, 1) := by decide +kernel
theorem dX6_looks_16 : decode cX6_looks 16 = .ok (.iload_n 1, 1) := by decide +kernel
theorem dX6_looks_17 : decode cX6_looks 17 = .ok (.iload_n 2, 1) := by decide +kernel
theorem dX6_looks_18 : decode cX6_looks 18 = .ok (.invokevirtual 146, 3) := by decide +kernel
theorem dX6_looks_21 : decode cX6_looks 21 = .ok (.goto 4, 3) := by decide +kernel
theorem dX6_looks_24 : decode cX6_looks 24 = .ok (.iconst (-1), 1) := by decide +kernel
theorem dX6_looks_25 : decode cX6_looks 25 = .ok (.ireturn, 1) := by decide +kernel
set_option maxRecDepth 20000 in
theorem ggX6_hears_X6_isDish : GoodIn wsX6_hears wsX6_isDish := goodIn_r _ [9, 10, 11, 12, 8, 13, 22, 23, 24, 25, 26, 27, 28, 29, 30, 31, 32, 33, 34, 35, 36, 37, 38, 39, 40, 41, 42, 43, 44, 45, 46, 47, 48, 49, 50, 51] (by decide +kernel) (by decide +kernel)
set_option maxRecDepth 20000 in
theorem gX6_hears_X6_isDish : GoodIn wsX6_hears (wsV RX6 139 RX6 yX6_isDish wsX6_isDish) := goodIn_app (goodIn_of _ (by decide +kernel)) ggX6_hears_X6_isDish
set_option maxRecDepth 20000 in
theorem ggX6_hears_X6_isHour : GoodIn wsX6_hears wsX6_isHour := goodIn_r _ [16, 11, 12, 8, 13] (by decide +kernel) (by decide +kernel)
set_option maxRecDepth 20000 in
theorem gX6_hears_X6_isHour : GoodIn wsX6_hears (va_wsS RX6 143 yX6_isHour wsX6_isHour) := goodIn_app (goodIn_of _ (by decide +kernel)) ggX6_hears_X6_isHour
set_option maxRecDepth 20000 in
theorem ggX6_hears_X6_looksOf : GoodIn wsX6_hears wsX6_looksOf := goodIn_r _ [20, 21, 22, 23, 24, 25, 26, 27, 28, 29, 30, 31, 32, 33, 34, 35, 36, 37, 38, 39, 40, 41, 42, 43, 44, 45, 46, 47, 48, 49, 50, 51] (by decide +kernel) (by decide +kernel)
set_option maxRecDepth 20000 in
theorem gX6_hears_X6_looksOf : GoodIn wsX6_hears (wsV RX6 146 RX6 yX6_looksOf wsX6_looksOf) := goodIn_app (goodIn_of _ (by decide +kernel)) ggX6_hears_X6_looksOf
set_option maxRecDepth 20000 in
theorem ggX6_hears_X6_in : GoodIn wsX6_hears wsX6_in := goodIn_r _ [13] (by decide +kernel) (by decide +kernel)
set_option maxRecDepth 20000 in
theorem gX6_hears_X6_in : GoodIn wsX6_hears (va_wsS RX6 51 yX6_in wsX6_in) := goodIn_app (goodIn_of _ (by decide +kernel)) ggX6_hears_X6_in
theorem dX6_hears_0 : decode cX6_hears 0 = .ok (.aload_n 0, 1) := by decide +kernel
theorem dX6_hears_1 : decode cX6_hears 1 = .ok (.iload_n 1, 1) := by decide +kernel
theorem dX6_hears_2 : decode cX6_hears 2 = .ok (.invokevirtual 139, 3) := by decide +kernel
theorem dX6_hears_5 : decode cX6_hears 5 = .ok (.ifCond .eq 10, 3) := by decide +kernel
theorem dX6_hears_8 : decode cX6_hears 8 = .ok (.iload_n 2, 1) := by decide +kernel
theorem dX6_hears_9 : decode cX6_hears 9 = .ok (.invokestatic 143, 3) := by decide +kernel
theorem dX6_hears_12 : decode cX6_hears 12 = .ok (.ifCond .ne 5, 3) := by decide +kernel
theorem dX6_hears_15 : decode cX6_hears 15 = .ok (.iconst (-1), 1) := by decide +kernel
theorem dX6_hears_16 : decode cX6_hears 16 = .ok (.ireturn, 1) := by decide +kernel
theorem dX6_hears_17 : decode cX6_hears 17 = .ok (.iconst 0, 1) := by decide +kernel
theorem dX6_hears_18 : decode cX6_hears 18 = .ok (.istore_n 3, 1) := by decide +kernel
theorem dX6_hears_19 : decode cX6_hears 19 = .ok (.iconst 0, 1) := by decide +kernel
theorem dX6_hears_20 : decode cX6_hears 20 = .ok (.istore 4, 2) := by decide +kernel
theorem dX6_hears_22 : decode cX6_hears 22 = .ok (.iload 4, 2) := by decide +kernel
theorem dX6_hears_24 : decode cX6_hears 24 = .ok (.aload_n 0, 1) := by decide +kernel
theorem dX6_hears_25 : decode cX6_hears 25 = .ok (.getfield 133, 3) := by decide +kernel
theorem dX6_hears_28 : decode cX6_hears 28 = .ok (.if_icmp .ge 88, 3) := by decide +kernel
theorem dX6_hears_31 : decode cX6_hears 31 = .ok (.aload_n 0, 1) := by decide +kernel
theorem dX6_hears_32 : decode cX6_hears 32 = .ok (.getfield 7, 3) := by decide +kernel
theorem dX6_hears_35 : decode cX6_hears 35 = .ok (.iconst 4, 1) := by decide +kernel
theorem dX6_hears_36 : decode cX6_hears 36 = .ok (.iload 4, 2) := by decide +kernel
theorem dX6_hears_38 : decode cX6_hears 38 = .ok (.imul, 1) := by decide +kernel
theorem dX6_hears_39 : decode cX6_hears 39 = .ok (.iaload, 1) := by decide +kernel
theorem dX6_hears_40 : decode cX6_hears 40 = .ok (.aload_n 0, 1) := by decide +kernel
theorem dX6_hears_41 : decode cX6_hears 41 = .ok (.iload_n 1, 1) := by decide +kernel
theorem dX6_hears_42 : decode cX6_hears 42 = .ok (.iload_n 2, 1) := by decide +kernel
theorem dX6_hears_43 : decode cX6_hears 43 = .ok (.invokevirtual 146, 3) := by decide +kernel
theorem dX6_hears_46 : decode cX6_hears 46 = .ok (.if_icmp .ne 36, 3) := by decide +kernel
theorem dX6_hears_49 : decode cX6_hears 49 = .ok (.iload_n 2, 1) := by decide +kernel
theorem dX6_hears_50 : decode cX6_hears 50 = .ok (.aload_n 0, 1) := by decide +kernel
theorem dX6_hears_51 : decode cX6_hears 51 = .ok (.getfield 7, 3) := by decide +kernel
theorem dX6_hears_54 : decode cX6_hears 54 = .ok (.iconst 4, 1) := by decide +kernel
theorem dX6_hears_55 : decode cX6_hears 55 = .ok (.iload 4, 2) := by decide +kernel
theorem dX6_hears_57 : decode cX6_hears 57 = .ok (.imul, 1) := by decide +kernel
theorem dX6_hears_58 : decode cX6_hears 58 = .ok (.iconst 2, 1) := by decide +kernel
theorem dX6_hears_59 : decode cX6_hears 59 = .ok (.iadd, 1) := by decide +kernel
theorem dX6_hears_60 : decode cX6_hears 60 = .ok (.iaload, 1) := by decide +kernel
theorem dX6_hears_61 : decode cX6_hears 61 = .ok (.aload_n 0, 1) := by decide +kernel
theorem dX6_hears_62 : decode cX6_hears 62 = .ok (.getfield 7, 3) := by decide +kernel
theorem dX6_hears_65 : decode cX6_hears 65 = .ok (.iconst 4, 1) := by decide +kernel
theorem dX6_hears_66 : decode cX6_hears 66 = .ok (.iload 4, 2) := by decide +kernel
theorem dX6_hears_68 : decode cX6_hears 68 = .ok (.imul, 1) := by decide +kernel
theorem dX6_hears_69 : decode cX6_hears 69 = .ok (.iconst 3, 1) := by decide +kernel
theorem dX6_hears_70 : decode cX6_hears 70 = .ok (.iadd, 1) := by decide +kernel
theorem dX6_hears_71 : decode cX6_hears 71 = .ok (.iaload, 1) := by decide +kernel
theorem dX6_hears_72 : decode cX6_hears 72 = .ok (.invokestatic 51, 3) := by decide +kernel
theorem dX6_hears_75 : decode cX6_hears 75 = .ok (.ifCond .eq 7, 3) := by decide +kernel
theorem dX6_hears_78 : decode cX6_hears 78 = .ok (.iconst 1, 1) := by decide +kernel
theorem dX6_hears_79 : decode cX6_hears 79 = .ok (.goto 4, 3) := by decide +kernel
theorem dX6_hears_82 : decode cX6_hears 82 = .ok (.iconst 0, 1) := by decide +kernel
theorem dX6_hears_83 : decode cX6_hears 83 = .ok (.istore 5, 2) := by decide +kernel
theorem dX6_hears_85 : decode cX6_hears 85 = .ok (.iload_n 3, 1) := by decide +kernel
theorem dX6_hears_86 : decode cX6_hears 86 = .ok (.iload 5, 2) := by decide +kernel
theorem dX6_hears_88 : decode cX6_hears 88 = .ok (.ifCond .eq 19, 3) := by decide +kernel
theorem dX6_hears_91 : decode cX6_hears 91 = .ok (.iconst 1, 1) := by decide +kernel
theorem dX6_hears_92 : decode cX6_hears 92 = .ok (.aload_n 0, 1) := by decide +kernel
theorem dX6_hears_93 : decode cX6_hears 93 = .ok (.getfield 7, 3) := by decide +kernel
theorem dX6_hears_96 : decode cX6_hears 96 = .ok (.iconst 4, 1) := by decide +kernel
theorem dX6_hears_97 : decode cX6_hears 97 = .ok (.iload 4, 2) := by decide +kernel
theorem dX6_hears_99 : decode cX6_hears 99 = .ok (.imul, 1) := by decide +kernel
theorem dX6_hears_100 : decode cX6_hears 100 = .ok (.iconst 1, 1) := by decide +kernel
theorem dX6_hears_101 : decode cX6_hears 101 = .ok (.iadd, 1) := by decide +kernel
theorem dX6_hears_102 : decode cX6_hears 102 = .ok (.iaload, 1) := by decide +kernel
theorem dX6_hears_103 : decode cX6_hears 103 = .ok (.ishl, 1) := by decide +kernel
theorem dX6_hears_104 : decode cX6_hears 104 = .ok (.goto 4, 3) := by decide +kernel
theorem dX6_hears_107 : decode cX6_hears 107 = .ok (.iconst 0, 1) := by decide +kernel
theorem dX6_hears_108 : decode cX6_hears 108 = .ok (.ior, 1) := by decide +kernel
theorem dX6_hears_109 : decode cX6_hears 109 = .ok (.istore_n 3, 1) := by decide +kernel
theorem dX6_hears_110 : decode cX6_hears 110 = .ok (.iinc 4 1, 3) := by decide +kernel
theorem dX6_hears_113 : decode cX6_hears 113 = .ok (.goto (-91), 3) := by decide +kernel
theorem dX6_hears_116 : decode cX6_hears 116 = .ok (.iconst 0, 1) := by decide +kernel
theorem dX6_hears_117 : decode cX6_hears 117 = .ok (.istore 4, 2) := by decide +kernel
theorem dX6_hears_119 : decode cX6_hears 119 = .ok (.iload 4, 2) := by decide +kernel
theorem dX6_hears_121 : decode cX6_hears 121 = .ok (.aload_n 0, 1) := by decide +kernel
theorem dX6_hears_122 : decode cX6_hears 122 = .ok (.getfield 136, 3) := by decide +kernel
theorem dX6_hears_125 : decode cX6_hears 125 = .ok (.if_icmp .ge 54, 3) := by decide +kernel
theorem dX6_hears_128 : decode cX6_hears 128 = .ok (.iload_n 3, 1) := by decide +kernel
theorem dX6_hears_129 : decode cX6_hears 129 = .ok (.iload_n 2, 1) := by decide +kernel
theorem dX6_hears_130 : decode cX6_hears 130 = .ok (.aload_n 0, 1) := by decide +kernel
theorem dX6_hears_131 : decode cX6_hears 131 = .ok (.getfield 13, 3) := by decide +kernel
theorem dX6_hears_134 : decode cX6_hears 134 = .ok (.iconst 3, 1) := by decide +kernel
theorem dX6_hears_135 : decode cX6_hears 135 = .ok (.iload 4, 2) := by decide +kernel
theorem dX6_hears_137 : decode cX6_hears 137 = .ok (.imul, 1) := by decide +kernel
theorem dX6_hears_138 : decode cX6_hears 138 = .ok (.iconst 1, 1) := by decide +kernel
theorem dX6_hears_139 : decode cX6_hears 139 = .ok (.iadd, 1) := by decide +kernel
theorem dX6_hears_140 : decode cX6_hears 140 = .ok (.iaload, 1) := by decide +kernel
theorem dX6_hears_141 : decode cX6_hears 141 = .ok (.irem, 1) := by decide +kernel
theorem dX6_hears_142 : decode cX6_hears 142 = .ok (.aload_n 0, 1) := by decide +kernel
theorem dX6_hears_143 : decode cX6_hears 143 = .ok (.getfield 13, 3) := by decide +kernel
theorem dX6_hears_146 : decode cX6_hears 146 = .ok (.iconst 3, 1) := by decide +kernel
theorem dX6_hears_147 : decode cX6_hears 147 = .ok (.iload 4, 2) := by decide +kernel
theorem dX6_hears_149 : decode cX6_hears 149 = .ok (.imul, 1) := by decide +kernel
theorem dX6_hears_150 : decode cX6_hears 150 = .ok (.iconst 2, 1) := by decide +kernel
theorem dX6_hears_151 : decode cX6_hears 151 = .ok (.iadd, 1) := by decide +kernel
theorem dX6_hears_152 : decode cX6_hears 152 = .ok (.iaload, 1) := by decide +kernel
theorem dX6_hears_153 : decode cX6_hears 153 = .ok (.if_icmp .ne 17, 3) := by decide +kernel
theorem dX6_hears_156 : decode cX6_hears 156 = .ok (.iconst 1, 1) := by decide +kernel
theorem dX6_hears_157 : decode cX6_hears 157 = .ok (.aload_n 0, 1) := by decide +kernel
theorem dX6_hears_158 : decode cX6_hears 158 = .ok (.getfield 13, 3) := by decide +kernel
theorem dX6_hears_161 : decode cX6_hears 161 = .ok (.iconst 3, 1) := by decide +kernel
theorem dX6_hears_162 : decode cX6_hears 162 = .ok (.iload 4, 2) := by decide +kernel
theorem dX6_hears_164 : decode cX6_hears 164 = .ok (.imul, 1) := by decide +kernel
theorem dX6_hears_165 : decode cX6_hears 165 = .ok (.iaload, 1) := by decide +kernel
theorem dX6_hears_166 : decode cX6_hears 166 = .ok (.ishl, 1) := by decide +kernel
theorem dX6_hears_167 : decode cX6_hears 167 = .ok (.goto 4, 3) := by decide +kernel
theorem dX6_hears_170 : decode cX6_hears 170 = .ok (.iconst 0, 1) := by decide +kernel
theorem dX6_hears_171 : decode cX6_hears 171 = .ok (.ior, 1) := by decide +kernel
theorem dX6_hears_172 : decode cX6_hears 172 = .ok (.istore_n 3, 1) := by decide +kernel
theorem dX6_hears_173 : decode cX6_hears 173 = .ok (.iinc 4 1, 3) := by decide +kernel
theorem dX6_hears_176 : decode cX6_hears 176 = .ok (.goto (-57), 3) := by decide +kernel
theorem dX6_hears_179 : decode cX6_hears 179 = .ok (.iload_n 3, 1) := by decide +kernel
theorem dX6_hears_180 : decode cX6_hears 180 = .ok (.ireturn, 1) := by decide +kernel
set_option maxRecDepth 20000 in
theorem ggX6_asker_X6_isAsker : GoodIn wsX6_asker wsX6_isAsker := goodIn_r _ [6, 7, 8, 9, 5, 10, 11, 12, 13, 14, 15, 16, 17, 18, 19, 20, 21, 22, 23, 24, 25, 26, 27, 28, 29, 30, 31, 32, 33, 34, 35, 36, 37, 38, 39, 40] (by decide +kernel) (by decide +kernel)
set_option maxRecDepth 20000 in
theorem gX6_asker_X6_isAsker : GoodIn wsX6_asker (wsV RX6 150 RX6 yX6_isAsker wsX6_isAsker) := goodIn_app (goodIn_of _ (by decide +kernel)) ggX6_asker_X6_isAsker
set_option maxRecDepth 20000 in
theorem ggX6_asker_X6_in : GoodIn wsX6_asker wsX6_in := goodIn_r _ [10] (by decide +kernel) (by decide +kernel)
set_option maxRecDepth 20000 in
theorem gX6_asker_X6_in : GoodIn wsX6_asker (va_wsS RX6 51 yX6_in wsX6_in) := goodIn_app (goodIn_of _ (by decide +kernel)) ggX6_asker_X6_in
theorem dX6_asker_0 : decode cX6_asker 0 = .ok (.aload_n 0, 1) := by decide +kernel
theorem dX6_asker_1 : decode cX6_asker 1 = .ok (.iload_n 1, 1) := by decide +kernel
theorem dX6_asker_2 : decode cX6_asker 2 = .ok (.invokevirtual 150, 3) := by decide +kernel
theorem dX6_asker_5 : decode cX6_asker 5 = .ok (.ifCond .eq 25, 3) := by decide +kernel
theorem dX6_asker_8 : decode cX6_asker 8 = .ok (.iload_n 2, 1) := by decide +kernel
theorem dX6_asker_9 : decode cX6_asker 9 = .ok (.iconst 0, 1) := by decide +kernel
theorem dX6_asker_10 : decode cX6_asker 10 = .ok (.iconst 1, 1) := by decide +kernel
theorem dX6_asker_11 : decode cX6_asker 11 = .ok (.invokestatic 51, 3) := by decide +kernel
theorem dX6_asker_14 : decode cX6_asker 14 = .ok (.ifCond .eq 16, 3) := by decide +kernel
theorem dX6_asker_17 : decode cX6_asker 17 = .ok (.aload_n 0, 1) := by decide +kernel
theorem dX6_asker_18 : decode cX6_asker 18 = .ok (.getfield 16, 3) := by decide +kernel
theorem dX6_asker_21 : decode cX6_asker 21 = .ok (.iconst 2, 1) := by decide +kernel
theorem dX6_asker_22 : decode cX6_asker 22 = .ok (.iload_n 1, 1) := by decide +kernel
theorem dX6_asker_23 : decode cX6_asker 23 = .ok (.imul, 1) := by decide +kernel
theorem dX6_asker_24 : decode cX6_asker 24 = .ok (.iload_n 2, 1) := by decide +kernel
theorem dX6_asker_25 : decode cX6_asker 25 = .ok (.iadd, 1) := by decide +kernel
theorem dX6_asker_26 : decode cX6_asker 26 = .ok (.iaload, 1) := by decide +kernel
theorem dX6_asker_27 : decode cX6_asker 27 = .ok (.goto 4, 3) := by decide +kernel
theorem dX6_asker_30 : decode cX6_asker 30 = .ok (.iconst (-1), 1) := by decide +kernel
theorem dX6_asker_31 : decode cX6_asker 31 = .ok (.ireturn, 1) := by decide +kernel
theorem dX6_known_0 : decode cX6_known 0 = .ok (.aload_n 0, 1) := by decide +kernel
theorem dX6_known_1 : decode cX6_known 1 = .ok (.getfield 19, 3) := by decide +kernel
theorem dX6_known_4 : decode cX6_known 4 = .ok (.iconst 2, 1) := by decide +kernel
theorem dX6_known_5 : decode cX6_known 5 = .ok (.iaload, 1) := by decide +kernel
theorem dX6_known_6 : decode cX6_known 6 = .ok (.bipush 10, 2) := by decide +kernel
theorem dX6_known_8 : decode cX6_known 8 = .ok (.if_icmp .ne 47, 3) := by decide +kernel
theorem dX6_known_11 : decode cX6_known 11 = .ok (.iconst 0, 1) := by decide +kernel
theorem dX6_known_12 : decode cX6_known 12 = .ok (.istore_n 3, 1) := by decide +kernel
theorem dX6_known_13 : decode cX6_known 13 = .ok (.iload_n 3, 1) := by decide +kernel
theorem dX6_known_14 : decode cX6_known 14 = .ok (.bipush 18, 2) := by decide +kernel
theorem dX6_known_16 : decode cX6_known 16 = .ok (.if_icmp .ge 29, 3) := by decide +kernel
theorem dX6_known_19 : decode cX6_known 19 = .ok (.aload_n 0, 1) := by decide +kernel
theorem dX6_known_20 : decode cX6_known 20 = .ok (.getfield 19, 3) := by decide +kernel
theorem dX6_known_23 : decode cX6_known 23 = .ok (.bipush 84, 2) := by decide +kernel
theorem dX6_known_25 : decode cX6_known 25 = .ok (.iload_n 3, 1) := by decide +kernel
theorem dX6_known_26 : decode cX6_known 26 = .ok (.iadd, 1) := by decide +kernel
theorem dX6_known_27 : decode cX6_known 27 = .ok (.aload_n 0, 1) := by decide +kernel
theorem dX6_known_28 : decode cX6_known 28 = .ok (.getfield 19, 3) := by decide +kernel
theorem dX6_known_31 : decode cX6_known 31 = .ok (.bipush 84, 2) := by decide +kernel
theorem dX6_known_33 : decode cX6_known 33 = .ok (.iload_n 3, 1) := by decide +kernel
theorem dX6_known_34 : decode cX6_known 34 = .ok (.iadd, 1) := by decide +kernel
theorem dX6_known_35 : decode cX6_known 35 = .ok (.iconst 2, 1) := by decide +kernel
theorem dX6_known_36 : decode cX6_known 36 = .ok (.iadd, 1) := by decide +kernel
theorem dX6_known_37 : decode cX6_known 37 = .ok (.iaload, 1) := by decide +kernel
theorem dX6_known_38 : decode cX6_known 38 = .ok (.iastore, 1) := by decide +kernel
theorem dX6_known_39 : decode cX6_known 39 = .ok (.iinc 3 1, 3) := by decide +kernel
theorem dX6_known_42 : decode cX6_known 42 = .ok (.goto (-29), 3) := by decide +kernel
theorem dX6_known_45 : decode cX6_known 45 = .ok (.aload_n 0, 1) := by decide +kernel
theorem dX6_known_46 : decode cX6_known 46 = .ok (.getfield 19, 3) := by decide +kernel
theorem dX6_known_49 : decode cX6_known 49 = .ok (.iconst 2, 1) := by decide +kernel
theorem dX6_known_50 : decode cX6_known 50 = .ok (.dup2, 1) := by decide +kernel
theorem dX6_known_51 : decode cX6_known 51 = .ok (.iaload, 1) := by decide +kernel
theorem dX6_known_52 : decode cX6_known 52 = .ok (.iconst 1, 1) := by decide +kernel
theorem dX6_known_53 : decode cX6_known 53 = .ok (.isub, 1) := by decide +kernel
theorem dX6_known_54 : decode cX6_known 54 = .ok (.iastore, 1) := by decide +kernel
theorem dX6_known_55 : decode cX6_known 55 = .ok (.bipush 84, 2) := by decide +kernel
theorem dX6_known_57 : decode cX6_known 57 = .ok (.iconst 2, 1) := by decide +kernel
theorem dX6_known_58 : decode cX6_known 58 = .ok (.aload_n 0, 1) := by decide +kernel
theorem dX6_known_59 : decode cX6_known 59 = .ok (.getfield 19, 3) := by decide +kernel
theorem dX6_known_62 : decode cX6_known 62 = .ok (.iconst 2, 1) := by decide +kernel
theorem dX6_known_63 : decode cX6_known 63 = .ok (.iaload, 1) := by decide +kernel
theorem dX6_known_64 : decode cX6_known 64 = .ok (.imul, 1) := by decide +kernel
theorem dX6_known_65 : decode cX6_known 65 = .ok (.iadd, 1) := by decide +kernel
theorem dX6_known_66 : decode cX6_known 66 = .ok (.istore_n 3, 1) := by decide +kernel
theorem dX6_known_67 : decode cX6_known 67 = .ok (.aload_n 0, 1) := by decide +kernel
theorem dX6_known_68 : decode cX6_known 68 = .ok (.getfield 19, 3) := by decide +kernel
theorem dX6_known_71 : decode cX6_known 71 = .ok (.iload_n 3, 1) := by decide +kernel
theorem dX6_known_72 : decode cX6_known 72 = .ok (.iload_n 1, 1) := by decide +kernel
theorem dX6_known_73 : decode cX6_known 73 = .ok (.iastore, 1) := by decide +kernel
theorem dX6_known_74 : decode cX6_known 74 = .ok (.aload_n 0, 1) := by decide +kernel
theorem dX6_known_75 : decode cX6_known 75 = .ok (.getfield 19, 3) := by decide +kernel
theorem dX6_known_78 : decode cX6_known 78 = .ok (.iload_n 3, 1) := by decide +kernel
theorem dX6_known_79 : decode cX6_known 79 = .ok (.iconst 1, 1) := by decide +kernel
theorem dX6_known_80 : decode cX6_known 80 = .ok (.iadd, 1) := by decide +kernel
theorem dX6_known_81 : decode cX6_known 81 = .ok (.iload_n 2, 1) := by decide +kernel
theorem dX6_known_82 : decode cX6_known 82 = .ok (.iastore, 1) := by decide +kernel
theorem dX6_known_83 : decode cX6_known 83 = .ok (.aload_n 0, 1) := by decide +kernel
theorem dX6_known_84 : decode cX6_known 84 = .ok (.getfield 19, 3) := by decide +kernel
theorem dX6_known_87 : decode cX6_known 87 = .ok (.iconst 2, 1) := by decide +kernel
theorem dX6_known_88 : decode cX6_known 88 = .ok (.dup2, 1) := by decide +kernel
theorem dX6_known_89 : decode cX6_known 89 = .ok (.iaload, 1) := by decide +kernel
theorem dX6_known_90 : decode cX6_known 90 = .ok (.iconst 1, 1) := by decide +kernel
theorem dX6_known_91 : decode cX6_known 91 = .ok (.iadd, 1) := by decide +kernel
theorem dX6_known_92 : decode cX6_known 92 = .ok (.iastore, 1) := by decide +kernel
theorem dX6_known_93 : decode cX6_known 93 = .ok (.return_, 1) := by decide +kernel
set_option maxRecDepth 20000 in
theorem ggX6_turn_X6_isDish : GoodIn wsX6_turn wsX6_isDish := goodIn_r _ [6, 7, 8, 9, 5, 10, 15, 16, 17, 18, 19, 20, 21, 22, 23, 24, 25, 26, 27, 28, 29, 30, 31, 32, 33, 34, 35, 36, 37, 38, 39, 40, 41, 42, 43, 44] (by decide +kernel) (by decide +kernel)
set_option maxRecDepth 20000 in
theorem gX6_turn_X6_isDish : GoodIn wsX6_turn (wsV RX6 139 RX6 yX6_isDish wsX6_isDish) := goodIn_app (goodIn_of _ (by decide +kernel)) ggX6_turn_X6_isDish
set_option maxRecDepth 20000 in
theorem ggX6_turn_X6_in : GoodIn wsX6_turn wsX6_in := goodIn_r _ [10] (by decide +kernel) (by decide +kernel)
set_option maxRecDepth 20000 in
theorem gX6_turn_X6_in : GoodIn wsX6_turn (va_wsS RX6 51 yX6_in wsX6_in) := goodIn_app (goodIn_of _ (by decide +kernel)) ggX6_turn_X6_in
set_option maxRecDepth 20000 in
theorem ggX6_turn_X6_known : GoodIn wsX6_turn wsX6_known := goodIn_r _ [14, 1, 15, 16, 17, 18, 19, 20, 21, 22, 23, 24, 25, 26, 27, 28, 29, 30, 31, 32, 33, 34, 35, 36, 37, 38, 39, 40, 41, 42, 43, 44] (by decide +kernel) (by decide +kernel)
set_option maxRecDepth 20000 in
theorem gX6_turn_X6_known : GoodIn wsX6_turn (wsV RX6 153 RX6 yX6_known wsX6_known) := goodIn_app (goodIn_of _ (by decide +kernel)) ggX6_turn_X6_known
theorem dX6_turn_0 : decode cX6_turn 0 = .ok (.aload_n 0, 1) := by decide +kernel
theorem dX6_turn_1 : decode cX6_turn 1 = .ok (.iload_n 1, 1) := by decide +kernel
theorem dX6_turn_2 : decode cX6_turn 2 = .ok (.invokevirtual 139, 3) := by decide +kernel
theorem dX6_turn_5 : decode cX6_turn 5 = .ok (.ifCond .eq 13, 3) := by decide +kernel
theorem dX6_turn_8 : decode cX6_turn 8 = .ok (.iload_n 2, 1) := by decide +kernel
theorem dX6_turn_9 : decode cX6_turn 9 = .ok (.iconst 0, 1) := by decide +kernel
theorem dX6_turn_10 : decode cX6_turn 10 = .ok (.bipush 7, 2) := by decide +kernel
theorem dX6_turn_12 : decode cX6_turn 12 = .ok (.invokestatic 51, 3) := by decide +kernel
theorem dX6_turn_15 : decode cX6_turn 15 = .ok (.ifCond .ne 5, 3) := by decide +kernel
theorem dX6_turn_18 : decode cX6_turn 18 = .ok (.iconst (-1), 1) := by decide +kernel
theorem dX6_turn_19 : decode cX6_turn 19 = .ok (.ireturn, 1) := by decide +kernel
theorem dX6_turn_20 : decode cX6_turn 20 = .ok (.aload_n 0, 1) := by decide +kernel
theorem dX6_turn_21 : decode cX6_turn 21 = .ok (.getfield 19, 3) := by decide +kernel
theorem dX6_turn_24 : decode cX6_turn 24 = .ok (.iconst 3, 1) := by decide +kernel
theorem dX6_turn_25 : decode cX6_turn 25 = .ok (.iload_n 1, 1) := by decide +kernel
theorem dX6_turn_26 : decode cX6_turn 26 = .ok (.iadd, 1) := by decide +kernel
theorem dX6_turn_27 : decode cX6_turn 27 = .ok (.iaload, 1) := by decide +kernel
theorem dX6_turn_28 : decode cX6_turn 28 = .ok (.istore_n 3, 1) := by decide +kernel
theorem dX6_turn_29 : decode cX6_turn 29 = .ok (.iload_n 3, 1) := by decide +kernel
theorem dX6_turn_30 : decode cX6_turn 30 = .ok (.iload_n 2, 1) := by decide +kernel
theorem dX6_turn_31 : decode cX6_turn 31 = .ok (.if_icmp .ne 6, 3) := by decide +kernel
theorem dX6_turn_34 : decode cX6_turn 34 = .ok (.bipush (-2), 2) := by decide +kernel
theorem dX6_turn_36 : decode cX6_turn 36 = .ok (.ireturn, 1) := by decide +kernel
theorem dX6_turn_37 : decode cX6_turn 37 = .ok (.aload_n 0, 1) := by decide +kernel
theorem dX6_turn_38 : decode cX6_turn 38 = .ok (.iload_n 1, 1) := by decide +kernel
theorem dX6_turn_39 : decode cX6_turn 39 = .ok (.iload_n 3, 1) := by decide +kernel
theorem dX6_turn_40 : decode cX6_turn 40 = .ok (.invokevirtual 153, 3) := by decide +kernel
theorem dX6_turn_43 : decode cX6_turn 43 = .ok (.aload_n 0, 1) := by decide +kernel
theorem dX6_turn_44 : decode cX6_turn 44 = .ok (.getfield 19, 3) := by decide +kernel
theorem dX6_turn_47 : decode cX6_turn 47 = .ok (.iconst 3, 1) := by decide +kernel
theorem dX6_turn_48 : decode cX6_turn 48 = .ok (.iload_n 1, 1) := by decide +kernel
theorem dX6_turn_49 : decode cX6_turn 49 = .ok (.iadd, 1) := by decide +kernel
theorem dX6_turn_50 : decode cX6_turn 50 = .ok (.iload_n 2, 1) := by decide +kernel
theorem dX6_turn_51 : decode cX6_turn 51 = .ok (.iastore, 1) := by decide +kernel
theorem dX6_turn_52 : decode cX6_turn 52 = .ok (.iload_n 3, 1) := by decide +kernel
theorem dX6_turn_53 : decode cX6_turn 53 = .ok (.ireturn, 1) := by decide +kernel
set_option maxRecDepth 20000 in
theorem ggX6_lend_X6_isDish : GoodIn wsX6_lend wsX6_isDish := goodIn_r _ [6, 7, 8, 9, 5, 10, 23, 24, 25, 26, 27, 28, 29, 30, 31, 32, 33, 34, 35, 36, 37, 38, 39, 40, 41, 42, 43, 44, 45, 46, 47, 48, 49, 50, 51, 52] (by decide +kernel) (by decide +kernel)
set_option maxRecDepth 20000 in
theorem gX6_lend_X6_isDish : GoodIn wsX6_lend (wsV RX6 139 RX6 yX6_isDish wsX6_isDish) := goodIn_app (goodIn_of _ (by decide +kernel)) ggX6_lend_X6_isDish
set_option maxRecDepth 20000 in
theorem ggX6_lend_X6_isHour : GoodIn wsX6_lend wsX6_isHour := goodIn_r _ [13, 8, 9, 5, 10] (by decide +kernel) (by decide +kernel)
set_option maxRecDepth 20000 in
theorem gX6_lend_X6_isHour : GoodIn wsX6_lend (va_wsS RX6 143 yX6_isHour wsX6_isHour) := goodIn_app (goodIn_of _ (by decide +kernel)) ggX6_lend_X6_isHour
set_option maxRecDepth 20000 in
theorem ggX6_lend_X6_isAsker : GoodIn wsX6_lend wsX6_isAsker := goodIn_r _ [17, 18, 8, 9, 5, 10, 23, 24, 25, 26, 27, 28, 29, 30, 31, 32, 33, 34, 35, 36, 37, 38, 39, 40, 41, 42, 43, 44, 45, 46, 47, 48, 49, 50, 51, 52] (by decide +kernel) (by decide +kernel)
set_option maxRecDepth 20000 in
theorem gX6_lend_X6_isAsker : GoodIn wsX6_lend (wsV RX6 150 RX6 yX6_isAsker wsX6_isAsker) := goodIn_app (goodIn_of _ (by decide +kernel)) ggX6_lend_X6_isAsker
set_option maxRecDepth 20000 in
theorem ggX6_lend_X6_known : GoodIn wsX6_lend wsX6_known := goodIn_r _ [22, 1, 23, 24, 25, 26, 27, 28, 29, 30, 31, 32, 33, 34, 35, 36, 37, 38, 39, 40, 41, 42, 43, 44, 45, 46, 47, 48, 49, 50, 51, 52] (by decide +kernel) (by decide +kernel)
set_option maxRecDepth 20000 in
theorem gX6_lend_X6_known : GoodIn wsX6_lend (wsV RX6 153 RX6 yX6_known wsX6_known) := goodIn_app (goodIn_of _ (by decide +kernel)) ggX6_lend_X6_known
theorem dX6_lend_0 : decode cX6_lend 0 = .ok (.aload_n 0, 1) := by decide +kernel
theorem dX6_lend_1 : decode cX6_lend 1 = .ok (.iload_n 1, 1) := by decide +kernel
theorem dX6_lend_2 : decode cX6_lend 2 = .ok (.invokevirtual 139, 3) := by decide +kernel
theorem dX6_lend_5 : decode cX6_lend 5 = .ok (.ifCond .eq 18, 3) := by decide +kernel
theorem dX6_lend_8 : decode cX6_lend 8 = .ok (.iload_n 2, 1) := by decide +kernel
theorem dX6_lend_9 : decode cX6_lend 9 = .ok (.invokestatic 143, 3) := by decide +kernel
theorem dX6_lend_12 : decode cX6_lend 12 = .ok (.ifCond .eq 11, 3) := by decide +kernel
theorem dX6_lend_15 : decode cX6_lend 15 = .ok (.aload_n 0, 1) := by decide +kernel
theorem dX6_lend_16 : decode cX6_lend 16 = .ok (.iload_n 3, 1) := by decide +kernel
theorem dX6_lend_17 : decode cX6_lend 17 = .ok (.invokevirtual 150, 3) := by decide +kernel
theorem dX6_lend_20 : decode cX6_lend 20 = .ok (.ifCond .ne 5, 3) := by decide +kernel
theorem dX6_lend_23 : decode cX6_lend 23 = .ok (.iconst (-1), 1) := by decide +kernel
theorem dX6_lend_24 : decode cX6_lend 24 = .ok (.ireturn, 1) := by decide +kernel
theorem dX6_lend_25 : decode cX6_lend 25 = .ok (.aload_n 0, 1) := by decide +kernel
theorem dX6_lend_26 : decode cX6_lend 26 = .ok (.getfield 19, 3) := by decide +kernel
theorem dX6_lend_29 : decode cX6_lend 29 = .ok (.iconst 0, 1) := by decide +kernel
theorem dX6_lend_30 : decode cX6_lend 30 = .ok (.iaload, 1) := by decide +kernel
theorem dX6_lend_31 : decode cX6_lend 31 = .ok (.bipush 12, 2) := by decide +kernel
theorem dX6_lend_33 : decode cX6_lend 33 = .ok (.if_icmp .ne 6, 3) := by decide +kernel
theorem dX6_lend_36 : decode cX6_lend 36 = .ok (.bipush (-3), 2) := by decide +kernel
theorem dX6_lend_38 : decode cX6_lend 38 = .ok (.ireturn, 1) := by decide +kernel
theorem dX6_lend_39 : decode cX6_lend 39 = .ok (.aload_n 0, 1) := by decide +kernel
theorem dX6_lend_40 : decode cX6_lend 40 = .ok (.iconst (-1), 1) := by decide +kernel
theorem dX6_lend_41 : decode cX6_lend 41 = .ok (.iconst 0, 1) := by decide +kernel
theorem dX6_lend_42 : decode cX6_lend 42 = .ok (.invokevirtual 153, 3) := by decide +kernel
theorem dX6_lend_45 : decode cX6_lend 45 = .ok (.bipush 8, 2) := by decide +kernel
theorem dX6_lend_47 : decode cX6_lend 47 = .ok (.iconst 3, 1) := by decide +kernel
theorem dX6_lend_48 : decode cX6_lend 48 = .ok (.aload_n 0, 1) := by decide +kernel
theorem dX6_lend_49 : decode cX6_lend 49 = .ok (.getfield 19, 3) := by decide +kernel
theorem dX6_lend_52 : decode cX6_lend 52 = .ok (.iconst 0, 1) := by decide +kernel
theorem dX6_lend_53 : decode cX6_lend 53 = .ok (.iaload, 1) := by decide +kernel
theorem dX6_lend_54 : decode cX6_lend 54 = .ok (.imul, 1) := by decide +kernel
theorem dX6_lend_55 : decode cX6_lend 55 = .ok (.iadd, 1) := by decide +kernel
theorem dX6_lend_56 : decode cX6_lend 56 = .ok (.istore 4, 2) := by decide +kernel
theorem dX6_lend_58 : decode cX6_lend 58 = .ok (.aload_n 0, 1) := by decide +kernel
theorem dX6_lend_59 : decode cX6_lend 59 = .ok (.getfield 19, 3) := by decide +kernel
theorem dX6_lend_62 : decode cX6_lend 62 = .ok (.iload 4, 2) := by decide +kernel
theorem dX6_lend_64 : decode cX6_lend 64 = .ok (.iload_n 1, 1) := by decide +kernel
theorem dX6_lend_65 : decode cX6_lend 65 = .ok (.iastore, 1) := by decide +kernel
theorem dX6_lend_66 : decode cX6_lend 66 = .ok (.aload_n 0, 1) := by decide +kernel
theorem dX6_lend_67 : decode cX6_lend 67 = .ok (.getfield 19, 3) := by decide +kernel
theorem dX6_lend_70 : decode cX6_lend 70 = .ok (.iload 4, 2) := by decide +kernel
theorem dX6_lend_72 : decode cX6_lend 72 = .ok (.iconst 1, 1) := by decide +kernel
theorem dX6_lend_73 : decode cX6_lend 73 = .ok (.iadd, 1) := by decide +kernel
theorem dX6_lend_74 : decode cX6_lend 74 = .ok (.iload_n 2, 1) := by decide +kernel
theorem dX6_lend_75 : decode cX6_lend 75 = .ok (.iastore, 1) := by decide +kernel
theorem dX6_lend_76 : decode cX6_lend 76 = .ok (.aload_n 0, 1) := by decide +kernel
theorem dX6_lend_77 : decode cX6_lend 77 = .ok (.getfield 19, 3) := by decide +kernel
theorem dX6_lend_80 : decode cX6_lend 80 = .ok (.iload 4, 2) := by decide +kernel
theorem dX6_lend_82 : decode cX6_lend 82 = .ok (.iconst 2, 1) := by decide +kernel
theorem dX6_lend_83 : decode cX6_lend 83 = .ok (.iadd, 1) := by decide +kernel
theorem dX6_lend_84 : decode cX6_lend 84 = .ok (.iload_n 3, 1) := by decide +kernel
theorem dX6_lend_85 : decode cX6_lend 85 = .ok (.iastore, 1) := by decide +kernel
theorem dX6_lend_86 : decode cX6_lend 86 = .ok (.aload_n 0, 1) := by decide +kernel
theorem dX6_lend_87 : decode cX6_lend 87 = .ok (.getfield 19, 3) := by decide +kernel
theorem dX6_lend_90 : decode cX6_lend 90 = .ok (.iconst 0, 1) := by decide +kernel
theorem dX6_lend_91 : decode cX6_lend 91 = .ok (.dup2, 1) := by decide +kernel
theorem dX6_lend_92 : decode cX6_lend 92 = .ok (.iaload, 1) := by decide +kernel
theorem dX6_lend_93 : decode cX6_lend 93 = .ok (.iconst 1, 1) := by decide +kernel
theorem dX6_lend_94 : decode cX6_lend 94 = .ok (.iadd, 1) := by decide +kernel
theorem dX6_lend_95 : decode cX6_lend 95 = .ok (.iastore, 1) := by decide +kernel
theorem dX6_lend_96 : decode cX6_lend 96 = .ok (.aload_n 0, 1) := by decide +kernel
theorem dX6_lend_97 : decode cX6_lend 97 = .ok (.getfield 19, 3) := by decide +kernel
theorem dX6_lend_100 : decode cX6_lend 100 = .ok (.iconst 0, 1) := by decide +kernel
theorem dX6_lend_101 : decode cX6_lend 101 = .ok (.iaload, 1) := by decide +kernel
theorem dX6_lend_102 : decode cX6_lend 102 = .ok (.ireturn, 1) := by decide +kernel
set_option maxRecDepth 20000 in
theorem ggX6_lent_X6_in : GoodIn wsX6_lent wsX6_in := goodIn_r _ [5] (by decide +kernel) (by decide +kernel)
set_option maxRecDepth 20000 in
theorem gX6_lent_X6_in : GoodIn wsX6_lent (va_wsS RX6 51 yX6_in wsX6_in) := goodIn_app (goodIn_of _ (by decide +kernel)) ggX6_lent_X6_in
theorem dX6_lent_0 : decode cX6_lent 0 = .ok (.iload_n 1, 1) := by decide +kernel
theorem dX6_lent_1 : decode cX6_lent 1 = .ok (.iconst 0, 1) := by decide +kernel
theorem dX6_lent_2 : decode cX6_lent 2 = .ok (.aload_n 0, 1) := by decide +kernel
theorem dX6_lent_3 : decode cX6_lent 3 = .ok (.getfield 19, 3) := by decide +kernel
theorem dX6_lent_6 : decode cX6_lent 6 = .ok (.iconst 0, 1) := by decide +kernel
theorem dX6_lent_7 : decode cX6_lent 7 = .ok (.iaload, 1) := by decide +kernel
theorem dX6_lent_8 : decode cX6_lent 8 = .ok (.iconst 1, 1) := by decide +kernel
theorem dX6_lent_9 : decode cX6_lent 9 = .ok (.isub, 1) := by decide +kernel
theorem dX6_lent_10 : decode cX6_lent 10 = .ok (.invokestatic 51, 3) := by decide +kernel
theorem dX6_lent_13 : decode cX6_lent 13 = .ok (.ifCond .eq 28, 3) := by decide +kernel
theorem dX6_lent_16 : decode cX6_lent 16 = .ok (.iload_n 2, 1) := by decide +kernel
theorem dX6_lent_17 : decode cX6_lent 17 = .ok (.iconst 0, 1) := by decide +kernel
theorem dX6_lent_18 : decode cX6_lent 18 = .ok (.iconst 2, 1) := by decide +kernel
theorem dX6_lent_19 : decode cX6_lent 19 = .ok (.invokestatic 51, 3) := by decide +kernel
theorem dX6_lent_22 : decode cX6_lent 22 = .ok (.ifCond .eq 19, 3) := by decide +kernel
theorem dX6_lent_25 : decode cX6_lent 25 = .ok (.aload_n 0, 1) := by decide +kernel
theorem dX6_lent_26 : decode cX6_lent 26 = .ok (.getfield 19, 3) := by decide +kernel
theorem dX6_lent_29 : decode cX6_lent 29 = .ok (.bipush 8, 2) := by decide +kernel
theorem dX6_lent_31 : decode cX6_lent 31 = .ok (.iconst 3, 1) := by decide +kernel
theorem dX6_lent_32 : decode cX6_lent 32 = .ok (.iload_n 1, 1) := by decide +kernel
theorem dX6_lent_33 : decode cX6_lent 33 = .ok (.imul, 1) := by decide +kernel
theorem dX6_lent_34 : decode cX6_lent 34 = .ok (.iadd, 1) := by decide +kernel
theorem dX6_lent_35 : decode cX6_lent 35 = .ok (.iload_n 2, 1) := by decide +kernel
theorem dX6_lent_36 : decode cX6_lent 36 = .ok (.iadd, 1) := by decide +kernel
theorem dX6_lent_37 : decode cX6_lent 37 = .ok (.iaload, 1) := by decide +kernel
theorem dX6_lent_38 : decode cX6_lent 38 = .ok (.goto 4, 3) := by decide +kernel
theorem dX6_lent_41 : decode cX6_lent 41 = .ok (.iconst (-1), 1) := by decide +kernel
theorem dX6_lent_42 : decode cX6_lent 42 = .ok (.ireturn, 1) := by decide +kernel
theorem dX6_firstTwice_0 : decode cX6_firstTwice 0 = .ok (.bipush (-9), 2) := by decide +kernel
theorem dX6_firstTwice_2 : decode cX6_firstTwice 2 = .ok (.istore_n 1, 1) := by decide +kernel
theorem dX6_firstTwice_3 : decode cX6_firstTwice 3 = .ok (.aload_n 0, 1) := by decide +kernel
theorem dX6_firstTwice_4 : decode cX6_firstTwice 4 = .ok (.getfield 19, 3) := by decide +kernel
theorem dX6_firstTwice_7 : decode cX6_firstTwice 7 = .ok (.iconst 0, 1) := by decide +kernel
theorem dX6_firstTwice_8 : decode cX6_firstTwice 8 = .ok (.iaload, 1) := by decide +kernel
theorem dX6_firstTwice_9 : decode cX6_firstTwice 9 = .ok (.iconst 1, 1) := by decide +kernel
theorem dX6_firstTwice_10 : decode cX6_firstTwice 10 = .ok (.isub, 1) := by decide +kernel
theorem dX6_firstTwice_11 : decode cX6_firstTwice 11 = .ok (.istore_n 2, 1) := by decide +kernel
theorem dX6_firstTwice_12 : decode cX6_firstTwice 12 = .ok (.iload_n 2, 1) := by decide +kernel
theorem dX6_firstTwice_13 : decode cX6_firstTwice 13 = .ok (.ifCond .le 94, 3) := by decide +kernel
theorem dX6_firstTwice_16 : decode cX6_firstTwice 16 = .ok (.iconst 0, 1) := by decide +kernel
theorem dX6_firstTwice_17 : decode cX6_firstTwice 17 = .ok (.istore_n 3, 1) := by decide +kernel
theorem dX6_firstTwice_18 : decode cX6_firstTwice 18 = .ok (.iload_n 3, 1) := by decide +kernel
theorem dX6_firstTwice_19 : decode cX6_firstTwice 19 = .ok (.iload_n 2, 1) := by decide +kernel
theorem dX6_firstTwice_20 : decode cX6_firstTwice 20 = .ok (.if_icmp .ge 81, 3) := by decide +kernel
theorem dX6_firstTwice_23 : decode cX6_firstTwice 23 = .ok (.aload_n 0, 1) := by decide +kernel
theorem dX6_firstTwice_24 : decode cX6_firstTwice 24 = .ok (.getfield 19, 3) := by decide +kernel
theorem dX6_firstTwice_27 : decode cX6_firstTwice 27 = .ok (.bipush 8, 2) := by decide +kernel
theorem dX6_firstTwice_29 : decode cX6_firstTwice 29 = .ok (.iconst 3, 1) := by decide +kernel
theorem dX6_firstTwice_30 : decode cX6_firstTwice 30 = .ok (.iload_n 2, 1) := by decide +kernel
theorem dX6_firstTwice_31 : decode cX6_firstTwice 31 = .ok (.imul, 1) := by decide +kernel
theorem dX6_firstTwice_32 : decode cX6_firstTwice 32 = .ok (.iadd, 1) := by decide +kernel
theorem dX6_firstTwice_33 : decode cX6_firstTwice 33 = .ok (.iaload, 1) := by decide +kernel
theorem dX6_firstTwice_34 : decode cX6_firstTwice 34 = .ok (.aload_n 0, 1) := by decide +kernel
theorem dX6_firstTwice_35 : decode cX6_firstTwice 35 = .ok (.getfield 19, 3) := by decide +kernel
theorem dX6_firstTwice_38 : decode cX6_firstTwice 38 = .ok (.bipush 8, 2) := by decide +kernel
theorem dX6_firstTwice_40 : decode cX6_firstTwice 40 = .ok (.iconst 3, 1) := by decide +kernel
theorem dX6_firstTwice_41 : decode cX6_firstTwice 41 = .ok (.iload_n 3, 1) := by decide +kernel
theorem dX6_firstTwice_42 : decode cX6_firstTwice 42 = .ok (.imul, 1) := by decide +kernel
theorem dX6_firstTwice_43 : decode cX6_firstTwice 43 = .ok (.iadd, 1) := by decide +kernel
theorem dX6_firstTwice_44 : decode cX6_firstTwice 44 = .ok (.iaload, 1) := by decide +kernel
theorem dX6_firstTwice_45 : decode cX6_firstTwice 45 = .ok (.if_icmp .ne 36, 3) := by decide +kernel
theorem dX6_firstTwice_48 : decode cX6_firstTwice 48 = .ok (.aload_n 0, 1) := by decide +kernel
theorem dX6_firstTwice_49 : decode cX6_firstTwice 49 = .ok (.getfield 19, 3) := by decide +kernel
theorem dX6_firstTwice_52 : decode cX6_firstTwice 52 = .ok (.bipush 8, 2) := by decide +kernel
theorem dX6_firstTwice_54 : decode cX6_firstTwice 54 = .ok (.iconst 3, 1) := by decide +kernel
theorem dX6_firstTwice_55 : decode cX6_firstTwice 55 = .ok (.iload_n 2, 1) := by decide +kernel
theorem dX6_firstTwice_56 : decode cX6_firstTwice 56 = .ok (.imul, 1) := by decide +kernel
theorem dX6_firstTwice_57 : decode cX6_firstTwice 57 = .ok (.iadd, 1) := by decide +kernel
theorem dX6_firstTwice_58 : decode cX6_firstTwice 58 = .ok (.iconst 1, 1) := by decide +kernel
theorem dX6_firstTwice_59 : decode cX6_firstTwice 59 = .ok (.iadd, 1) := by decide +kernel
theorem dX6_firstTwice_60 : decode cX6_firstTwice 60 = .ok (.iaload, 1) := by decide +kernel
theorem dX6_firstTwice_61 : decode cX6_firstTwice 61 = .ok (.aload_n 0, 1) := by decide +kernel
theorem dX6_firstTwice_62 : decode cX6_firstTwice 62 = .ok (.getfield 19, 3) := by decide +kernel
theorem dX6_firstTwice_65 : decode cX6_firstTwice 65 = .ok (.bipush 8, 2) := by decide +kernel
theorem dX6_firstTwice_67 : decode cX6_firstTwice 67 = .ok (.iconst 3, 1) := by decide +kernel
theorem dX6_firstTwice_68 : decode cX6_firstTwice 68 = .ok (.iload_n 3, 1) := by decide +kernel
theorem dX6_firstTwice_69 : decode cX6_firstTwice 69 = .ok (.imul, 1) := by decide +kernel
theorem dX6_firstTwice_70 : decode cX6_firstTwice 70 = .ok (.iadd, 1) := by decide +kernel
theorem dX6_firstTwice_71 : decode cX6_firstTwice 71 = .ok (.iconst 1, 1) := by decide +kernel
theorem dX6_firstTwice_72 : decode cX6_firstTwice 72 = .ok (.iadd, 1) := by decide +kernel
theorem dX6_firstTwice_73 : decode cX6_firstTwice 73 = .ok (.iaload, 1) := by decide +kernel
theorem dX6_firstTwice_74 : decode cX6_firstTwice 74 = .ok (.if_icmp .ne 7, 3) := by decide +kernel
theorem dX6_firstTwice_77 : decode cX6_firstTwice 77 = .ok (.iconst 1, 1) := by decide +kernel
theorem dX6_firstTwice_78 : decode cX6_firstTwice 78 = .ok (.goto 4, 3) := by decide +kernel
theorem dX6_firstTwice_81 : decode cX6_firstTwice 81 = .ok (.iconst 0, 1) := by decide +kernel
theorem dX6_firstTwice_82 : decode cX6_firstTwice 82 = .ok (.istore 4, 2) := by decide +kernel
theorem dX6_firstTwice_84 : decode cX6_firstTwice 84 = .ok (.iload 4, 2) := by decide +kernel
theorem dX6_firstTwice_86 : decode cX6_firstTwice 86 = .ok (.ifCond .eq 7, 3) := by decide +kernel
theorem dX6_firstTwice_89 : decode cX6_firstTwice 89 = .ok (.iload_n 2, 1) := by decide +kernel
theorem dX6_firstTwice_90 : decode cX6_firstTwice 90 = .ok (.goto 4, 3) := by decide +kernel
theorem dX6_firstTwice_93 : decode cX6_firstTwice 93 = .ok (.iload_n 1, 1) := by decide +kernel
theorem dX6_firstTwice_94 : decode cX6_firstTwice 94 = .ok (.istore_n 1, 1) := by decide +kernel
theorem dX6_firstTwice_95 : decode cX6_firstTwice 95 = .ok (.iinc 3 1, 3) := by decide +kernel
theorem dX6_firstTwice_98 : decode cX6_firstTwice 98 = .ok (.goto (-80), 3) := by decide +kernel
theorem dX6_firstTwice_101 : decode cX6_firstTwice 101 = .ok (.iinc 2 (-1), 3) := by decide +kernel
theorem dX6_firstTwice_104 : decode cX6_firstTwice 104 = .ok (.goto (-92), 3) := by decide +kernel
theorem dX6_firstTwice_107 : decode cX6_firstTwice 107 = .ok (.iload_n 1, 1) := by decide +kernel
theorem dX6_firstTwice_108 : decode cX6_firstTwice 108 = .ok (.ireturn, 1) := by decide +kernel
set_option maxRecDepth 20000 in
theorem ggX6_inVain_X6_looksOf : GoodIn wsX6_inVain wsX6_looksOf := goodIn_r _ [7, 1, 8, 9, 10, 11, 12, 13, 14, 15, 16, 17, 18, 19, 20, 21, 22, 23, 24, 25, 26, 27, 28, 29, 30, 31, 32, 33, 34, 35, 36, 37] (by decide +kernel) (by decide +kernel)
set_option maxRecDepth 20000 in
theorem gX6_inVain_X6_looksOf : GoodIn wsX6_inVain (wsV RX6 146 RX6 yX6_looksOf wsX6_looksOf) := goodIn_app (goodIn_of _ (by decide +kernel)) ggX6_inVain_X6_looksOf
theorem dX6_inVain_0 : decode cX6_inVain 0 = .ok (.iconst 0, 1) := by decide +kernel
theorem dX6_inVain_1 : decode cX6_inVain 1 = .ok (.istore_n 1, 1) := by decide +kernel
theorem dX6_inVain_2 : decode cX6_inVain 2 = .ok (.iconst 0, 1) := by decide +kernel
theorem dX6_inVain_3 : decode cX6_inVain 3 = .ok (.istore_n 2, 1) := by decide +kernel
theorem dX6_inVain_4 : decode cX6_inVain 4 = .ok (.iload_n 2, 1) := by decide +kernel
theorem dX6_inVain_5 : decode cX6_inVain 5 = .ok (.aload_n 0, 1) := by decide +kernel
theorem dX6_inVain_6 : decode cX6_inVain 6 = .ok (.getfield 19, 3) := by decide +kernel
theorem dX6_inVain_9 : decode cX6_inVain 9 = .ok (.iconst 0, 1) := by decide +kernel
theorem dX6_inVain_10 : decode cX6_inVain 10 = .ok (.iaload, 1) := by decide +kernel
theorem dX6_inVain_11 : decode cX6_inVain 11 = .ok (.if_icmp .ge 60, 3) := by decide +kernel
theorem dX6_inVain_14 : decode cX6_inVain 14 = .ok (.bipush 8, 2) := by decide +kernel
theorem dX6_inVain_16 : decode cX6_inVain 16 = .ok (.iconst 3, 1) := by decide +kernel
theorem dX6_inVain_17 : decode cX6_inVain 17 = .ok (.iload_n 2, 1) := by decide +kernel
theorem dX6_inVain_18 : decode cX6_inVain 18 = .ok (.imul, 1) := by decide +kernel
theorem dX6_inVain_19 : decode cX6_inVain 19 = .ok (.iadd, 1) := by decide +kernel
theorem dX6_inVain_20 : decode cX6_inVain 20 = .ok (.istore_n 3, 1) := by decide +kernel
theorem dX6_inVain_21 : decode cX6_inVain 21 = .ok (.iload_n 1, 1) := by decide +kernel
theorem dX6_inVain_22 : decode cX6_inVain 22 = .ok (.aload_n 0, 1) := by decide +kernel
theorem dX6_inVain_23 : decode cX6_inVain 23 = .ok (.aload_n 0, 1) := by decide +kernel
theorem dX6_inVain_24 : decode cX6_inVain 24 = .ok (.getfield 19, 3) := by decide +kernel
theorem dX6_inVain_27 : decode cX6_inVain 27 = .ok (.iload_n 3, 1) := by decide +kernel
theorem dX6_inVain_28 : decode cX6_inVain 28 = .ok (.iaload, 1) := by decide +kernel
theorem dX6_inVain_29 : decode cX6_inVain 29 = .ok (.aload_n 0, 1) := by decide +kernel
theorem dX6_inVain_30 : decode cX6_inVain 30 = .ok (.getfield 19, 3) := by decide +kernel
theorem dX6_inVain_33 : decode cX6_inVain 33 = .ok (.iload_n 3, 1) := by decide +kernel
theorem dX6_inVain_34 : decode cX6_inVain 34 = .ok (.iconst 1, 1) := by decide +kernel
theorem dX6_inVain_35 : decode cX6_inVain 35 = .ok (.iadd, 1) := by decide +kernel
theorem dX6_inVain_36 : decode cX6_inVain 36 = .ok (.iaload, 1) := by decide +kernel
theorem dX6_inVain_37 : decode cX6_inVain 37 = .ok (.invokevirtual 146, 3) := by decide +kernel
theorem dX6_inVain_40 : decode cX6_inVain 40 = .ok (.aload_n 0, 1) := by decide +kernel
theorem dX6_inVain_41 : decode cX6_inVain 41 = .ok (.getfield 16, 3) := by decide +kernel
theorem dX6_inVain_44 : decode cX6_inVain 44 = .ok (.iconst 2, 1) := by decide +kernel
theorem dX6_inVain_45 : decode cX6_inVain 45 = .ok (.aload_n 0, 1) := by decide +kernel
theorem dX6_inVain_46 : decode cX6_inVain 46 = .ok (.getfield 19, 3) := by decide +kernel
theorem dX6_inVain_49 : decode cX6_inVain 49 = .ok (.iload_n 3, 1) := by decide +kernel
theorem dX6_inVain_50 : decode cX6_inVain 50 = .ok (.iconst 2, 1) := by decide +kernel
theorem dX6_inVain_51 : decode cX6_inVain 51 = .ok (.iadd, 1) := by decide +kernel
theorem dX6_inVain_52 : decode cX6_inVain 52 = .ok (.iaload, 1) := by decide +kernel
theorem dX6_inVain_53 : decode cX6_inVain 53 = .ok (.imul, 1) := by decide +kernel
theorem dX6_inVain_54 : decode cX6_inVain 54 = .ok (.iaload, 1) := by decide +kernel
theorem dX6_inVain_55 : decode cX6_inVain 55 = .ok (.if_icmp .ne 7, 3) := by decide +kernel
theorem dX6_inVain_58 : decode cX6_inVain 58 = .ok (.iconst 0, 1) := by decide +kernel
theorem dX6_inVain_59 : decode cX6_inVain 59 = .ok (.goto 4, 3) := by decide +kernel
theorem dX6_inVain_62 : decode cX6_inVain 62 = .ok (.iconst 1, 1) := by decide +kernel
theorem dX6_inVain_63 : decode cX6_inVain 63 = .ok (.iadd, 1) := by decide +kernel
theorem dX6_inVain_64 : decode cX6_inVain 64 = .ok (.istore_n 1, 1) := by decide +kernel
theorem dX6_inVain_65 : decode cX6_inVain 65 = .ok (.iinc 2 1, 3) := by decide +kernel
theorem dX6_inVain_68 : decode cX6_inVain 68 = .ok (.goto (-64), 3) := by decide +kernel
theorem dX6_inVain_71 : decode cX6_inVain 71 = .ok (.iload_n 1, 1) := by decide +kernel
theorem dX6_inVain_72 : decode cX6_inVain 72 = .ok (.ireturn, 1) := by decide +kernel
set_option maxRecDepth 20000 in
theorem ggX6_twice_X6_in : GoodIn wsX6_twice wsX6_in := goodIn_r _ [4] (by decide +kernel) (by decide +kernel)
set_option maxRecDepth 20000 in
theorem gX6_twice_X6_in : GoodIn wsX6_twice (va_wsS RX6 51 yX6_in wsX6_in) := goodIn_app (goodIn_of _ (by decide +kernel)) ggX6_twice_X6_in
set_option maxRecDepth 20000 in
theorem ggX6_twice_X6_firstTwice : GoodIn wsX6_twice wsX6_firstTwice := goodIn_r _ [8, 9, 19, 20, 21, 22, 23, 24, 25, 26, 27, 28, 29, 30, 31, 32, 33, 34, 35, 36, 37, 38, 39, 40, 41, 42, 43, 44, 45, 46, 47, 48] (by decide +kernel) (by decide +kernel)
set_option maxRecDepth 20000 in
theorem gX6_twice_X6_firstTwice : GoodIn wsX6_twice (wsV RX6 157 RX6 yX6_firstTwice wsX6_firstTwice) := goodIn_app (goodIn_of _ (by decide +kernel)) ggX6_twice_X6_firstTwice
set_option maxRecDepth 20000 in
theorem ggX6_twice_X6_inVain : GoodIn wsX6_twice wsX6_inVain := goodIn_r _ [13, 9, 14, 15, 16, 17, 3, 18, 19, 20, 21, 22, 23, 24, 25, 26, 27, 28, 29, 30, 31, 32, 33, 34, 35, 36, 37, 38, 39, 40, 41, 42, 43, 44, 45, 46, 47, 48] (by decide +kernel) (by decide +kernel)
set_option maxRecDepth 20000 in
theorem gX6_twice_X6_inVain : GoodIn wsX6_twice (wsV RX6 161 RX6 yX6_inVain wsX6_inVain) := goodIn_app (goodIn_of _ (by decide +kernel)) ggX6_twice_X6_inVain
theorem dX6_twice_0 : decode cX6_twice 0 = .ok (.iload_n 1, 1) := by decide +kernel
theorem dX6_twice_1 : decode cX6_twice 1 = .ok (.iconst 0, 1) := by decide +kernel
theorem dX6_twice_2 : decode cX6_twice 2 = .ok (.iconst 1, 1) := by decide +kernel
theorem dX6_twice_3 : decode cX6_twice 3 = .ok (.invokestatic 51, 3) := by decide +kernel
theorem dX6_twice_6 : decode cX6_twice 6 = .ok (.ifCond .ne 7, 3) := by decide +kernel
theorem dX6_twice_9 : decode cX6_twice 9 = .ok (.iconst (-1), 1) := by decide +kernel
theorem dX6_twice_10 : decode cX6_twice 10 = .ok (.goto 18, 3) := by decide +kernel
theorem dX6_twice_13 : decode cX6_twice 13 = .ok (.iload_n 1, 1) := by decide +kernel
theorem dX6_twice_14 : decode cX6_twice 14 = .ok (.ifCond .ne 10, 3) := by decide +kernel
theorem dX6_twice_17 : decode cX6_twice 17 = .ok (.aload_n 0, 1) := by decide +kernel
theorem dX6_twice_18 : decode cX6_twice 18 = .ok (.invokevirtual 157, 3) := by decide +kernel
theorem dX6_twice_21 : decode cX6_twice 21 = .ok (.goto 7, 3) := by decide +kernel
theorem dX6_twice_24 : decode cX6_twice 24 = .ok (.aload_n 0, 1) := by decide +kernel
theorem dX6_twice_25 : decode cX6_twice 25 = .ok (.invokevirtual 161, 3) := by decide +kernel
theorem dX6_twice_28 : decode cX6_twice 28 = .ok (.ireturn, 1) := by decide +kernel
theorem dX6_undo_0 : decode cX6_undo 0 = .ok (.aload_n 0, 1) := by decide +kernel
theorem dX6_undo_1 : decode cX6_undo 1 = .ok (.getfield 19, 3) := by decide +kernel
theorem dX6_undo_4 : decode cX6_undo 4 = .ok (.iconst 2, 1) := by decide +kernel
theorem dX6_undo_5 : decode cX6_undo 5 = .ok (.iaload, 1) := by decide +kernel
theorem dX6_undo_6 : decode cX6_undo 6 = .ok (.ifCond .ne 6, 3) := by decide +kernel
theorem dX6_undo_9 : decode cX6_undo 9 = .ok (.bipush (-2), 2) := by decide +kernel
theorem dX6_undo_11 : decode cX6_undo 11 = .ok (.ireturn, 1) := by decide +kernel
theorem dX6_undo_12 : decode cX6_undo 12 = .ok (.aload_n 0, 1) := by decide +kernel
theorem dX6_undo_13 : decode cX6_undo 13 = .ok (.getfield 19, 3) := by decide +kernel
theorem dX6_undo_16 : decode cX6_undo 16 = .ok (.iconst 2, 1) := by decide +kernel
theorem dX6_undo_17 : decode cX6_undo 17 = .ok (.dup2, 1) := by decide +kernel
theorem dX6_undo_18 : decode cX6_undo 18 = .ok (.iaload, 1) := by decide +kernel
theorem dX6_undo_19 : decode cX6_undo 19 = .ok (.iconst 1, 1) := by decide +kernel
theorem dX6_undo_20 : decode cX6_undo 20 = .ok (.isub, 1) := by decide +kernel
theorem dX6_undo_21 : decode cX6_undo 21 = .ok (.iastore, 1) := by decide +kernel
theorem dX6_undo_22 : decode cX6_undo 22 = .ok (.bipush 84, 2) := by decide +kernel
theorem dX6_undo_24 : decode cX6_undo 24 = .ok (.iconst 2, 1) := by decide +kernel
theorem dX6_undo_25 : decode cX6_undo 25 = .ok (.aload_n 0, 1) := by decide +kernel
theorem dX6_undo_26 : decode cX6_undo 26 = .ok (.getfield 19, 3) := by decide +kernel
theorem dX6_undo_29 : decode cX6_undo 29 = .ok (.iconst 2, 1) := by decide +kernel
theorem dX6_undo_30 : decode cX6_undo 30 = .ok (.iaload, 1) := by decide +kernel
theorem dX6_undo_31 : decode cX6_undo 31 = .ok (.imul, 1) := by decide +kernel
theorem dX6_undo_32 : decode cX6_undo 32 = .ok (.iadd, 1) := by decide +kernel
theorem dX6_undo_33 : decode cX6_undo 33 = .ok (.istore_n 1, 1) := by decide +kernel
theorem dX6_undo_34 : decode cX6_undo 34 = .ok (.aload_n 0, 1) := by decide +kernel
theorem dX6_undo_35 : decode cX6_undo 35 = .ok (.getfield 19, 3) := by decide +kernel
theorem dX6_undo_38 : decode cX6_undo 38 = .ok (.iload_n 1, 1) := by decide +kernel
theorem dX6_undo_39 : decode cX6_undo 39 = .ok (.iaload, 1) := by decide +kernel
theorem dX6_undo_40 : decode cX6_undo 40 = .ok (.ifCond .ge 16, 3) := by decide +kernel
theorem dX6_undo_43 : decode cX6_undo 43 = .ok (.aload_n 0, 1) := by decide +kernel
theorem dX6_undo_44 : decode cX6_undo 44 = .ok (.getfield 19, 3) := by decide +kernel
theorem dX6_undo_47 : decode cX6_undo 47 = .ok (.iconst 0, 1) := by decide +kernel
theorem dX6_undo_48 : decode cX6_undo 48 = .ok (.dup2, 1) := by decide +kernel
theorem dX6_undo_49 : decode cX6_undo 49 = .ok (.iaload, 1) := by decide +kernel
theorem dX6_undo_50 : decode cX6_undo 50 = .ok (.iconst 1, 1) := by decide +kernel
theorem dX6_undo_51 : decode cX6_undo 51 = .ok (.isub, 1) := by decide +kernel
theorem dX6_undo_52 : decode cX6_undo 52 = .ok (.iastore, 1) := by decide +kernel
theorem dX6_undo_53 : decode cX6_undo 53 = .ok (.goto 24, 3) := by decide +kernel
theorem dX6_undo_56 : decode cX6_undo 56 = .ok (.aload_n 0, 1) := by decide +kernel
theorem dX6_undo_57 : decode cX6_undo 57 = .ok (.getfield 19, 3) := by decide +kernel
theorem dX6_undo_60 : decode cX6_undo 60 = .ok (.iconst 3, 1) := by decide +kernel
theorem dX6_undo_61 : decode cX6_undo 61 = .ok (.aload_n 0, 1) := by decide +kernel
theorem dX6_undo_62 : decode cX6_undo 62 = .ok (.getfield 19, 3) := by decide +kernel
theorem dX6_undo_65 : decode cX6_undo 65 = .ok (.iload_n 1, 1) := by decide +kernel
theorem dX6_undo_66 : decode cX6_undo 66 = .ok (.iaload, 1) := by decide +kernel
theorem dX6_undo_67 : decode cX6_undo 67 = .ok (.iadd, 1) := by decide +kernel
theorem dX6_undo_68 : decode cX6_undo 68 = .ok (.aload_n 0, 1) := by decide +kernel
theorem dX6_undo_69 : decode cX6_undo 69 = .ok (.getfield 19, 3) := by decide +kernel
theorem dX6_undo_72 : decode cX6_undo 72 = .ok (.iload_n 1, 1) := by decide +kernel
theorem dX6_undo_73 : decode cX6_undo 73 = .ok (.iconst 1, 1) := by decide +kernel
theorem dX6_undo_74 : decode cX6_undo 74 = .ok (.iadd, 1) := by decide +kernel
theorem dX6_undo_75 : decode cX6_undo 75 = .ok (.iaload, 1) := by decide +kernel
theorem dX6_undo_76 : decode cX6_undo 76 = .ok (.iastore, 1) := by decide +kernel
theorem dX6_undo_77 : decode cX6_undo 77 = .ok (.aload_n 0, 1) := by decide +kernel
theorem dX6_undo_78 : decode cX6_undo 78 = .ok (.getfield 19, 3) := by decide +kernel
theorem dX6_undo_81 : decode cX6_undo 81 = .ok (.iconst 2, 1) := by decide +kernel
theorem dX6_undo_82 : decode cX6_undo 82 = .ok (.iaload, 1) := by decide +kernel
theorem dX6_undo_83 : decode cX6_undo 83 = .ok (.ireturn, 1) := by decide +kernel
set_option maxRecDepth 20000 in
theorem ggX6_areHours_X6_isHour : GoodIn wsX6_areHours wsX6_isHour := goodIn_r _ [4, 5, 6, 3, 7] (by decide +kernel) (by decide +kernel)
set_option maxRecDepth 20000 in
theorem gX6_areHours_X6_isHour : GoodIn wsX6_areHours (va_wsS RX6 143 yX6_isHour wsX6_isHour) := goodIn_app (goodIn_of _ (by decide +kernel)) ggX6_areHours_X6_isHour
theorem dX6_areHours_0 : decode cX6_areHours 0 = .ok (.iload_n 0, 1) := by decide +kernel
theorem dX6_areHours_1 : decode cX6_areHours 1 = .ok (.invokestatic 143, 3) := by decide +kernel
theorem dX6_areHours_4 : decode cX6_areHours 4 = .ok (.ifCond .eq 19, 3) := by decide +kernel
theorem dX6_areHours_7 : decode cX6_areHours 7 = .ok (.iload_n 1, 1) := by decide +kernel
theorem dX6_areHours_8 : decode cX6_areHours 8 = .ok (.invokestatic 143, 3) := by decide +kernel
theorem dX6_areHours_11 : decode cX6_areHours 11 = .ok (.ifCond .eq 12, 3) := by decide +kernel
theorem dX6_areHours_14 : decode cX6_areHours 14 = .ok (.iload_n 0, 1) := by decide +kernel
theorem dX6_areHours_15 : decode cX6_areHours 15 = .ok (.iload_n 1, 1) := by decide +kernel
theorem dX6_areHours_16 : decode cX6_areHours 16 = .ok (.if_icmp .gt 7, 3) := by decide +kernel
theorem dX6_areHours_19 : decode cX6_areHours 19 = .ok (.iconst 1, 1) := by decide +kernel
theorem dX6_areHours_20 : decode cX6_areHours 20 = .ok (.goto 4, 3) := by decide +kernel
theorem dX6_areHours_23 : decode cX6_areHours 23 = .ok (.iconst 0, 1) := by decide +kernel
theorem dX6_areHours_24 : decode cX6_areHours 24 = .ok (.ireturn, 1) := by decide +kernel
set_option maxRecDepth 20000 in
theorem ggX6_findRoom_X6_looksOf : GoodIn wsX6_findRoom wsX6_looksOf := goodIn_r _ [7, 8, 9, 10, 11, 12, 13, 14, 15, 16, 17, 18, 19, 20, 21, 22, 23, 24, 25, 26, 27, 28, 29, 30, 31, 32, 33, 34, 35, 36, 37, 38] (by decide +kernel) (by decide +kernel)
set_option maxRecDepth 20000 in
theorem gX6_findRoom_X6_looksOf : GoodIn wsX6_findRoom (wsV RX6 146 RX6 yX6_looksOf wsX6_looksOf) := goodIn_app (goodIn_of _ (by decide +kernel)) ggX6_findRoom_X6_looksOf
theorem dX6_findRoom_0 : decode cX6_findRoom 0 = .ok (.iconst 0, 1) := by decide +kernel
theorem dX6_findRoom_1 : decode cX6_findRoom 1 = .ok (.istore_n 3, 1) := by decide +kernel
theorem dX6_findRoom_2 : decode cX6_findRoom 2 = .ok (.iload_n 3, 1) := by decide +kernel
theorem dX6_findRoom_3 : decode cX6_findRoom 3 = .ok (.bipush 8, 2) := by decide +kernel
theorem dX6_findRoom_5 : decode cX6_findRoom 5 = .ok (.if_icmp .ge 16, 3) := by decide +kernel
theorem dX6_findRoom_8 : decode cX6_findRoom 8 = .ok (.aload_n 0, 1) := by decide +kernel
theorem dX6_findRoom_9 : decode cX6_findRoom 9 = .ok (.getfield 44, 3) := by decide +kernel
theorem dX6_findRoom_12 : decode cX6_findRoom 12 = .ok (.iload_n 3, 1) := by decide +kernel
theorem dX6_findRoom_13 : decode cX6_findRoom 13 = .ok (.iconst 0, 1) := by decide +kernel
theorem dX6_findRoom_14 : decode cX6_findRoom 14 = .ok (.iastore, 1) := by decide +kernel
theorem dX6_findRoom_15 : decode cX6_findRoom 15 = .ok (.iinc 3 1, 3) := by decide +kernel
theorem dX6_findRoom_18 : decode cX6_findRoom 18 = .ok (.goto (-16), 3) := by decide +kernel
theorem dX6_findRoom_21 : decode cX6_findRoom 21 = .ok (.iconst 0, 1) := by decide +kernel
theorem dX6_findRoom_22 : decode cX6_findRoom 22 = .ok (.istore_n 3, 1) := by decide +kernel
theorem dX6_findRoom_23 : decode cX6_findRoom 23 = .ok (.iload_n 3, 1) := by decide +kernel
theorem dX6_findRoom_24 : decode cX6_findRoom 24 = .ok (.aload_n 0, 1) := by decide +kernel
theorem dX6_findRoom_25 : decode cX6_findRoom 25 = .ok (.getfield 47, 3) := by decide +kernel
theorem dX6_findRoom_28 : decode cX6_findRoom 28 = .ok (.if_icmp .ge 40, 3) := by decide +kernel
theorem dX6_findRoom_31 : decode cX6_findRoom 31 = .ok (.iload_n 1, 1) := by decide +kernel
theorem dX6_findRoom_32 : decode cX6_findRoom 32 = .ok (.istore 4, 2) := by decide +kernel
theorem dX6_findRoom_34 : decode cX6_findRoom 34 = .ok (.iload 4, 2) := by decide +kernel
theorem dX6_findRoom_36 : decode cX6_findRoom 36 = .ok (.iload_n 2, 1) := by decide +kernel
theorem dX6_findRoom_37 : decode cX6_findRoom 37 = .ok (.if_icmp .gt 25, 3) := by decide +kernel
theorem dX6_findRoom_40 : decode cX6_findRoom 40 = .ok (.aload_n 0, 1) := by decide +kernel
theorem dX6_findRoom_41 : decode cX6_findRoom 41 = .ok (.getfield 44, 3) := by decide +kernel
theorem dX6_findRoom_44 : decode cX6_findRoom 44 = .ok (.aload_n 0, 1) := by decide +kernel
theorem dX6_findRoom_45 : decode cX6_findRoom 45 = .ok (.iload_n 3, 1) := by decide +kernel
theorem dX6_findRoom_46 : decode cX6_findRoom 46 = .ok (.iload 4, 2) := by decide +kernel
theorem dX6_findRoom_48 : decode cX6_findRoom 48 = .ok (.invokevirtual 146, 3) := by decide +kernel
theorem dX6_findRoom_51 : decode cX6_findRoom 51 = .ok (.dup2, 1) := by decide +kernel
theorem dX6_findRoom_52 : decode cX6_findRoom 52 = .ok (.iaload, 1) := by decide +kernel
theorem dX6_findRoom_53 : decode cX6_findRoom 53 = .ok (.iconst 1, 1) := by decide +kernel
theorem dX6_findRoom_54 : decode cX6_findRoom 54 = .ok (.iadd, 1) := by decide +kernel
theorem dX6_findRoom_55 : decode cX6_findRoom 55 = .ok (.iastore, 1) := by decide +kernel
theorem dX6_findRoom_56 : decode cX6_findRoom 56 = .ok (.iinc 4 1, 3) := by decide +kernel
theorem dX6_findRoom_59 : decode cX6_findRoom 59 = .ok (.goto (-25), 3) := by decide +kernel
theorem dX6_findRoom_62 : decode cX6_findRoom 62 = .ok (.iinc 3 1, 3) := by decide +kernel
theorem dX6_findRoom_65 : decode cX6_findRoom 65 = .ok (.goto (-42), 3) := by decide +kernel
theorem dX6_findRoom_68 : decode cX6_findRoom 68 = .ok (.return_, 1) := by decide +kernel
set_option maxRecDepth 20000 in
theorem ggX6_isRoomFor_X6_has : GoodIn wsX6_isRoomFor wsX6_has := goodIn_r _ [7] (by decide +kernel) (by decide +kernel)
set_option maxRecDepth 20000 in
theorem gX6_isRoomFor_X6_has : GoodIn wsX6_isRoomFor (va_wsS RX6 164 yX6_has wsX6_has) := goodIn_app (goodIn_of _ (by decide +kernel)) ggX6_isRoomFor_X6_has
theorem dX6_isRoomFor_0 : decode cX6_isRoomFor 0 = .ok (.iconst 1, 1) := by decide +kernel
theorem dX6_isRoomFor_1 : decode cX6_isRoomFor 1 = .ok (.istore_n 2, 1) := by decide +kernel
theorem dX6_isRoomFor_2 : decode cX6_isRoomFor 2 = .ok (.iconst 0, 1) := by decide +kernel
theorem dX6_isRoomFor_3 : decode cX6_isRoomFor 3 = .ok (.istore_n 3, 1) := by decide +kernel
theorem dX6_isRoomFor_4 : decode cX6_isRoomFor 4 = .ok (.iload_n 3, 1) := by decide +kernel
theorem dX6_isRoomFor_5 : decode cX6_isRoomFor 5 = .ok (.bipush 8, 2) := by decide +kernel
theorem dX6_isRoomFor_7 : decode cX6_isRoomFor 7 = .ok (.if_icmp .ge 83, 3) := by decide +kernel
theorem dX6_isRoomFor_10 : decode cX6_isRoomFor 10 = .ok (.iconst 0, 1) := by decide +kernel
theorem dX6_isRoomFor_11 : decode cX6_isRoomFor 11 = .ok (.istore 4, 2) := by decide +kernel
theorem dX6_isRoomFor_13 : decode cX6_isRoomFor 13 = .ok (.iconst 0, 1) := by decide +kernel
theorem dX6_isRoomFor_14 : decode cX6_isRoomFor 14 = .ok (.istore 5, 2) := by decide +kernel
theorem dX6_isRoomFor_16 : decode cX6_isRoomFor 16 = .ok (.iload 5, 2) := by decide +kernel
theorem dX6_isRoomFor_18 : decode cX6_isRoomFor 18 = .ok (.aload_n 0, 1) := by decide +kernel
theorem dX6_isRoomFor_19 : decode cX6_isRoomFor 19 = .ok (.getfield 55, 3) := by decide +kernel
theorem dX6_isRoomFor_22 : decode cX6_isRoomFor 22 = .ok (.if_icmp .ge 41, 3) := by decide +kernel
theorem dX6_isRoomFor_25 : decode cX6_isRoomFor 25 = .ok (.iload 4, 2) := by decide +kernel
theorem dX6_isRoomFor_27 : decode cX6_isRoomFor 27 = .ok (.iload_n 1, 1) := by decide +kernel
theorem dX6_isRoomFor_28 : decode cX6_isRoomFor 28 = .ok (.iload 5, 2) := by decide +kernel
theorem dX6_isRoomFor_30 : decode cX6_isRoomFor 30 = .ok (.invokestatic 164, 3) := by decide +kernel
theorem dX6_isRoomFor_33 : decode cX6_isRoomFor 33 = .ok (.ifCond .eq 20, 3) := by decide +kernel
theorem dX6_isRoomFor_36 : decode cX6_isRoomFor 36 = .ok (.aload_n 0, 1) := by decide +kernel
theorem dX6_isRoomFor_37 : decode cX6_isRoomFor 37 = .ok (.getfield 16, 3) := by decide +kernel
theorem dX6_isRoomFor_40 : decode cX6_isRoomFor 40 = .ok (.iconst 2, 1) := by decide +kernel
theorem dX6_isRoomFor_41 : decode cX6_isRoomFor 41 = .ok (.iload 5, 2) := by decide +kernel
theorem dX6_isRoomFor_43 : decode cX6_isRoomFor 43 = .ok (.imul, 1) := by decide +kernel
theorem dX6_isRoomFor_44 : decode cX6_isRoomFor 44 = .ok (.iaload, 1) := by decide +kernel
theorem dX6_isRoomFor_45 : decode cX6_isRoomFor 45 = .ok (.iload_n 3, 1) := by decide +kernel
theorem dX6_isRoomFor_46 : decode cX6_isRoomFor 46 = .ok (.if_icmp .ne 7, 3) := by decide +kernel
theorem dX6_isRoomFor_49 : decode cX6_isRoomFor 49 = .ok (.iconst 1, 1) := by decide +kernel
theorem dX6_isRoomFor_50 : decode cX6_isRoomFor 50 = .ok (.goto 4, 3) := by decide +kernel
theorem dX6_isRoomFor_53 : decode cX6_isRoomFor 53 = .ok (.iconst 0, 1) := by decide +kernel
theorem dX6_isRoomFor_54 : decode cX6_isRoomFor 54 = .ok (.iadd, 1) := by decide +kernel
theorem dX6_isRoomFor_55 : decode cX6_isRoomFor 55 = .ok (.istore 4, 2) := by decide +kernel
theorem dX6_isRoomFor_57 : decode cX6_isRoomFor 57 = .ok (.iinc 5 1, 3) := by decide +kernel
theorem dX6_isRoomFor_60 : decode cX6_isRoomFor 60 = .ok (.goto (-44), 3) := by decide +kernel
theorem dX6_isRoomFor_63 : decode cX6_isRoomFor 63 = .ok (.iload_n 2, 1) := by decide +kernel
theorem dX6_isRoomFor_64 : decode cX6_isRoomFor 64 = .ok (.ifCond .eq 18, 3) := by decide +kernel
theorem dX6_isRoomFor_67 : decode cX6_isRoomFor 67 = .ok (.iload 4, 2) := by decide +kernel
theorem dX6_isRoomFor_69 : decode cX6_isRoomFor 69 = .ok (.aload_n 0, 1) := by decide +kernel
theorem dX6_isRoomFor_70 : decode cX6_isRoomFor 70 = .ok (.getfield 44, 3) := by decide +kernel
theorem dX6_isRoomFor_73 : decode cX6_isRoomFor 73 = .ok (.iload_n 3, 1) := by decide +kernel
theorem dX6_isRoomFor_74 : decode cX6_isRoomFor 74 = .ok (.iaload, 1) := by decide +kernel
theorem dX6_isRoomFor_75 : decode cX6_isRoomFor 75 = .ok (.if_icmp .gt 7, 3) := by decide +kernel
theorem dX6_isRoomFor_78 : decode cX6_isRoomFor 78 = .ok (.iconst 1, 1) := by decide +kernel
theorem dX6_isRoomFor_79 : decode cX6_isRoomFor 79 = .ok (.goto 4, 3) := by decide +kernel
theorem dX6_isRoomFor_82 : decode cX6_isRoomFor 82 = .ok (.iconst 0, 1) := by decide +kernel
theorem dX6_isRoomFor_83 : decode cX6_isRoomFor 83 = .ok (.istore_n 2, 1) := by decide +kernel
theorem dX6_isRoomFor_84 : decode cX6_isRoomFor 84 = .ok (.iinc 3 1, 3) := by decide +kernel
theorem dX6_isRoomFor_87 : decode cX6_isRoomFor 87 = .ok (.goto (-83), 3) := by decide +kernel
theorem dX6_isRoomFor_90 : decode cX6_isRoomFor 90 = .ok (.iload_n 2, 1) := by decide +kernel
theorem dX6_isRoomFor_91 : decode cX6_isRoomFor 91 = .ok (.ireturn, 1) := by decide +kernel
set_option maxRecDepth 20000 in
theorem ggX6_sureOf_X6_has : GoodIn wsX6_sureOf wsX6_has := goodIn_r _ [6] (by decide +kernel) (by decide +kernel)
set_option maxRecDepth 20000 in
theorem gX6_sureOf_X6_has : GoodIn wsX6_sureOf (va_wsS RX6 164 yX6_has wsX6_has) := goodIn_app (goodIn_of _ (by decide +kernel)) ggX6_sureOf_X6_has
theorem dX6_sureOf_0 : decode cX6_sureOf 0 = .ok (.iconst 0, 1) := by decide +kernel
theorem dX6_sureOf_1 : decode cX6_sureOf 1 = .ok (.istore_n 2, 1) := by decide +kernel
theorem dX6_sureOf_2 : decode cX6_sureOf 2 = .ok (.iconst 0, 1) := by decide +kernel
theorem dX6_sureOf_3 : decode cX6_sureOf 3 = .ok (.istore_n 3, 1) := by decide +kernel
theorem dX6_sureOf_4 : decode cX6_sureOf 4 = .ok (.iload_n 3, 1) := by decide +kernel
theorem dX6_sureOf_5 : decode cX6_sureOf 5 = .ok (.aload_n 0, 1) := by decide +kernel
theorem dX6_sureOf_6 : decode cX6_sureOf 6 = .ok (.getfield 55, 3) := by decide +kernel
theorem dX6_sureOf_9 : decode cX6_sureOf 9 = .ok (.if_icmp .ge 34, 3) := by decide +kernel
theorem dX6_sureOf_12 : decode cX6_sureOf 12 = .ok (.iload_n 2, 1) := by decide +kernel
theorem dX6_sureOf_13 : decode cX6_sureOf 13 = .ok (.iload_n 1, 1) := by decide +kernel
theorem dX6_sureOf_14 : decode cX6_sureOf 14 = .ok (.iload_n 3, 1) := by decide +kernel
theorem dX6_sureOf_15 : decode cX6_sureOf 15 = .ok (.invokestatic 164, 3) := by decide +kernel
theorem dX6_sureOf_18 : decode cX6_sureOf 18 = .ok (.ifCond .eq 16, 3) := by decide +kernel
theorem dX6_sureOf_21 : decode cX6_sureOf 21 = .ok (.aload_n 0, 1) := by decide +kernel
theorem dX6_sureOf_22 : decode cX6_sureOf 22 = .ok (.getfield 16, 3) := by decide +kernel
theorem dX6_sureOf_25 : decode cX6_sureOf 25 = .ok (.iconst 2, 1) := by decide +kernel
theorem dX6_sureOf_26 : decode cX6_sureOf 26 = .ok (.iload_n 3, 1) := by decide +kernel
theorem dX6_sureOf_27 : decode cX6_sureOf 27 = .ok (.imul, 1) := by decide +kernel
theorem dX6_sureOf_28 : decode cX6_sureOf 28 = .ok (.iconst 1, 1) := by decide +kernel
theorem dX6_sureOf_29 : decode cX6_sureOf 29 = .ok (.iadd, 1) := by decide +kernel
theorem dX6_sureOf_30 : decode cX6_sureOf 30 = .ok (.iaload, 1) := by decide +kernel
theorem dX6_sureOf_31 : decode cX6_sureOf 31 = .ok (.goto 4, 3) := by decide +kernel
theorem dX6_sureOf_34 : decode cX6_sureOf 34 = .ok (.iconst 0, 1) := by decide +kernel
theorem dX6_sureOf_35 : decode cX6_sureOf 35 = .ok (.iadd, 1) := by decide +kernel
theorem dX6_sureOf_36 : decode cX6_sureOf 36 = .ok (.istore_n 2, 1) := by decide +kernel
theorem dX6_sureOf_37 : decode cX6_sureOf 37 = .ok (.iinc 3 1, 3) := by decide +kernel
theorem dX6_sureOf_40 : decode cX6_sureOf 40 = .ok (.goto (-36), 3) := by decide +kernel
theorem dX6_sureOf_43 : decode cX6_sureOf 43 = .ok (.iload_n 2, 1) := by decide +kernel
theorem dX6_sureOf_44 : decode cX6_sureOf 44 = .ok (.ireturn, 1) := by decide +kernel
set_option maxRecDepth 20000 in
theorem ggX6_best_X6_areHours : GoodIn wsX6_best wsX6_areHours := goodIn_r _ [5, 6, 7, 4, 8, 9, 10, 11] (by decide +kernel) (by decide +kernel)
set_option maxRecDepth 20000 in
theorem gX6_best_X6_areHours : GoodIn wsX6_best (va_wsS RX6 168 yX6_areHours wsX6_areHours) := goodIn_app (goodIn_of _ (by decide +kernel)) ggX6_best_X6_areHours
set_option maxRecDepth 20000 in
theorem ggX6_best_X6_in : GoodIn wsX6_best wsX6_in := goodIn_r _ [11] (by decide +kernel) (by decide +kernel)
set_option maxRecDepth 20000 in
theorem gX6_best_X6_in : GoodIn wsX6_best (va_wsS RX6 51 yX6_in wsX6_in) := goodIn_app (goodIn_of _ (by decide +kernel)) ggX6_best_X6_in
set_option maxRecDepth 20000 in
theorem ggX6_best_X6_findRoom : GoodIn wsX6_best wsX6_findRoom := goodIn_r _ [15, 16, 17, 18, 19, 20, 4, 21, 22, 35, 36, 37, 38, 39, 40, 41, 42, 43, 44, 45, 46, 47, 48, 49, 50, 51, 52, 53, 54, 55, 56, 57, 58, 59, 60, 61, 62, 63, 64] (by decide +kernel) (by decide +kernel)
set_option maxRecDepth 20000 in
theorem gX6_best_X6_findRoom : GoodIn wsX6_best (wsV RX6 171 RX6 yX6_findRoom wsX6_findRoom) := goodIn_app (goodIn_of _ (by decide +kernel)) ggX6_best_X6_findRoom
set_option maxRecDepth 20000 in
theorem ggX6_best_X6_isRoomFor : GoodIn wsX6_best wsX6_isRoomFor := goodIn_r _ [26, 1, 27, 16, 28, 29, 4, 30, 35, 36, 37, 38, 39, 40, 41, 42, 43, 44, 45, 46, 47, 48, 49, 50, 51, 52, 53, 54, 55, 56, 57, 58, 59, 60, 61, 62, 63, 64] (by decide +kernel) (by decide +kernel)
set_option maxRecDepth 20000 in
theorem gX6_best_X6_isRoomFor : GoodIn wsX6_best (wsV RX6 174 RX6 yX6_isRoomFor wsX6_isRoomFor) := goodIn_app (goodIn_of _ (by decide +kernel)) ggX6_best_X6_isRoomFor
set_option maxRecDepth 20000 in
theorem ggX6_best_X6_sureOf : GoodIn wsX6_best wsX6_sureOf := goodIn_r _ [34, 1, 27, 28, 29, 4, 30, 35, 36, 37, 38, 39, 40, 41, 42, 43, 44, 45, 46, 47, 48, 49, 50, 51, 52, 53, 54, 55, 56, 57, 58, 59, 60, 61, 62, 63, 64] (by decide +kernel) (by decide +kernel)
set_option maxRecDepth 20000 in
theorem gX6_best_X6_sureOf : GoodIn wsX6_best (wsV RX6 177 RX6 yX6_sureOf wsX6_sureOf) := goodIn_app (goodIn_of _ (by decide +kernel)) ggX6_best_X6_sureOf
theorem dX6_best_0 : decode cX6_best 0 = .ok (.iload_n 1, 1) := by decide +kernel
theorem dX6_best_1 : decode cX6_best 1 = .ok (.iload_n 2, 1) := by decide +kernel
theorem dX6_best_2 : decode cX6_best 2 = .ok (.invokestatic 168, 3) := by decide +kernel
theorem dX6_best_5 : decode cX6_best 5 = .ok (.ifCond .eq 12, 3) := by decide +kernel
theorem dX6_best_8 : decode cX6_best 8 = .ok (.iload_n 3, 1) := by decide +kernel
theorem dX6_best_9 : decode cX6_best 9 = .ok (.iconst 0, 1) := by decide +kernel
theorem dX6_best_10 : decode cX6_best 10 = .ok (.iconst 1, 1) := by decide +kernel
theorem dX6_best_11 : decode cX6_best 11 = .ok (.invokestatic 51, 3) := by decide +kernel
theorem dX6_best_14 : decode cX6_best 14 = .ok (.ifCond .ne 5, 3) := by decide +kernel
theorem dX6_best_17 : decode cX6_best 17 = .ok (.iconst (-1), 1) := by decide +kernel
theorem dX6_best_18 : decode cX6_best 18 = .ok (.ireturn, 1) := by decide +kernel
theorem dX6_best_19 : decode cX6_best 19 = .ok (.aload_n 0, 1) := by decide +kernel
theorem dX6_best_20 : decode cX6_best 20 = .ok (.iload_n 1, 1) := by decide +kernel
theorem dX6_best_21 : decode cX6_best 21 = .ok (.iload_n 2, 1) := by decide +kernel
theorem dX6_best_22 : decode cX6_best 22 = .ok (.invokevirtual 171, 3) := by decide +kernel
theorem dX6_best_25 : decode cX6_best 25 = .ok (.iconst 0, 1) := by decide +kernel
theorem dX6_best_26 : decode cX6_best 26 = .ok (.istore 4, 2) := by decide +kernel
theorem dX6_best_28 : decode cX6_best 28 = .ok (.iconst 1, 1) := by decide +kernel
theorem dX6_best_29 : decode cX6_best 29 = .ok (.istore 5, 2) := by decide +kernel
theorem dX6_best_31 : decode cX6_best 31 = .ok (.iload 5, 2) := by decide +kernel
theorem dX6_best_33 : decode cX6_best 33 = .ok (.iconst 1, 1) := by decide +kernel
theorem dX6_best_34 : decode cX6_best 34 = .ok (.aload_n 0, 1) := by decide +kernel
theorem dX6_best_35 : decode cX6_best 35 = .ok (.getfield 55, 3) := by decide +kernel
theorem dX6_best_38 : decode cX6_best 38 = .ok (.ishl, 1) := by decide +kernel
theorem dX6_best_39 : decode cX6_best 39 = .ok (.if_icmp .ge 42, 3) := by decide +kernel
theorem dX6_best_42 : decode cX6_best 42 = .ok (.aload_n 0, 1) := by decide +kernel
theorem dX6_best_43 : decode cX6_best 43 = .ok (.iload 5, 2) := by decide +kernel
theorem dX6_best_45 : decode cX6_best 45 = .ok (.invokevirtual 174, 3) := by decide +kernel
theorem dX6_best_48 : decode cX6_best 48 = .ok (.ifCond .eq 23, 3) := by decide +kernel
theorem dX6_best_51 : decode cX6_best 51 = .ok (.aload_n 0, 1) := by decide +kernel
theorem dX6_best_52 : decode cX6_best 52 = .ok (.iload 5, 2) := by decide +kernel
theorem dX6_best_54 : decode cX6_best 54 = .ok (.invokevirtual 177, 3) := by decide +kernel
theorem dX6_best_57 : decode cX6_best 57 = .ok (.aload_n 0, 1) := by decide +kernel
theorem dX6_best_58 : decode cX6_best 58 = .ok (.iload 4, 2) := by decide +kernel
theorem dX6_best_60 : decode cX6_best 60 = .ok (.invokevirtual 177, 3) := by decide +kernel
theorem dX6_best_63 : decode cX6_best 63 = .ok (.if_icmp .le 8, 3) := by decide +kernel
theorem dX6_best_66 : decode cX6_best 66 = .ok (.iload 5, 2) := by decide +kernel
theorem dX6_best_68 : decode cX6_best 68 = .ok (.goto 5, 3) := by decide +kernel
theorem dX6_best_71 : decode cX6_best 71 = .ok (.iload 4, 2) := by decide +kernel
theorem dX6_best_73 : decode cX6_best 73 = .ok (.istore 4, 2) := by decide +kernel
theorem dX6_best_75 : decode cX6_best 75 = .ok (.iinc 5 1, 3) := by decide +kernel
theorem dX6_best_78 : decode cX6_best 78 = .ok (.goto (-47), 3) := by decide +kernel
theorem dX6_best_81 : decode cX6_best 81 = .ok (.iload_n 3, 1) := by decide +kernel
theorem dX6_best_82 : decode cX6_best 82 = .ok (.ifCond .ne 12, 3) := by decide +kernel
theorem dX6_best_85 : decode cX6_best 85 = .ok (.aload_n 0, 1) := by decide +kernel
theorem dX6_best_86 : decode cX6_best 86 = .ok (.iload 4, 2) := by decide +kernel
theorem dX6_best_88 : decode cX6_best 88 = .ok (.invokevirtual 177, 3) := by decide +kernel
theorem dX6_best_91 : decode cX6_best 91 = .ok (.goto 5, 3) := by decide +kernel
theorem dX6_best_94 : decode cX6_best 94 = .ok (.iload 4, 2) := by decide +kernel
theorem dX6_best_96 : decode cX6_best 96 = .ok (.ireturn, 1) := by decide +kernel
set_option maxRecDepth 20000 in
theorem ggX6_chance_X6_areHours : GoodIn wsX6_chance wsX6_areHours := goodIn_r _ [7, 8, 9, 6, 10, 11, 12, 13] (by decide +kernel) (by decide +kernel)
set_option maxRecDepth 20000 in
theorem gX6_chance_X6_areHours : GoodIn wsX6_chance (va_wsS RX6 168 yX6_areHours wsX6_areHours) := goodIn_app (goodIn_of _ (by decide +kernel)) ggX6_chance_X6_areHours
set_option maxRecDepth 20000 in
theorem ggX6_chance_X6_in : GoodIn wsX6_chance wsX6_in := goodIn_r _ [13] (by decide +kernel) (by decide +kernel)
set_option maxRecDepth 20000 in
theorem gX6_chance_X6_in : GoodIn wsX6_chance (va_wsS RX6 51 yX6_in wsX6_in) := goodIn_app (goodIn_of _ (by decide +kernel)) ggX6_chance_X6_in
set_option maxRecDepth 20000 in
theorem ggX6_chance_X6_findRoom : GoodIn wsX6_chance wsX6_findRoom := goodIn_r _ [17, 2, 18, 19, 20, 21, 6, 22, 23, 24, 25, 26, 27, 28, 29, 30, 31, 32, 33, 34, 35, 36, 37, 38, 39, 40, 41, 42, 43, 44, 45, 46, 47, 48, 49, 50, 51, 52, 53] (by decide +kernel) (by decide +kernel)
set_option maxRecDepth 20000 in
theorem gX6_chance_X6_findRoom : GoodIn wsX6_chance (wsV RX6 171 RX6 yX6_findRoom wsX6_findRoom) := goodIn_app (goodIn_of _ (by decide +kernel)) ggX6_chance_X6_findRoom
theorem dX6_chance_0 : decode cX6_chance 0 = .ok (.iload_n 1, 1) := by decide +kernel
theorem dX6_chance_1 : decode cX6_chance 1 = .ok (.iload_n 2, 1) := by decide +kernel
theorem dX6_chance_2 : decode cX6_chance 2 = .ok (.invokestatic 168, 3) := by decide +kernel
theorem dX6_chance_5 : decode cX6_chance 5 = .ok (.ifCond .eq 12, 3) := by decide +kernel
theorem dX6_chance_8 : decode cX6_chance 8 = .ok (.iload_n 3, 1) := by decide +kernel
theorem dX6_chance_9 : decode cX6_chance 9 = .ok (.iconst 0, 1) := by decide +kernel
theorem dX6_chance_10 : decode cX6_chance 10 = .ok (.iconst 1, 1) := by decide +kernel
theorem dX6_chance_11 : decode cX6_chance 11 = .ok (.invokestatic 51, 3) := by decide +kernel
theorem dX6_chance_14 : decode cX6_chance 14 = .ok (.ifCond .ne 5, 3) := by decide +kernel
theorem dX6_chance_17 : decode cX6_chance 17 = .ok (.iconst (-1), 1) := by decide +kernel
theorem dX6_chance_18 : decode cX6_chance 18 = .ok (.ireturn, 1) := by decide +kernel
theorem dX6_chance_19 : decode cX6_chance 19 = .ok (.aload_n 0, 1) := by decide +kernel
theorem dX6_chance_20 : decode cX6_chance 20 = .ok (.iload_n 1, 1) := by decide +kernel
theorem dX6_chance_21 : decode cX6_chance 21 = .ok (.iload_n 2, 1) := by decide +kernel
theorem dX6_chance_22 : decode cX6_chance 22 = .ok (.invokevirtual 171, 3) := by decide +kernel
theorem dX6_chance_25 : decode cX6_chance 25 = .ok (.iconst 1, 1) := by decide +kernel
theorem dX6_chance_26 : decode cX6_chance 26 = .ok (.istore 4, 2) := by decide +kernel
theorem dX6_chance_28 : decode cX6_chance 28 = .ok (.iconst 1, 1) := by decide +kernel
theorem dX6_chance_29 : decode cX6_chance 29 = .ok (.istore 5, 2) := by decide +kernel
theorem dX6_chance_31 : decode cX6_chance 31 = .ok (.iconst 0, 1) := by decide +kernel
theorem dX6_chance_32 : decode cX6_chance 32 = .ok (.istore 6, 2) := by decide +kernel
theorem dX6_chance_34 : decode cX6_chance 34 = .ok (.iload 6, 2) := by decide +kernel
theorem dX6_chance_36 : decode cX6_chance 36 = .ok (.aload_n 0, 1) := by decide +kernel
theorem dX6_chance_37 : decode cX6_chance 37 = .ok (.getfield 55, 3) := by decide +kernel
theorem dX6_chance_40 : decode cX6_chance 40 = .ok (.if_icmp .ge 77, 3) := by decide +kernel
theorem dX6_chance_43 : decode cX6_chance 43 = .ok (.aload_n 0, 1) := by decide +kernel
theorem dX6_chance_44 : decode cX6_chance 44 = .ok (.getfield 44, 3) := by decide +kernel
theorem dX6_chance_47 : decode cX6_chance 47 = .ok (.aload_n 0, 1) := by decide +kernel
theorem dX6_chance_48 : decode cX6_chance 48 = .ok (.getfield 16, 3) := by decide +kernel
theorem dX6_chance_51 : decode cX6_chance 51 = .ok (.iconst 2, 1) := by decide +kernel
theorem dX6_chance_52 : decode cX6_chance 52 = .ok (.iload 6, 2) := by decide +kernel
theorem dX6_chance_54 : decode cX6_chance 54 = .ok (.imul, 1) := by decide +kernel
theorem dX6_chance_55 : decode cX6_chance 55 = .ok (.iaload, 1) := by decide +kernel
theorem dX6_chance_56 : decode cX6_chance 56 = .ok (.iaload, 1) := by decide +kernel
theorem dX6_chance_57 : decode cX6_chance 57 = .ok (.ifCond .le 7, 3) := by decide +kernel
theorem dX6_chance_60 : decode cX6_chance 60 = .ok (.iconst 1, 1) := by decide +kernel
theorem dX6_chance_61 : decode cX6_chance 61 = .ok (.goto 4, 3) := by decide +kernel
theorem dX6_chance_64 : decode cX6_chance 64 = .ok (.iconst 0, 1) := by decide +kernel
theorem dX6_chance_65 : decode cX6_chance 65 = .ok (.istore 7, 2) := by decide +kernel
theorem dX6_chance_67 : decode cX6_chance 67 = .ok (.iload 4, 2) := by decide +kernel
theorem dX6_chance_69 : decode cX6_chance 69 = .ok (.iload 7, 2) := by decide +kernel
theorem dX6_chance_71 : decode cX6_chance 71 = .ok (.ifCond .eq 20, 3) := by decide +kernel
theorem dX6_chance_74 : decode cX6_chance 74 = .ok (.bipush 10, 2) := by decide +kernel
theorem dX6_chance_76 : decode cX6_chance 76 = .ok (.aload_n 0, 1) := by decide +kernel
theorem dX6_chance_77 : decode cX6_chance 77 = .ok (.getfield 16, 3) := by decide +kernel
theorem dX6_chance_80 : decode cX6_chance 80 = .ok (.iconst 2, 1) := by decide +kernel
theorem dX6_chance_81 : decode cX6_chance 81 = .ok (.iload 6, 2) := by decide +kernel
theorem dX6_chance_83 : decode cX6_chance 83 = .ok (.imul, 1) := by decide +kernel
theorem dX6_chance_84 : decode cX6_chance 84 = .ok (.iconst 1, 1) := by decide +kernel
theorem dX6_chance_85 : decode cX6_chance 85 = .ok (.iadd, 1) := by decide +kernel
theorem dX6_chance_86 : decode cX6_chance 86 = .ok (.iaload, 1) := by decide +kernel
theorem dX6_chance_87 : decode cX6_chance 87 = .ok (.isub, 1) := by decide +kernel
theorem dX6_chance_88 : decode cX6_chance 88 = .ok (.goto 4, 3) := by decide +kernel
theorem dX6_chance_91 : decode cX6_chance 91 = .ok (.iconst 1, 1) := by decide +kernel
theorem dX6_chance_92 : decode cX6_chance 92 = .ok (.imul, 1) := by decide +kernel
theorem dX6_chance_93 : decode cX6_chance 93 = .ok (.istore 4, 2) := by decide +kernel
theorem dX6_chance_95 : decode cX6_chance 95 = .ok (.iload 5, 2) := by decide +kernel
theorem dX6_chance_97 : decode cX6_chance 97 = .ok (.iload 7, 2) := by decide +kernel
theorem dX6_chance_99 : decode cX6_chance 99 = .ok (.ifCond .eq 8, 3) := by decide +kernel
theorem dX6_chance_102 : decode cX6_chance 102 = .ok (.bipush 10, 2) := by decide +kernel
theorem dX6_chance_104 : decode cX6_chance 104 = .ok (.goto 4, 3) := by decide +kernel
theorem dX6_chance_107 : decode cX6_chance 107 = .ok (.iconst 1, 1) := by decide +kernel
theorem dX6_chance_108 : decode cX6_chance 108 = .ok (.imul, 1) := by decide +kernel
theorem dX6_chance_109 : decode cX6_chance 109 = .ok (.istore 5, 2) := by decide +kernel
theorem dX6_chance_111 : decode cX6_chance 111 = .ok (.iinc 6 1, 3) := by decide +kernel
theorem dX6_chance_114 : decode cX6_chance 114 = .ok (.goto (-80), 3) := by decide +kernel
theorem dX6_chance_117 : decode cX6_chance 117 = .ok (.iload 5, 2) := by decide +kernel
theorem dX6_chance_119 : decode cX6_chance 119 = .ok (.iload 4, 2) := by decide +kernel
theorem dX6_chance_121 : decode cX6_chance 121 = .ok (.isub, 1) := by decide +kernel
theorem dX6_chance_122 : decode cX6_chance 122 = .ok (.istore 6, 2) := by decide +kernel
theorem dX6_chance_124 : decode cX6_chance 124 = .ok (.iload 5, 2) := by decide +kernel
theorem dX6_chance_126 : decode cX6_chance 126 = .ok (.istore 7, 2) := by decide +kernel
theorem dX6_chance_128 : decode cX6_chance 128 = .ok (.iload 7, 2) := by decide +kernel
theorem dX6_chance_130 : decode cX6_chance 130 = .ok (.ifCond .le 21, 3) := by decide +kernel
theorem dX6_chance_133 : decode cX6_chance 133 = .ok (.iload 6, 2) := by decide +kernel
theorem dX6_chance_135 : decode cX6_chance 135 = .ok (.iload 7, 2) := by decide +kernel
theorem dX6_chance_137 : decode cX6_chance 137 = .ok (.irem, 1) := by decide +kernel
theorem dX6_chance_138 : decode cX6_chance 138 = .ok (.istore 8, 2) := by decide +kernel
theorem dX6_chance_140 : decode cX6_chance 140 = .ok (.iload 7, 2) := by decide +kernel
theorem dX6_chance_142 : decode cX6_chance 142 = .ok (.istore 6, 2) := by decide +kernel
theorem dX6_chance_144 : decode cX6_chance 144 = .ok (.iload 8, 2) := by decide +kernel
theorem dX6_chance_146 : decode cX6_chance 146 = .ok (.istore 7, 2) := by decide +kernel
theorem dX6_chance_148 : decode cX6_chance 148 = .ok (.goto (-20), 3) := by decide +kernel
theorem dX6_chance_151 : decode cX6_chance 151 = .ok (.iload_n 3, 1) := by decide +kernel
theorem dX6_chance_152 : decode cX6_chance 152 = .ok (.ifCond .ne 11, 3) := by decide +kernel
theorem dX6_chance_155 : decode cX6_chance 155 = .ok (.iload 5, 2) := by decide +kernel
theorem dX6_chance_157 : decode cX6_chance 157 = .ok (.iload 4, 2) := by decide +kernel
theorem dX6_chance_159 : decode cX6_chance 159 = .ok (.isub, 1) := by decide +kernel
theorem dX6_chance_160 : decode cX6_chance 160 = .ok (.goto 5, 3) := by decide +kernel
theorem dX6_chance_163 : decode cX6_chance 163 = .ok (.iload 5, 2) := by decide +kernel
theorem dX6_chance_165 : decode cX6_chance 165 = .ok (.iload 6, 2) := by decide +kernel
theorem dX6_chance_167 : decode cX6_chance 167 = .ok (.idiv, 1) := by decide +kernel
theorem dX6_chance_168 : decode cX6_chance 168 = .ok (.ireturn, 1) := by decide +kernel
set_option maxRecDepth 20000 in
theorem ggX6_apart_X6_areHours : GoodIn wsX6_apart wsX6_areHours := goodIn_r _ [5, 6, 7, 4, 8, 9, 10, 11] (by decide +kernel) (by decide +kernel)
set_option maxRecDepth 20000 in
theorem gX6_apart_X6_areHours : GoodIn wsX6_apart (va_wsS RX6 168 yX6_areHours wsX6_areHours) := goodIn_app (goodIn_of _ (by decide +kernel)) ggX6_apart_X6_areHours
set_option maxRecDepth 20000 in
theorem ggX6_apart_X6_in : GoodIn wsX6_apart wsX6_in := goodIn_r _ [11] (by decide +kernel) (by decide +kernel)
set_option maxRecDepth 20000 in
theorem gX6_apart_X6_in : GoodIn wsX6_apart (va_wsS RX6 51 yX6_in wsX6_in) := goodIn_app (goodIn_of _ (by decide +kernel)) ggX6_apart_X6_in
set_option maxRecDepth 20000 in
theorem ggX6_apart_X6_has : GoodIn wsX6_apart wsX6_has := goodIn_r _ [14] (by decide +kernel) (by decide +kernel)
set_option maxRecDepth 20000 in
theorem gX6_apart_X6_has : GoodIn wsX6_apart (va_wsS RX6 164 yX6_has wsX6_has) := goodIn_app (goodIn_of _ (by decide +kernel)) ggX6_apart_X6_has
set_option maxRecDepth 20000 in
theorem ggX6_apart_X6_looksOf : GoodIn wsX6_apart wsX6_looksOf := goodIn_r _ [18, 19, 23, 24, 25, 26, 27, 28, 29, 30, 31, 32, 33, 34, 35, 36, 37, 38, 39, 40, 41, 42, 43, 44, 45, 46, 47, 48, 49, 50, 51, 52] (by decide +kernel) (by decide +kernel)
set_option maxRecDepth 20000 in
theorem gX6_apart_X6_looksOf : GoodIn wsX6_apart (wsV RX6 146 RX6 yX6_looksOf wsX6_looksOf) := goodIn_app (goodIn_of _ (by decide +kernel)) ggX6_apart_X6_looksOf
set_option maxRecDepth 20000 in
theorem ggX6_apart_X6_bits : GoodIn wsX6_apart wsX6_bits := goodIn_r _ [22] (by decide +kernel) (by decide +kernel)
set_option maxRecDepth 20000 in
theorem gX6_apart_X6_bits : GoodIn wsX6_apart (va_wsS RX6 180 yX6_bits wsX6_bits) := goodIn_app (goodIn_of _ (by decide +kernel)) ggX6_apart_X6_bits
theorem dX6_apart_0 : decode cX6_apart 0 = .ok (.iload_n 1, 1) := by decide +kernel
theorem dX6_apart_1 : decode cX6_apart 1 = .ok (.iload_n 2, 1) := by decide +kernel
theorem dX6_apart_2 : decode cX6_apart 2 = .ok (.invokestatic 168, 3) := by decide +kernel
theorem dX6_apart_5 : decode cX6_apart 5 = .ok (.ifCond .eq 12, 3) := by decide +kernel
theorem dX6_apart_8 : decode cX6_apart 8 = .ok (.iload_n 3, 1) := by decide +kernel
theorem dX6_apart_9 : decode cX6_apart 9 = .ok (.iconst 0, 1) := by decide +kernel
theorem dX6_apart_10 : decode cX6_apart 10 = .ok (.iconst 1, 1) := by decide +kernel
theorem dX6_apart_11 : decode cX6_apart 11 = .ok (.invokestatic 51, 3) := by decide +kernel
theorem dX6_apart_14 : decode cX6_apart 14 = .ok (.ifCond .ne 5, 3) := by decide +kernel
theorem dX6_apart_17 : decode cX6_apart 17 = .ok (.iconst (-1), 1) := by decide +kernel
theorem dX6_apart_18 : decode cX6_apart 18 = .ok (.ireturn, 1) := by decide +kernel
theorem dX6_apart_19 : decode cX6_apart 19 = .ok (.bipush (-9), 2) := by decide +kernel
theorem dX6_apart_21 : decode cX6_apart 21 = .ok (.istore 4, 2) := by decide +kernel
theorem dX6_apart_23 : decode cX6_apart 23 = .ok (.iconst 0, 1) := by decide +kernel
theorem dX6_apart_24 : decode cX6_apart 24 = .ok (.istore 5, 2) := by decide +kernel
theorem dX6_apart_26 : decode cX6_apart 26 = .ok (.iload 5, 2) := by decide +kernel
theorem dX6_apart_28 : decode cX6_apart 28 = .ok (.iconst 1, 1) := by decide +kernel
theorem dX6_apart_29 : decode cX6_apart 29 = .ok (.aload_n 0, 1) := by decide +kernel
theorem dX6_apart_30 : decode cX6_apart 30 = .ok (.getfield 47, 3) := by decide +kernel
theorem dX6_apart_33 : decode cX6_apart 33 = .ok (.ishl, 1) := by decide +kernel
theorem dX6_apart_34 : decode cX6_apart 34 = .ok (.if_icmp .ge 125, 3) := by decide +kernel
theorem dX6_apart_37 : decode cX6_apart 37 = .ok (.iconst 0, 1) := by decide +kernel
theorem dX6_apart_38 : decode cX6_apart 38 = .ok (.istore 6, 2) := by decide +kernel
theorem dX6_apart_40 : decode cX6_apart 40 = .ok (.iconst 0, 1) := by decide +kernel
theorem dX6_apart_41 : decode cX6_apart 41 = .ok (.istore 7, 2) := by decide +kernel
theorem dX6_apart_43 : decode cX6_apart 43 = .ok (.iload 7, 2) := by decide +kernel
theorem dX6_apart_45 : decode cX6_apart 45 = .ok (.aload_n 0, 1) := by decide +kernel
theorem dX6_apart_46 : decode cX6_apart 46 = .ok (.getfield 47, 3) := by decide +kernel
theorem dX6_apart_49 : decode cX6_apart 49 = .ok (.if_icmp .ge 53, 3) := by decide +kernel
theorem dX6_apart_52 : decode cX6_apart 52 = .ok (.iload_n 1, 1) := by decide +kernel
theorem dX6_apart_53 : decode cX6_apart 53 = .ok (.istore 8, 2) := by decide +kernel
theorem dX6_apart_55 : decode cX6_apart 55 = .ok (.iload 8, 2) := by decide +kernel
theorem dX6_apart_57 : decode cX6_apart 57 = .ok (.iload_n 2, 1) := by decide +kernel
theorem dX6_apart_58 : decode cX6_apart 58 = .ok (.if_icmp .gt 38, 3) := by decide +kernel
theorem dX6_apart_61 : decode cX6_apart 61 = .ok (.iload 6, 2) := by decide +kernel
theorem dX6_apart_63 : decode cX6_apart 63 = .ok (.iload 5, 2) := by decide +kernel
theorem dX6_apart_65 : decode cX6_apart 65 = .ok (.iload 7, 2) := by decide +kernel
theorem dX6_apart_67 : decode cX6_apart 67 = .ok (.invokestatic 164, 3) := by decide +kernel
theorem dX6_apart_70 : decode cX6_apart 70 = .ok (.ifCond .eq 16, 3) := by decide +kernel
theorem dX6_apart_73 : decode cX6_apart 73 = .ok (.iconst 1, 1) := by decide +kernel
theorem dX6_apart_74 : decode cX6_apart 74 = .ok (.aload_n 0, 1) := by decide +kernel
theorem dX6_apart_75 : decode cX6_apart 75 = .ok (.iload 7, 2) := by decide +kernel
theorem dX6_apart_77 : decode cX6_apart 77 = .ok (.iload 8, 2) := by decide +kernel
theorem dX6_apart_79 : decode cX6_apart 79 = .ok (.invokevirtual 146, 3) := by decide +kernel
theorem dX6_apart_82 : decode cX6_apart 82 = .ok (.ishl, 1) := by decide +kernel
theorem dX6_apart_83 : decode cX6_apart 83 = .ok (.goto 4, 3) := by decide +kernel
theorem dX6_apart_86 : decode cX6_apart 86 = .ok (.iconst 0, 1) := by decide +kernel
theorem dX6_apart_87 : decode cX6_apart 87 = .ok (.ior, 1) := by decide +kernel
theorem dX6_apart_88 : decode cX6_apart 88 = .ok (.istore 6, 2) := by decide +kernel
theorem dX6_apart_90 : decode cX6_apart 90 = .ok (.iinc 8 1, 3) := by decide +kernel
theorem dX6_apart_93 : decode cX6_apart 93 = .ok (.goto (-38), 3) := by decide +kernel
theorem dX6_apart_96 : decode cX6_apart 96 = .ok (.iinc 7 1, 3) := by decide +kernel
theorem dX6_apart_99 : decode cX6_apart 99 = .ok (.goto (-56), 3) := by decide +kernel
theorem dX6_apart_102 : decode cX6_apart 102 = .ok (.iload 6, 2) := by decide +kernel
theorem dX6_apart_104 : decode cX6_apart 104 = .ok (.invokestatic 180, 3) := by decide +kernel
theorem dX6_apart_107 : decode cX6_apart 107 = .ok (.bipush 7, 2) := by decide +kernel
theorem dX6_apart_109 : decode cX6_apart 109 = .ok (.if_icmp .lt 27, 3) := by decide +kernel
theorem dX6_apart_112 : decode cX6_apart 112 = .ok (.iload 4, 2) := by decide +kernel
theorem dX6_apart_114 : decode cX6_apart 114 = .ok (.bipush (-9), 2) := by decide +kernel
theorem dX6_apart_116 : decode cX6_apart 116 = .ok (.if_icmp .eq 16, 3) := by decide +kernel
theorem dX6_apart_119 : decode cX6_apart 119 = .ok (.iload 5, 2) := by decide +kernel
theorem dX6_apart_121 : decode cX6_apart 121 = .ok (.invokestatic 180, 3) := by decide +kernel
theorem dX6_apart_124 : decode cX6_apart 124 = .ok (.iload 4, 2) := by decide +kernel
theorem dX6_apart_126 : decode cX6_apart 126 = .ok (.invokestatic 180, 3) := by decide +kernel
theorem dX6_apart_129 : decode cX6_apart 129 = .ok (.if_icmp .ge 7, 3) := by decide +kernel
theorem dX6_apart_132 : decode cX6_apart 132 = .ok (.iconst 1, 1) := by decide +kernel
theorem dX6_apart_133 : decode cX6_apart 133 = .ok (.goto 4, 3) := by decide +kernel
theorem dX6_apart_136 : decode cX6_apart 136 = .ok (.iconst 0, 1) := by decide +kernel
theorem dX6_apart_137 : decode cX6_apart 137 = .ok (.istore 7, 2) := by decide +kernel
theorem dX6_apart_139 : decode cX6_apart 139 = .ok (.iload 7, 2) := by decide +kernel
theorem dX6_apart_141 : decode cX6_apart 141 = .ok (.ifCond .eq 8, 3) := by decide +kernel
theorem dX6_apart_144 : decode cX6_apart 144 = .ok (.iload 5, 2) := by decide +kernel
theorem dX6_apart_146 : decode cX6_apart 146 = .ok (.goto 5, 3) := by decide +kernel
theorem dX6_apart_149 : decode cX6_apart 149 = .ok (.iload 4, 2) := by decide +kernel
theorem dX6_apart_151 : decode cX6_apart 151 = .ok (.istore 4, 2) := by decide +kernel
theorem dX6_apart_153 : decode cX6_apart 153 = .ok (.iinc 5 1, 3) := by decide +kernel
theorem dX6_apart_156 : decode cX6_apart 156 = .ok (.goto (-130), 3) := by decide +kernel
theorem dX6_apart_159 : decode cX6_apart 159 = .ok (.iload 4, 2) := by decide +kernel
theorem dX6_apart_161 : decode cX6_apart 161 = .ok (.bipush (-9), 2) := by decide +kernel
theorem dX6_apart_163 : decode cX6_apart 163 = .ok (.if_icmp .eq 8, 3) := by decide +kernel
theorem dX6_apart_166 : decode cX6_apart 166 = .ok (.iload_n 3, 1) := by decide +kernel
theorem dX6_apart_167 : decode cX6_apart 167 = .ok (.iconst 1, 1) := by decide +kernel
theorem dX6_apart_168 : decode cX6_apart 168 = .ok (.if_icmp .ne 8, 3) := by decide +kernel
theorem dX6_apart_171 : decode cX6_apart 171 = .ok (.iload 4, 2) := by decide +kernel
theorem dX6_apart_173 : decode cX6_apart 173 = .ok (.goto 8, 3) := by decide +kernel
theorem dX6_apart_176 : decode cX6_apart 176 = .ok (.iload 4, 2) := by decide +kernel
theorem dX6_apart_178 : decode cX6_apart 178 = .ok (.invokestatic 180, 3) := by decide +kernel
